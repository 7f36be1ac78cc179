/-! pass, act, terms, word: what both do to the data of the next instruction. -/
def ZV (xl : List String) (wc : (SG → NU → Prop) → (String → SG → NU → Prop) → Prop) (wr : (RH → Prop) → Prop) : Prop :=
  ∃ (k : Int32) (P : SG → NU → Prop) (R : RH → Prop), wc (fun σ' ν' => k = 0 ∧ P σ' ν') (fun E σ' ν' => xk9 xl E k ∧ P σ' ν') ∧ wr (fun ρ' => ρ' 48 0 = k ∧ R ρ') ∧ ∀ σ' ν' ρ', P σ' ν' → R ρ' → ∃ n' np', SIM σ' ν' ρ' n' np'
def frX (n N : Nat) (σ σ' : SG) : Prop := ∀ a b, ¬ (a = 3 ∧ b = n) → ¬ ((a = 4 ∨ a = 22) ∧ (b = 2 * n ∨ b = 2 * n + 1)) → ¬ (a = 5 ∧ b = N) → ¬ (a = 0 ∧ b = 0) → σ' a b = σ a b
theorem PH.nx {n N ph : Nat} {σ σ' : SG} {s : List Int32} (h : PH σ ph s) (g : frX n N σ σ') (hp : ph < 2 * n) : PH σ' ph s := by
  unfold PH at *
  rw [g 4 ph (fun z => by omega) (fun z => by omega) (fun z => by omega) (fun z => by omega), g 22 ph (fun z => by omega) (fun z => by omega) (fun z => by omega) (fun z => by omega)]
  exact h
theorem CDT.nx {n N : Nat} {σ σ' : SG} {ν ν' : NU} {ρ : RH} (h : CDT σ ν ρ n) (g : frX n N σ σ') (hN : ∀ i, i < n → ν 3 i 7 < N) (n3 : ∀ i, i < n → ν' 3 i = ν 3 i) (n99 : n < ν' 99 0 0) (n991 : ν 99 0 1 ≤ ν' 99 0 1) : CDT σ' ν' ρ n := by
  refine ⟨n99, fun i hi => ?_⟩
  have := h.2 i hi
  have hNi := hN i hi
  unfold CI at *
  rw [n3 i hi, g 3 i (fun z => by omega) (fun z => by omega) (fun z => by omega) (fun z => by omega), g 5 _ (fun z => by omega) (fun z => by omega) (fun z => by omega) (fun z => by omega), g 6 (3 * i) (fun z => by omega) (fun z => by omega) (fun z => by omega) (fun z => by omega), g 6 (3 * i + 1) (fun z => by omega) (fun z => by omega) (fun z => by omega) (fun z => by omega), g 6 (3 * i + 2) (fun z => by omega) (fun z => by omega) (fun z => by omega) (fun z => by omega)]
  obtain ⟨a1, a2, a3, a4, a5, a6, a7, a8, a9, a10, a11⟩ := this
  exact ⟨a1, a2, a3, a4, a5, a6, a7, a8.nx g (by omega), a9.nx g (by omega), by omega, a11⟩
theorem SIM.nx {n np N : Nat} {σ σ' : SG} {ν ν' : NU} {ρ ρ' : RH} (h : SIM σ ν ρ n np) (g : frX n N σ σ') (hN : ∀ i, i < n → ν 3 i 7 < N) (n3 : ∀ i, i < n → ν' 3 i = ν 3 i) (n99 : ν' 99 0 0 = ν 99 0 0) (n991 : ν 99 0 1 ≤ ν' 99 0 1) (n0 : ν' 0 0 3 = ν 0 0 3) (n7 : ν' 7 = ν 7) (n8 : ν' 8 = ν 8) (n13 : ν' 13 = ν 13) (hc : clo ν')
    (h07 : σ' 0 0 7 = σ 0 0 7) (gl : lgn n ρ ρ') (g33 : ρ' 33 = ρ 33) (g34 : ρ' 34 = ρ 34) (g35 : ρ' 35 = ρ 35) (hA : ADY σ' ρ' n) (hX : NXT σ' ν' ρ' n) : SIM σ' ν' ρ' n np := by
  obtain ⟨⟨h1, h2, ⟨a1, a2, a3, a4, a5, a6⟩, h4, h5, h6, h7⟩, h8⟩ := h
  have g1 : σ' 1 0 = σ 1 0 := g 1 0 (fun z => by omega) (fun z => by omega) (fun z => by omega) (fun z => by omega)
  have gr : ∀ a b, a ≠ 3 → a ≠ 4 → a ≠ 22 → a ≠ 5 → a ≠ 0 → σ' a b = σ a b := fun a b q1 q2 q3 q4 q5 => g a b (fun z => q1 z.1) (fun z => by omega) (fun z => q4 z.1) (fun z => q5 z.1)
  have hL : LI9 σ' ν' n := by
    unfold LI9 okc at *
    rw [gr 7 0 (by decide) (by decide) (by decide) (by decide) (by decide), n7, n8, n99]
    exact a3
  refine ⟨⟨h1.ln gl, (h2.nx g hN n3 (by rw [n99]; exact h2.1) n991).ln gl, ⟨by rw [n99]; exact a1, by rw [n0]; exact a2, hL, hc, a5.same (gr 7 1 (by decide) (by decide) (by decide) (by decide) (by decide)) (by rw [n7]), a6.same (gr 7 2 (by decide) (by decide) (by decide) (by decide) (by decide)) (by rw [n7])⟩, by rw [h07]; exact h4, hA, hX, ?_⟩, ?_⟩
  · unfold VDY at *
    rw [g1, g33, g34, g35]
    exact h7
  · rw [g33, g34, g35]
    refine VW9.ln h1 gl ?_
    refine VB9.sg h8 (fun i hi he hk => ?_) (by rw [g1]) (gr 14 0 (by decide) (by decide) (by decide) (by decide) (by decide)) (gr 15 0 (by decide) (by decide) (by decide) (by decide) (by decide)) (gr 12 0 (by decide) (by decide) (by decide) (by decide) (by decide)) (gr 11 0 (by decide) (by decide) (by decide) (by decide) (by decide)) (gr 18 0 (by decide) (by decide) (by decide) (by decide) (by decide)) (gr 7 1 (by decide) (by decide) (by decide) (by decide) (by decide)) (fun b _ _ => ⟨gr 2 b (by decide) (by decide) (by decide) (by decide) (by decide), gr 20 b (by decide) (by decide) (by decide) (by decide) (by decide), gr 21 b (by decide) (by decide) (by decide) (by decide) (by decide)⟩) (by rw [n7]) (by rw [n8]) (by rw [n99]; exact Nat.le_refl _)
    have := h8.1.2.2 i hi he hk
    rw [n13]
    exact ⟨this.1, this.2.nx g this.1⟩
theorem ADY.ge {σ : SG} {ρ : RH} {n : Nat} (h : ADY σ ρ n) : 0 ≤ (ρ 0 0).toInt ∧ (ρ 0 0).toInt ≤ 5000 := h.2.1
set_option maxRecDepth 100000 in
theorem z_pass {σ : SG} {ν : NU} {ρ : RH} {n np : Nat} (h : SIM σ ν ρ n np) (p : Int32) : ZS [IAE, ISE] (fun post px => wpX6_pass σ ν p (fun r s => post r s ν) (fun E s => px E s ν)) (wpX7_pass ρ p) := by
  obtain ⟨⟨hD, hC, ⟨b1, b2, b3, b4, b5, b6⟩, h7, hA, hX, h5⟩, hV⟩ := id h
  have t1 : (1 : Int32).toInt = 1 := by decide
  have t500 : (500 : Int32).toInt = 500 := by decide
  have hge := hA.ge
  have stay : ∀ σ' ν' ρ', SIM σ' ν' ρ n np → lgd ρ ρ' → ∃ n' np', SIM σ' ν' ρ' n' np' := fun σ' ν' ρ' a b => ⟨n, np, a.lo b⟩
  by_cases c : ¬ (1 ≤ p.toInt ∧ p.toInt ≤ 500)
  · refine ⟨1, 0, fun s m => SIM s m ρ n np, fun ρ' => lgd ρ ρ', ?_, ?_, stay⟩
    · unfold wpX6_pass
      dsimp only
      by_cases c1 : p.toInt < 1
      · rw [if_pos c1]; exact ⟨xk9_0, h⟩
      · rw [if_neg c1, if_neg (fun z => c ⟨by omega, z⟩)]; exact ⟨xk9_0, h⟩
    · unfold wpX7_pass
      refine s_isIn ?_
      rw [t1, t500, bI_f c, if_pos z0I]
      unfold jX7_pass_33
      refine s_goes (fun t et => ?_)
      rw [bI_f i1n0, if_pos z0I]
      subst et
      exact ⟨by rw [u2_at, if_pos rfl], fun q => absurd q i1n0, lgd_48⟩
  have c := Decidable.byContradiction c
  have hs : (ρ 0 0 + p).toInt = (ρ 0 0).toInt + p.toInt := zb_add (by omega) (by omega)
  by_cases c2 : ¬ (ρ 0 0 + p).toInt ≤ 5000
  · refine ⟨2, 0, fun s m => SIM s m ρ n np, fun ρ' => lgd ρ ρ', ?_, ?_, stay⟩
    · unfold wpX6_pass
      dsimp only
      rw [if_neg (by omega), if_pos c.2, hA.1, if_neg c2]
      exact ⟨xk9_1, h⟩
    · unfold wpX7_pass
      refine s_isIn ?_
      rw [t1, t500, bI_t c, if_neg z1I, if_neg c2]
      unfold jX7_pass_33
      refine s_goes (fun t et => ?_)
      rw [bI_f i2n0, if_pos z0I]
      subst et
      exact ⟨by rw [u2_at, if_pos rfl], fun q => absurd q i2n0, lgd_48⟩
  have c2 := Decidable.byContradiction c2
  refine ⟨0, ρ 0 0 + p, fun s m => s = u3 σ 0 0 4 (ρ 0 0 + p) ∧ m = ν, fun ρ' => lgd (u2 ρ 0 0 (ρ 0 0 + p)) ρ', ?_, ?_, fun σ' ν' ρ' a b => ⟨n, np, SIM.lo b ?_⟩⟩
  · unfold wpX6_pass
    dsimp only
    rw [if_neg (by omega), if_pos c.2, hA.1, if_pos c2]
    intro t4 e4
    exact ⟨rfl, by rw [e4, u3_at, if_pos rfl], e4, rfl⟩
  · unfold wpX7_pass
    refine s_isIn ?_
    rw [t1, t500, bI_t c, if_neg z1I, if_pos c2]
    unfold jX7_pass_33
    refine s_goes (fun t et => ?_)
    rw [bI_t rfl, if_neg z1I]
    intro t7 e7
    have e0 : t 0 0 = ρ 0 0 := by rw [et, u2_oth (by decide)]
    rw [e0] at e7
    refine ⟨by rw [e7, u2_oth (by decide), et, u2_at, if_pos rfl], fun _ => by rw [e7, u2_at, if_pos rfl], fun j hj => ?_⟩
    rw [e7, et]
    by_cases q : j = 0
    · subst q; funext k; rw [u2_at, u2_at, u2_oth (by decide)]
    · rw [u2_oth q, u2_oth q, u2_oth (by omega)]
  · obtain ⟨rfl, rfl⟩ := a
    have gr : ∀ j, j ≠ 0 → u2 ρ 0 0 (ρ 0 0 + p) j = ρ j := fun j hj => u2_oth hj
    refine h.nx (N := ν' 99 0 1) (fun a b _ _ _ z => u3_oth z) (fun i hi => (hC.2 i hi).2.2.2.2.2.2.2.2.2.1) (fun _ _ => rfl) rfl (Nat.le_refl _) rfl rfl rfl rfl b4 (by rw [u3_at, if_neg (by decide)]) ⟨fun j hj _ => gr j (by omega), fun i _ => by rw [gr 2 (by decide)]⟩ (gr 33 (by decide)) (gr 34 (by decide)) (gr 35 (by decide)) ?_ ?_
    · obtain ⟨d1, d2, a, d3, d4, d5, d6, d7, d8, d9⟩ := hA
      refine ⟨by rw [u3_at, if_pos rfl, u2_at, if_pos rfl], ⟨?_, ?_⟩, a, d3, by rw [gr 1 (by decide)]; exact d4, by rw [u3_at, if_neg (by decide)]; exact d5, by rw [u3_at, if_neg (by decide), gr 2 (by decide)]; exact d6, by rw [gr 14 (by decide)]; exact d7, by rw [gr 2 (by decide)]; exact d8, fun b hb => ?_⟩
      · rw [u2_at, if_pos rfl, hs]; omega
      · rw [u2_at, if_pos rfl]; exact c2
      · rw [u2_at, if_pos rfl, hs, gr 2 (by decide)]
        have := d9 b hb
        omega
    · unfold NXT at *
      rw [gr 3 (by decide), gr 4 (by decide), gr 5 (by decide), gr 6 (by decide), gr 7 (by decide), gr 8 (by decide), gr 9 (by decide), gr 10 (by decide), u3_oth (fun z => by omega), u3_oth (fun z => by omega), u3_oth (fun z => by omega), u3_oth (fun z => by omega)]
      obtain ⟨e1, e2, e3, e4, e5, e6, e7⟩ := hX
      have gd : frD σ (u3 σ 0 0 4 (ρ 0 0 + p)) := fun a b hab => u3_oth (fun z => by omega)
      exact ⟨e1, e2, e3, e4.same gd, e5, e6.same gd, e7⟩
set_option maxRecDepth 100000 in
theorem z_act {σ : SG} {ν : NU} {ρ : RH} {n np : Nat} (h : SIM σ ν ρ n np) : ZS [ISE] (fun post px => wpX6_act σ ν (fun r s => post r s ν) (fun E s => px E s ν)) (wpX7_act ρ) := by
  obtain ⟨⟨hD, hC, ⟨b1, b2, b3, b4, b5, b6⟩, h7, hA, hX, h5⟩, hV⟩ := id h
  obtain ⟨d1, d2, a, d3, d4, d5, d6, d7, d8, d9⟩ := id hA
  by_cases c : a = 10
  · subst c
    refine ⟨1, 0, fun s m => SIM s m ρ n np, fun ρ' => lgd ρ ρ', ?_, ?_, fun σ' ν' ρ' a b => ⟨n, np, a.lo b⟩⟩
    · unfold wpX6_act
      dsimp only
      rw [d5, ti_n (by omega), if_neg (by omega)]
      exact ⟨xk9_0, h⟩
    · unfold wpX7_act
      rw [d4, ti_n (by omega), if_pos (by omega)]
      unfold jX7_act_15
      refine s_goes (fun t et => ?_)
      rw [bI_f i1n0, if_pos z0I]
      subst et
      exact ⟨by rw [u2_at, if_pos rfl], fun q => absurd q i1n0, lgd_48⟩
  have hca : (nI a).toNatClampNeg = a := cl_n (by omega)
  refine ⟨0, nI a, fun s m => s = u3 (u3 σ 0 0 6 (ρ 0 0)) 0 0 5 (nI (a + 1)) ∧ m = ν, fun ρ' => lgd (u2 (u2 ρ 2 a (ρ 0 0)) 1 0 (nI (a + 1))) ρ', ?_, ?_, fun σ' ν' ρ' q b => ⟨n, np, SIM.lo b ?_⟩⟩
  · unfold wpX6_act
    dsimp only
    rw [d5, ti_n (by omega), if_pos (by omega), d1]
    intro t2 e2 t4 e4
    have e5 : t2 0 0 5 = nI a := by rw [e2, u3_at, if_neg (by decide)]; exact d5
    rw [e5, nI_1] at e4
    refine ⟨rfl, ?_, by rw [e4, e2], rfl⟩
    rw [e4, u3_at, if_pos rfl, li1, pk_sub (by omega), Nat.add_sub_cancel]
  · unfold wpX7_act
    rw [d4, ti_n (by omega), if_neg (by omega)]
    unfold jX7_act_15
    refine s_goes (fun t et => ?_)
    rw [bI_t rfl, if_neg z1I]
    have e1 : t 1 0 = nI a := by rw [et, u2_oth (by decide)]; exact d4
    have e0 : t 0 0 = ρ 0 0 := by rw [et, u2_oth (by decide)]
    rw [e1, hca, e0]
    refine ⟨vi_n (by omega) (by decide), fun t6 e6 t8 e8 => ?_⟩
    have e16 : t6 1 0 = nI a := by rw [e6, u2_oth (by decide)]; exact e1
    rw [e16, nI_1] at e8
    refine ⟨by rw [e8, u2_oth (by decide), e6, u2_oth (by decide), et, u2_at, if_pos rfl], fun _ => ?_, fun j hj => ?_⟩
    · rw [e8, u2_at, if_pos rfl, li1, pk_sub (by omega), Nat.add_sub_cancel]
    · rw [e8, e6, et]
      by_cases q1 : j = 1
      · subst q1; funext k; rw [u2_at, u2_at, u2_oth (by decide), u2_oth (by decide), u2_oth (by decide)]
      · rw [u2_oth q1, u2_oth q1]
        by_cases q2 : j = 2
        · subst q2; funext k; rw [u2_at, u2_at, u2_oth (by decide)]
        · rw [u2_oth q2, u2_oth q2, u2_oth (by omega)]
  · obtain ⟨rfl, rfl⟩ := q
    generalize hρ' : u2 (u2 ρ 2 a (ρ 0 0)) 1 0 (nI (a + 1)) = ρ1
    have gr : ∀ j, j ≠ 1 → j ≠ 2 → ρ1 j = ρ j := fun j q1 q2 => by rw [← hρ', u2_oth q1, u2_oth q2]
    have r2 : ∀ b, ρ1 2 b = if b = a then ρ 0 0 else ρ 2 b := fun b => by rw [← hρ', u2_oth (by decide), u2_at]
    have r1 : ρ1 1 0 = nI (a + 1) := by rw [← hρ', u2_at, if_pos rfl]
    have gσ : ∀ x y, ¬ (x = 0 ∧ y = 0) → u3 (u3 σ 0 0 6 (ρ 0 0)) 0 0 5 (nI (a + 1)) x y = σ x y := fun x y z => by rw [u3_oth z, u3_oth z]
    have hg : frX n (ν' 99 0 1) σ (u3 (u3 σ 0 0 6 (ρ 0 0)) 0 0 5 (nI (a + 1))) := fun x y _ _ _ z => gσ x y z
    refine h.nx (N := ν' 99 0 1) hg (fun i hi => (hC.2 i hi).2.2.2.2.2.2.2.2.2.1) (fun _ _ => rfl) rfl (Nat.le_refl _) rfl rfl rfl rfl b4 (by rw [u3_at, if_neg (by decide), u3_at, if_neg (by decide)]) ⟨fun j hj _ => gr j (by omega) (by omega), fun i hi => ?_⟩ (gr 33 (by decide) (by decide)) (gr 34 (by decide) (by decide)) (gr 35 (by decide) (by decide)) ?_ ?_
    · obtain ⟨b, hb, e⟩ := d7 i hi
      rw [e, cl_n (by omega), r2, if_neg (by omega)]
    · refine ⟨by rw [u3_at, if_neg (by decide), u3_at, if_neg (by decide), gr 0 (by decide) (by decide)]; exact d1, by rw [gr 0 (by decide) (by decide)]; exact d2, a + 1, by omega, r1, by rw [u3_at, if_pos rfl], ?_, fun i hi => ?_, fun b c hbc hc => ?_, fun b hb => ?_⟩
      · rw [u3_at, if_neg (by decide), u3_at, if_pos rfl, if_neg (by omega), Nat.add_sub_cancel, r2, if_pos rfl]
      · obtain ⟨b, hb, e⟩ := d7 i hi
        exact ⟨b, by omega, by rw [gr 14 (by decide) (by decide)]; exact e⟩
      · rw [r2, r2]
        by_cases q1 : c = a
        · by_cases q2 : b = a
          · rw [if_pos q2, if_pos q1]; exact Int.le_refl _
          · rw [if_neg q2, if_pos q1]; exact d9 b (by omega)
        · rw [if_neg q1, if_neg (by omega)]
          exact d8 b c hbc (by omega)
      · rw [r2, gr 0 (by decide) (by decide)]
        by_cases q1 : b = a
        · rw [if_pos q1]; exact Int.le_refl _
        · rw [if_neg q1]; exact d9 b (by omega)
    · unfold NXT at *
      rw [gr 3 (by decide) (by decide), gr 4 (by decide) (by decide), gr 5 (by decide) (by decide), gr 6 (by decide) (by decide), gr 7 (by decide) (by decide), gr 8 (by decide) (by decide), gr 9 (by decide) (by decide), gr 10 (by decide) (by decide), gσ 5 _ (fun z => by omega), gσ 6 (3 * n) (fun z => by omega), gσ 6 (3 * n + 1) (fun z => by omega), gσ 6 (3 * n + 2) (fun z => by omega)]
      obtain ⟨e1, e2, e3, e4, e5, e6, e7⟩ := hX
      have gd : frD σ (u3 (u3 σ 0 0 6 (ρ 0 0)) 0 0 5 (nI (a + 1))) := fun x y hxy => gσ x y (fun z => by omega)
      exact ⟨e1, e2, e3, e4.same gd, e5, e6.same gd, e7⟩
