/-! word: one more of the words of the next instruction. -/
/-- a word laid behind the others, in the class -/
theorem c_append {σ : SG} {ν : NU} {ph m : Nat} {w : Int32} {post : Int32 → SG → Prop} (hp : ph < 2 * ν 99 0 0) (hm : m ≤ 4) (h1 : σ 4 ph 1 = nI m) (kn : m = 4 → post 0 σ) (ky : m < 4 → post 1 (u3 (u3 σ 22 ph m w) 4 ph 1 (nI (m + 1)))) : wpX2_append σ ν ph w post := by
  have hc : (nI m).toNatClampNeg = m := cl_n (by omega)
  unfold wpX2_append
  refine ⟨hp, ?_⟩
  rw [h1, ti_n (by omega), hc]
  by_cases c : m < 4
  · rw [if_pos (by omega)]
    refine ⟨vi_n c (by decide), fun t4 e4 t6 e6 => ?_⟩
    have e : t4 4 ph 1 = nI m := by rw [e4, u3_oth (fun z => by omega)]; exact h1
    rw [e, nI_1, e4] at e6
    rw [e6]
    exact ky c
  · rw [if_neg (by omega)]
    exact kn (by omega)
theorem PH_app {σ : SG} {ph m : Nat} {w : Int32} {g g' : Nat → Int32} (hm : m < 4) (h : PH σ ph (wds (nI m) g)) (hg : ∀ k, g' k = if k = m then w else g k) : PH (u3 (u3 σ 22 ph m w) 4 ph 1 (nI (m + 1))) ph (wds (nI (m + 1)) g') := by
  obtain ⟨a, b⟩ := PH_of (by omega) h
  refine PH_wds (by omega) (by rw [u3_at, if_pos rfl]) (fun k hk => ?_)
  rw [u3_oth (fun z => by omega), u3_at, hg]
  by_cases q : k = m
  · rw [if_pos q, if_pos q]
  · rw [if_neg q, if_neg q]; exact b k (by omega)
set_option maxRecDepth 100000 in
set_option maxHeartbeats 1000000 in
theorem z_word {σ : SG} {ν : NU} {ρ : RH} {n np : Nat} (h : SIM σ ν ρ n np) (p1 p2 : Int32) : ZS [IAE, ISE] (fun post px => wpX6_word σ ν p1 p2 (fun r s => post r s ν) (fun E s => px E s ν)) (wpX7_word ρ p1 p2) := by
  obtain ⟨⟨hD, hC, ⟨b1, b2, b3, b4, b5, b6⟩, h7, hA, hX, h5⟩, hV⟩ := id h
  have h40 := hD.1
  have t139 : (139 : Int32).toInt = 139 := by decide
  have stay : ∀ σ' ν' ρ', SIM σ' ν' ρ n np → lgd ρ ρ' → ∃ n' np', SIM σ' ν' ρ' n' np' := fun σ' ν' ρ' a b => ⟨n, np, a.lo b⟩
  obtain ⟨e1, e2, ⟨ms, hms, es⟩, e4, ⟨mf, hmf, ef⟩, e6, e7, e8⟩ := id hX
  have e4' := e4
  have e6' := e6
  rw [es] at e4'
  rw [ef] at e6'
  by_cases c1 : ¬ (0 ≤ p1.toInt ∧ p1.toInt ≤ 139)
  · refine ⟨1, 0, fun s m => SIM s m ρ n np, fun ρ' => lgd ρ ρ', ?_, ?_, stay⟩
    · unfold wpX6_word
      dsimp only
      by_cases c : p1.toInt < 0
      · rw [if_pos c]; exact ⟨xk9_0, h⟩
      · rw [if_neg c, if_neg (fun z => c1 ⟨by omega, z⟩)]; exact ⟨xk9_0, h⟩
    · unfold wpX7_word
      refine s_isIn ?_
      rw [z0I, t139, bI_f c1, if_pos z0I]
      unfold jX7_word_40
      refine s_goes (fun t et => ?_)
      rw [bI_f i1n0, if_pos z0I]
      subst et
      exact ⟨by rw [u2_at, if_pos rfl], fun q => absurd q i1n0, lgd_48⟩
  have c1 := Decidable.byContradiction c1
  have hcs := (PH_of hms e4').1
  have hcf := (PH_of hmf e6').1
  have h4I : (nI 4).toInt = 4 := ti_n (by omega)
  by_cases q : p2 = 0
  · -- searched ones
    by_cases c2 : ms = 4
    · subst c2
      refine ⟨2, 0, fun s m => SIM s m ρ n np, fun ρ' => lgd ρ ρ', ?_, ?_, stay⟩
      · unfold wpX6_word
        dsimp only
        rw [if_neg (by omega), if_pos c1.2, if_pos (by rw [q]; exact z0I)]
        refine ⟨by omega, ?_⟩
        unfold jX6_word_42
        rw [b2]
        refine ⟨by omega, c_append (by omega) (by omega) hcs (fun _ => ?_) (fun z => absurd z (by decide))⟩
        rw [if_pos z0I]
        exact ⟨xk9_1, h⟩
      · unfold wpX7_word
        refine s_isIn ?_
        rw [z0I, t139, bI_t c1, if_neg z1I, if_pos (by rw [q]; exact z0I)]
        unfold jX7_word_31
        rw [es, if_pos h4I]
        unfold jX7_word_40
        refine s_goes (fun t et => ?_)
        rw [bI_f i2n0, if_pos z0I]
        subst et
        exact ⟨by rw [u2_at, if_pos rfl], fun q => absurd q i2n0, lgd_48⟩
    · refine ⟨0, nI (ms + 1), fun s m => s = u3 (u3 σ 22 (2 * n) ms p1) 4 (2 * n) 1 (nI (ms + 1)) ∧ m = ν, fun ρ' => lgd (u2 (u2 ρ 8 ms p1) 7 0 (nI (ms + 1))) ρ', ?_, ?_, fun σ' ν' ρ' z b => ⟨n, np, SIM.lo b ?_⟩⟩
      · unfold wpX6_word
        dsimp only
        rw [if_neg (by omega), if_pos c1.2, if_pos (by rw [q]; exact z0I)]
        refine ⟨by omega, ?_⟩
        unfold jX6_word_42
        rw [b2]
        refine ⟨by omega, c_append (by omega) (by omega) hcs (fun z => absurd z c2) (fun _ => ?_)⟩
        rw [if_neg z1I]
        exact ⟨rfl, by rw [u3_at, if_pos rfl], rfl, rfl⟩
      · unfold wpX7_word
        refine s_isIn ?_
        rw [z0I, t139, bI_t c1, if_neg z1I, if_pos (by rw [q]; exact z0I)]
        unfold jX7_word_31
        rw [es, ti_n (by omega), if_neg (by omega)]
        unfold jX7_word_40
        refine s_goes (fun t et => ?_)
        rw [bI_t rfl, if_neg z1I, if_pos (by rw [q]; exact z0I)]
        have e0 : t 7 0 = nI ms := by rw [et, u2_oth (by decide)]; exact es
        rw [e0, cl_n (by omega)]
        refine ⟨vi_n (by omega) (by decide), fun t10 f10 t12 f12 => ?_⟩
        have e9 : t10 7 0 = nI ms := by rw [f10, u2_oth (by decide)]; exact e0
        rw [e9, nI_1] at f12
        refine ⟨by rw [f12, u2_oth (by decide), f10, u2_oth (by decide), et, u2_at, if_pos rfl], fun _ => by rw [f12, u2_at, if_pos rfl], fun j hj => ?_⟩
        rw [f12, f10, et]
        by_cases q7 : j = 7
        · subst q7; funext k; rw [u2_at, u2_at]; simp only [u2_oth (show (7 : Nat) ≠ 8 by decide), u2_oth (show (7 : Nat) ≠ 48 by decide)]
        · rw [u2_oth q7, u2_oth q7]
          by_cases q8 : j = 8
          · subst q8; funext k; rw [u2_at, u2_at, u2_oth (by decide)]
          · rw [u2_oth q8, u2_oth q8, u2_oth (by omega)]
      · obtain ⟨rfl, rfl⟩ := z
        generalize hρ' : u2 (u2 ρ 8 ms p1) 7 0 (nI (ms + 1)) = ρ1
        have gr : ∀ j, j ≠ 7 → j ≠ 8 → ρ1 j = ρ j := fun j q7 q8 => by rw [← hρ', u2_oth q7, u2_oth q8]
        have r7 : ρ1 7 0 = nI (ms + 1) := by rw [← hρ', u2_at, if_pos rfl]
        have r8 : ∀ k, ρ1 8 k = if k = ms then p1 else ρ 8 k := fun k => by rw [← hρ', u2_oth (by decide), u2_at]
        have gσ : ∀ x y, ¬ ((x = 4 ∨ x = 22) ∧ y = 2 * n) → u3 (u3 σ 22 (2 * n) ms p1) 4 (2 * n) 1 (nI (ms + 1)) x y = σ x y := fun x y z => by rw [u3_oth (fun w => z ⟨Or.inl w.1, w.2⟩), u3_oth (fun w => z ⟨Or.inr w.1, w.2⟩)]
        refine h.nx (N := ν' 99 0 1) (fun a b _ z _ _ => gσ a b (fun w => z ⟨w.1, Or.inl w.2⟩)) (fun i hi => (hC.2 i hi).2.2.2.2.2.2.2.2.2.1) (fun _ _ => rfl) rfl (Nat.le_refl _) rfl rfl rfl rfl b4 (by rw [gσ 0 0 (fun z => by omega)]) ⟨fun j hj _ => gr j (by omega) (by omega), fun i _ => by rw [gr 2 (by decide) (by decide)]⟩ (gr 33 (by decide) (by decide)) (gr 34 (by decide) (by decide)) (gr 35 (by decide) (by decide)) ?_ ?_
        · unfold ADY at *
          rw [gσ 0 0 (fun z => by omega), gr 0 (by decide) (by decide), gr 1 (by decide) (by decide), gr 2 (by decide) (by decide), gr 14 (by decide) (by decide)]
          exact hA
        · refine ⟨by rw [gσ 5 _ (fun z => by omega), gr 3 (by decide) (by decide), gr 4 (by decide) (by decide), gr 5 (by decide) (by decide), gr 6 (by decide) (by decide)]; exact e1, by rw [gr 3 (by decide) (by decide), gr 4 (by decide) (by decide)]; exact e2, ⟨ms + 1, by omega, r7⟩, ?_, by rw [gr 9 (by decide) (by decide)]; exact ⟨mf, hmf, ef⟩, ?_, by rw [gr 10 (by decide) (by decide)]; exact e7, by rw [gσ 6 (3 * n) (fun z => by omega), gσ 6 (3 * n + 1) (fun z => by omega), gσ 6 (3 * n + 2) (fun z => by omega)]; exact e8⟩
          · rw [r7]
            exact PH_app (by omega) e4' r8
          · rw [gr 9 (by decide) (by decide), gr 10 (by decide) (by decide)]
            unfold PH at *
            rw [gσ 4 (2 * n + 1) (fun z => by omega), gσ 22 (2 * n + 1) (fun z => by omega)]
            exact e6
  · have qz : ¬ p2.toInt = 0 := fun z => q (ti_eq.mp (z.trans z0I.symm))
    by_cases c2 : mf = 4
    · subst c2
      refine ⟨2, 0, fun s m => SIM s m ρ n np, fun ρ' => lgd ρ ρ', ?_, ?_, stay⟩
      · unfold wpX6_word
        dsimp only
        rw [if_neg (by omega), if_pos c1.2, if_neg qz]
        refine ⟨by omega, ?_⟩
        unfold jX6_word_42
        rw [b2]
        refine ⟨by omega, c_append (by omega) (by omega) hcf (fun _ => ?_) (fun z => absurd z (by decide))⟩
        rw [if_pos z0I]
        exact ⟨xk9_1, h⟩
      · unfold wpX7_word
        refine s_isIn ?_
        rw [z0I, t139, bI_t c1, if_neg z1I, if_neg qz]
        unfold jX7_word_31
        rw [ef, if_pos h4I]
        unfold jX7_word_40
        refine s_goes (fun t et => ?_)
        rw [bI_f i2n0, if_pos z0I]
        subst et
        exact ⟨by rw [u2_at, if_pos rfl], fun q => absurd q i2n0, lgd_48⟩
    · refine ⟨0, nI (mf + 1), fun s m => s = u3 (u3 σ 22 (2 * n + 1) mf p1) 4 (2 * n + 1) 1 (nI (mf + 1)) ∧ m = ν, fun ρ' => lgd (u2 (u2 ρ 10 mf p1) 9 0 (nI (mf + 1))) ρ', ?_, ?_, fun σ' ν' ρ' z b => ⟨n, np, SIM.lo b ?_⟩⟩
      · unfold wpX6_word
        dsimp only
        rw [if_neg (by omega), if_pos c1.2, if_neg qz]
        refine ⟨by omega, ?_⟩
        unfold jX6_word_42
        rw [b2]
        refine ⟨by omega, c_append (by omega) (by omega) hcf (fun z => absurd z c2) (fun _ => ?_)⟩
        rw [if_neg z1I]
        exact ⟨rfl, by rw [u3_at, if_pos rfl], rfl, rfl⟩
      · unfold wpX7_word
        refine s_isIn ?_
        rw [z0I, t139, bI_t c1, if_neg z1I, if_neg qz]
        unfold jX7_word_31
        rw [ef, ti_n (by omega), if_neg (by omega)]
        unfold jX7_word_40
        refine s_goes (fun t et => ?_)
        rw [bI_t rfl, if_neg z1I, if_neg qz]
        have e0 : t 9 0 = nI mf := by rw [et, u2_oth (by decide)]; exact ef
        rw [e0, cl_n (by omega)]
        refine ⟨vi_n (by omega) (by decide), fun t10 f10 t12 f12 => ?_⟩
        have e9 : t10 9 0 = nI mf := by rw [f10, u2_oth (by decide)]; exact e0
        rw [e9, nI_1] at f12
        refine ⟨by rw [f12, u2_oth (by decide), f10, u2_oth (by decide), et, u2_at, if_pos rfl], fun _ => by rw [f12, u2_at, if_pos rfl], fun j hj => ?_⟩
        rw [f12, f10, et]
        by_cases q7 : j = 9
        · subst q7; funext k; rw [u2_at, u2_at]; simp only [u2_oth (show (9 : Nat) ≠ 10 by decide), u2_oth (show (9 : Nat) ≠ 48 by decide)]
        · rw [u2_oth q7, u2_oth q7]
          by_cases q8 : j = 10
          · subst q8; funext k; rw [u2_at, u2_at, u2_oth (by decide)]
          · rw [u2_oth q8, u2_oth q8, u2_oth (by omega)]
      · obtain ⟨rfl, rfl⟩ := z
        generalize hρ' : u2 (u2 ρ 10 mf p1) 9 0 (nI (mf + 1)) = ρ1
        have gr : ∀ j, j ≠ 9 → j ≠ 10 → ρ1 j = ρ j := fun j q7 q8 => by rw [← hρ', u2_oth q7, u2_oth q8]
        have r9 : ρ1 9 0 = nI (mf + 1) := by rw [← hρ', u2_at, if_pos rfl]
        have r10 : ∀ k, ρ1 10 k = if k = mf then p1 else ρ 10 k := fun k => by rw [← hρ', u2_oth (by decide), u2_at]
        have gσ : ∀ x y, ¬ ((x = 4 ∨ x = 22) ∧ y = 2 * n + 1) → u3 (u3 σ 22 (2 * n + 1) mf p1) 4 (2 * n + 1) 1 (nI (mf + 1)) x y = σ x y := fun x y z => by rw [u3_oth (fun w => z ⟨Or.inl w.1, w.2⟩), u3_oth (fun w => z ⟨Or.inr w.1, w.2⟩)]
        refine h.nx (N := ν' 99 0 1) (fun a b _ z _ _ => gσ a b (fun w => z ⟨w.1, Or.inr w.2⟩)) (fun i hi => (hC.2 i hi).2.2.2.2.2.2.2.2.2.1) (fun _ _ => rfl) rfl (Nat.le_refl _) rfl rfl rfl rfl b4 (by rw [gσ 0 0 (fun z => by omega)]) ⟨fun j hj _ => gr j (by omega) (by omega), fun i _ => by rw [gr 2 (by decide) (by decide)]⟩ (gr 33 (by decide) (by decide)) (gr 34 (by decide) (by decide)) (gr 35 (by decide) (by decide)) ?_ ?_
        · unfold ADY at *
          rw [gσ 0 0 (fun z => by omega), gr 0 (by decide) (by decide), gr 1 (by decide) (by decide), gr 2 (by decide) (by decide), gr 14 (by decide) (by decide)]
          exact hA
        · refine ⟨by rw [gσ 5 _ (fun z => by omega), gr 3 (by decide) (by decide), gr 4 (by decide) (by decide), gr 5 (by decide) (by decide), gr 6 (by decide) (by decide)]; exact e1, by rw [gr 3 (by decide) (by decide), gr 4 (by decide) (by decide)]; exact e2, by rw [gr 7 (by decide) (by decide)]; exact ⟨ms, hms, es⟩, ?_, ⟨mf + 1, by omega, r9⟩, ?_, fun k hk => ?_, by rw [gσ 6 (3 * n) (fun z => by omega), gσ 6 (3 * n + 1) (fun z => by omega), gσ 6 (3 * n + 2) (fun z => by omega)]; exact e8⟩
          · rw [gr 7 (by decide) (by decide), gr 8 (by decide) (by decide)]
            unfold PH at *
            rw [gσ 4 (2 * n) (fun z => by omega), gσ 22 (2 * n) (fun z => by omega)]
            exact e4
          · rw [r9]
            exact PH_app (by omega) e6' r10
          · rw [r10]
            by_cases z : k = mf
            · rw [if_pos z]; exact c1
            · rw [if_neg z]; exact e7 k hk
