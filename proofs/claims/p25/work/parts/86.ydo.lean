/-! The class alone: what each call does to the data (γ, the rows of the data). Cut out of parts 57 to 67 by a program (wip/gen25/ydo.py), the reference left out. -/
set_option maxRecDepth 100000 in
theorem y_pass {σ : SG} {ν : NU} {γ : RH} {n np : Nat} (h : SIM σ ν γ n np) {p : Int32} {post : Int32 → SG → Prop} {px : String → SG → Prop} (k1 : ¬ (1 ≤ p.toInt ∧ p.toInt ≤ 500) → px IAE σ) (k2 : (1 ≤ p.toInt ∧ p.toInt ≤ 500) → ¬ (γ 0 0 + p).toInt ≤ 5000 → px ISE σ) (k3 : (1 ≤ p.toInt ∧ p.toInt ≤ 500) → (γ 0 0 + p).toInt ≤ 5000 → ∀ σ1, SIM σ1 ν (u2 γ 0 0 (γ 0 0 + p)) n np → post (γ 0 0 + p) σ1) : wpX6_pass σ ν p post px := by
  obtain ⟨⟨hD, hC, ⟨b1, b2, b3, b4, b5, b6⟩, h7, hA, hX, h5⟩, hV⟩ := id h
  have hge := hA.ge
  unfold wpX6_pass
  by_cases c : ¬ (1 ≤ p.toInt ∧ p.toInt ≤ 500)
  · by_cases c1 : p.toInt < 1
    · rw [if_pos c1]; exact k1 c
    · rw [if_neg c1, if_neg (fun z => c ⟨by omega, z⟩)]; exact k1 c
  have c := Decidable.byContradiction c
  have hs : (γ 0 0 + p).toInt = (γ 0 0).toInt + p.toInt := zb_add (by omega) (by omega)
  rw [if_neg (by omega), if_pos c.2, hA.1]
  by_cases c2 : ¬ (γ 0 0 + p).toInt ≤ 5000
  · rw [if_neg c2]; exact k2 c c2
  have c2 := Decidable.byContradiction c2
  rw [if_pos c2]
  intro t4 e4
  rw [show t4 0 0 4 = γ 0 0 + p by rw [e4, u3_at, if_pos rfl]]
  subst e4
  refine k3 c c2 _ ?_
  have gr : ∀ j, j ≠ 0 → u2 γ 0 0 (γ 0 0 + p) j = γ j := fun j hj => u2_oth hj
  refine h.nx (N := ν 99 0 1) (fun a b _ _ _ z => u3_oth z) (fun i hi => (hC.2 i hi).2.2.2.2.2.2.2.2.2.1) (fun _ _ => rfl) rfl (Nat.le_refl _) rfl rfl rfl rfl b4 (by rw [u3_at, if_neg (by decide)]) ⟨fun j hj _ => gr j (by omega), fun i _ => by rw [gr 2 (by decide)]⟩ (gr 33 (by decide)) (gr 34 (by decide)) (gr 35 (by decide)) ?_ ?_
  · obtain ⟨d1, d2, a, d3, d4, d5, d6, d7, d8, d9⟩ := hA
    refine ⟨by rw [u3_at, if_pos rfl, u2_at, if_pos rfl], ⟨?_, ?_⟩, a, d3, by rw [gr 1 (by decide)]; exact d4, by rw [u3_at, if_neg (by decide)]; exact d5, by rw [u3_at, if_neg (by decide), gr 2 (by decide)]; exact d6, by rw [gr 14 (by decide)]; exact d7, by rw [gr 2 (by decide)]; exact d8, fun b hb => ?_⟩
    · rw [u2_at, if_pos rfl, hs]; omega
    · rw [u2_at, if_pos rfl]; exact c2
    · rw [u2_at, if_pos rfl, hs, gr 2 (by decide)]
      have := d9 b hb
      omega
  · unfold NXT at *
    rw [gr 3 (by decide), gr 4 (by decide), gr 5 (by decide), gr 6 (by decide), gr 7 (by decide), gr 8 (by decide), gr 9 (by decide), gr 10 (by decide), u3_oth (fun z => by omega), u3_oth (fun z => by omega), u3_oth (fun z => by omega), u3_oth (fun z => by omega)]
    obtain ⟨e1, e2, e3, e4, e5, e6, e7⟩ := hX
    have gd : frD σ (u3 σ 0 0 4 (γ 0 0 + p)) := fun a b hab => u3_oth (fun z => by omega)
    exact ⟨e1, e2, e3, e4.same gd, e5, e6.same gd, e7⟩
set_option maxRecDepth 100000 in
theorem y_act {σ : SG} {ν : NU} {γ : RH} {n np : Nat} (h : SIM σ ν γ n np) {post : Int32 → SG → Prop} {px : String → SG → Prop} (k1 : γ 1 0 = nI 10 → px ISE σ) (k2 : ∀ a : Nat, a < 10 → γ 1 0 = nI a → ∀ σ1, SIM σ1 ν (u2 (u2 γ 2 a (γ 0 0)) 1 0 (nI (a + 1))) n np → post (nI a) σ1) : wpX6_act σ ν post px := by
  obtain ⟨⟨hD, hC, ⟨b1, b2, b3, b4, b5, b6⟩, h7, hA, hX, h5⟩, hV⟩ := id h
  obtain ⟨d1, d2, a, d3, d4, d5, d6, d7, d8, d9⟩ := id hA
  unfold wpX6_act
  by_cases c : a = 10
  · subst c
    rw [d5, ti_n (by omega), if_neg (by omega)]
    exact k1 d4
  rw [d5, ti_n (by omega), if_pos (by omega), d1]
  intro t2 e2 t4 e4
  have e5 : t2 0 0 5 = nI a := by rw [e2, u3_at, if_neg (by decide)]; exact d5
  rw [e5, nI_1] at e4
  have er : (t4 0 0 5) - ((1 : Int32)) = nI a := by rw [e4, u3_at, if_pos rfl, li1, pk_sub (by omega), Nat.add_sub_cancel]
  rw [er]
  rw [e2] at e4
  subst e4
  refine k2 a (by omega) d4 _ ?_
  generalize hγ' : u2 (u2 γ 2 a (γ 0 0)) 1 0 (nI (a + 1)) = γ1
  have gr : ∀ j, j ≠ 1 → j ≠ 2 → γ1 j = γ j := fun j q1 q2 => by rw [← hγ', u2_oth q1, u2_oth q2]
  have r2 : ∀ b, γ1 2 b = if b = a then γ 0 0 else γ 2 b := fun b => by rw [← hγ', u2_oth (by decide), u2_at]
  have r1 : γ1 1 0 = nI (a + 1) := by rw [← hγ', u2_at, if_pos rfl]
  have gσ : ∀ x y, ¬ (x = 0 ∧ y = 0) → u3 (u3 σ 0 0 6 (γ 0 0)) 0 0 5 (nI (a + 1)) x y = σ x y := fun x y z => by rw [u3_oth z, u3_oth z]
  have hg : frX n (ν 99 0 1) σ (u3 (u3 σ 0 0 6 (γ 0 0)) 0 0 5 (nI (a + 1))) := fun x y _ _ _ z => gσ x y z
  refine h.nx (N := ν 99 0 1) hg (fun i hi => (hC.2 i hi).2.2.2.2.2.2.2.2.2.1) (fun _ _ => rfl) rfl (Nat.le_refl _) rfl rfl rfl rfl b4 (by rw [u3_at, if_neg (by decide), u3_at, if_neg (by decide)]) ⟨fun j hj _ => gr j (by omega) (by omega), fun i hi => ?_⟩ (gr 33 (by decide) (by decide)) (gr 34 (by decide) (by decide)) (gr 35 (by decide) (by decide)) ?_ ?_
  · obtain ⟨b, hb, e⟩ := d7 i hi
    rw [e, cl_n (by omega), r2, if_neg (by omega)]
  · refine ⟨by rw [u3_at, if_neg (by decide), u3_at, if_neg (by decide), gr 0 (by decide) (by decide)]; exact d1, by rw [gr 0 (by decide) (by decide)]; exact d2, a + 1, by omega, r1, by rw [u3_at, if_pos rfl], ?_, fun i hi => ?_, fun b c hbc hc => ?_, fun b hb => ?_⟩
    · rw [u3_at, if_neg (by decide), u3_at, if_pos rfl, if_neg (by omega), Nat.add_sub_cancel, r2, if_pos rfl]
    · obtain ⟨b, hb, e⟩ := d7 i hi
      exact ⟨b, by omega, by rw [gr 14 (by decide) (by decide)]; exact e⟩
    · rw [r2, r2]
      by_cases q1 : c = a
      · by_cases q2 : b = a
        · rw [if_pos q2, if_pos q1]; exact Int.le_refl _
        · rw [if_neg q2, if_pos q1]; exact d9 b (by omega)
      · rw [if_neg q1, if_neg (by omega)]
        exact d8 b c hbc (by omega)
    · rw [r2, gr 0 (by decide) (by decide)]
      by_cases q1 : b = a
      · rw [if_pos q1]; exact Int.le_refl _
      · rw [if_neg q1]; exact d9 b (by omega)
  · unfold NXT at *
    rw [gr 3 (by decide) (by decide), gr 4 (by decide) (by decide), gr 5 (by decide) (by decide), gr 6 (by decide) (by decide), gr 7 (by decide) (by decide), gr 8 (by decide) (by decide), gr 9 (by decide) (by decide), gr 10 (by decide) (by decide), gσ 5 _ (fun z => by omega), gσ 6 (3 * n) (fun z => by omega), gσ 6 (3 * n + 1) (fun z => by omega), gσ 6 (3 * n + 2) (fun z => by omega)]
    obtain ⟨e1, e2, e3, e4, e5, e6, e7⟩ := hX
    have gd : frD σ (u3 (u3 σ 0 0 6 (γ 0 0)) 0 0 5 (nI (a + 1))) := fun x y hxy => gσ x y (fun z => by omega)
    exact ⟨e1, e2, e3, e4.same gd, e5, e6.same gd, e7⟩

set_option maxRecDepth 100000 in
set_option maxHeartbeats 2000000 in
theorem y_terms {σ : SG} {ν : NU} {γ : RH} {n np : Nat} (h : SIM σ ν γ n np) {p1 p2 p3 p4 : Int32} {post : SG → NU → Prop} {px : String → Prop} (k1 : p1 = 2 → ¬ (0 ≤ p2.toInt ∧ p2.toInt < n) → px IOB) (k2 : (p1 = 2 → 0 ≤ p2.toInt ∧ p2.toInt < n) → ¬ okT n p1 p2 p3 p4 → px IAE) (k3 : (p1 = 2 → 0 ≤ p2.toInt ∧ p2.toInt < n) → okT n p1 p2 p3 p4 → ∀ σ1 ν1, SIM σ1 ν1 (u2 (u2 (u2 (u2 γ 3 0 p1) 4 0 p2) 5 0 p3) 6 0 p4) n np → post σ1 ν1) : wpX6_terms σ ν p1 p2 p3 p4 post px := by
  obtain ⟨⟨hD, hC, ⟨b1, b2, b3, b4, b5, b6⟩, h7, hA, hX, h5⟩, hV⟩ := id h
  have h40 := hD.1
  have C11 : ∀ (post : SG → NU → Prop) (px : String → Prop), (¬ okT n p1 p2 p3 p4 → px IAE) → (okT n p1 p2 p3 p4 → ∀ s m, s = r3 σ 5 (ν 99 0 1) (tm4 p1 p2 p3 p4) → m = nuT ν (ν 0 0 3) → post s m) → jX6_terms_11 p1 p2 p3 p4 post px σ ν := by
    intro post px k1 k2
    have c38 : (0 ≤ p1.toInt ∧ p1.toInt ≤ 2) → (p1 = 0 → okd p2) → jX6_terms_38 p1 p2 p3 p4 post px σ ν := by
      intro a1 a2
      unfold jX6_terms_38
      by_cases q3 : p3.toInt < 1
      · rw [if_pos q3]; exact k1 (fun z => by have := z.2.2.1.1; omega)
      rw [if_neg q3]
      by_cases q4 : ¬ p3.toInt ≤ 7
      · rw [if_neg q4]; exact k1 (fun z => q4 z.2.2.1.2)
      have q4 := Decidable.byContradiction q4
      rw [if_pos q4]
      by_cases q5 : p4 = -1
      · rw [if_pos (by rw [q5]; exact ti_m1)]
        exact ⟨b4, by omega, fun s es m em => k2 ⟨a1, a2, ⟨by omega, q4⟩, Or.inl q5⟩ s m es em⟩
      · rw [if_neg (fun z => q5 (ti_eq.mp (z.trans ti_m1.symm)))]
        refine c_needDay (fun z => k1 (fun y => y.2.2.2.elim q5 z)) (fun z => ⟨b4, by omega, fun s es m em => k2 ⟨a1, a2, ⟨by omega, q4⟩, Or.inr z⟩ s m es em⟩)
    unfold jX6_terms_11
    by_cases q1 : p1.toInt < 0
    · rw [if_pos q1]; exact k1 (fun z => by have := z.1.1; omega)
    rw [if_neg q1]
    by_cases q2 : ¬ p1.toInt ≤ 2
    · rw [if_neg q2]; exact k1 (fun z => q2 z.1.2)
    have q2 := Decidable.byContradiction q2
    rw [if_pos q2]
    by_cases q0 : p1 = 0
    · rw [if_pos (by rw [q0]; exact z0I)]
      exact c_needDay (fun z => k1 (fun y => z (y.2.1 q0))) (fun z => c38 ⟨by omega, q2⟩ (fun _ => z))
    · rw [if_neg (fun z => q0 (ti_eq.mp (z.trans z0I.symm)))]
      exact c38 ⟨by omega, q2⟩ (fun z => absurd z q0)
  have C0 : ∀ (post : SG → NU → Prop) (px : String → Prop), (p1 = 2 → ¬ (0 ≤ p2.toInt ∧ p2.toInt < n) → px IOB) → ((p1 = 2 → 0 ≤ p2.toInt ∧ p2.toInt < n) → jX6_terms_11 p1 p2 p3 p4 post px σ ν) → wpX6_terms σ ν p1 p2 p3 p4 post px := by
    intro post px k1 k2
    unfold wpX6_terms
    by_cases q : p1 = 2
    · rw [if_pos (by rw [q]; exact ti_2')]
      exact c_needI b3 hC.1 h40 (fun z => k1 q z) (fun k hk e => k2 (fun _ => ⟨by rw [e, ti_n (by omega)]; omega, by rw [e, ti_n (by omega)]; omega⟩))
    · rw [if_neg (fun z => q (ti_eq.mp (z.trans ti_2'.symm)))]
      exact k2 (fun z => absurd z q)
  refine C0 post px k1 (fun c1 => C11 post px (k2 c1) (fun c2 s m es em => ?_))
  subst es em
  refine k3 c1 c2 _ _ ?_
  rw [b2]
  generalize hN : ν 99 0 1 = N
  generalize hγ' : u2 (u2 (u2 (u2 γ 3 0 p1) 4 0 p2) 5 0 p3) 6 0 p4 = γ1
  have gr : ∀ j, j ≠ 3 → j ≠ 4 → j ≠ 5 → j ≠ 6 → γ1 j = γ j := fun j q3 q4 q5 q6 => by rw [← hγ', u2_oth q6, u2_oth q5, u2_oth q4, u2_oth q3]
  have m99 : ∀ c, nuT ν n 99 0 c = if c = 1 then N + 1 else ν 99 0 c := fun c => by
    simp only [nuT, u3, hN]
    by_cases q : c = 1
    · subst q; simp
    · simp [q]
  have m3 : ∀ i, nuT ν n 3 i 7 = if i = n then N else ν 3 i 7 := fun i => by
    simp only [nuT, u3, hN]
    by_cases q : i = n
    · subst q; simp
    · simp [q]
  have m3' : ∀ i, i ≠ n → nuT ν n 3 i = ν 3 i := fun i hi => by
    funext c
    simp only [nuT, u3]
    rw [if_neg (fun z => hi z.2.1), if_neg (fun z => by omega)]
  have mo : ∀ a, a ≠ 99 → a ≠ 3 → nuT ν n a = ν a := fun a q1 q2 => by
    funext b c
    simp only [nuT, u3]
    rw [if_neg (fun z => q2 z.1), if_neg (fun z => q1 z.1)]
  have hlt : ∀ i, i < n → ν 3 i 7 < N := fun i hi => by rw [← hN]; exact (hC.2 i hi).2.2.2.2.2.2.2.2.2.1
  have gσ : ∀ x y, ¬ (x = 5 ∧ y = N) → r3 σ 5 N (tm4 p1 p2 p3 p4) x y = σ x y := fun x y z => r3_oth z
  obtain ⟨w1, w2, w3, w4⟩ := id b4
  refine h.nx (N := N) (fun a b _ _ z _ => gσ a b z) hlt (fun i hi => m3' i (by omega)) (by rw [m99, if_neg (by decide)]) (by rw [m99, if_pos rfl, hN]; omega) (by rw [mo 0 (by decide) (by decide)]) (mo 7 (by decide) (by decide)) (mo 8 (by decide) (by decide)) (mo 13 (by decide) (by decide)) ⟨fun o i => ?_, fun o i => ?_, ?_, fun i hi => ?_⟩ (by rw [gσ 0 0 (fun z => by omega)]) ⟨fun j hj _ => gr j (by omega) (by omega) (by omega) (by omega), fun i _ => by rw [gr 2 (by decide) (by decide) (by decide) (by decide)]⟩ (gr 33 (by decide) (by decide) (by decide) (by decide)) (gr 34 (by decide) (by decide) (by decide) (by decide)) (gr 35 (by decide) (by decide) (by decide) (by decide)) ?_ ?_
  · rw [mo 8 (by decide) (by decide), m99, if_neg (by decide)]; exact w1 o i
  · rw [mo 13 (by decide) (by decide), m99, if_neg (by decide)]; exact w2 o i
  · rw [mo 0 (by decide) (by decide), m99, if_neg (by decide)]; exact w3
  · rw [m99, if_pos rfl, m3]
    rw [m99, if_neg (by decide)] at hi
    by_cases q : i = n
    · rw [if_pos q]; omega
    · rw [if_neg q]; have := w4 i hi; omega
  · unfold ADY at *
    rw [gσ 0 0 (fun z => by omega), gr 0 (by decide) (by decide) (by decide) (by decide), gr 1 (by decide) (by decide) (by decide) (by decide), gr 2 (by decide) (by decide) (by decide) (by decide), gr 14 (by decide) (by decide) (by decide) (by decide)]
    exact hA
  · have r3' : γ1 3 0 = p1 := by rw [← hγ', u2_oth (by decide), u2_oth (by decide), u2_oth (by decide), u2_at, if_pos rfl]
    have r4' : γ1 4 0 = p2 := by rw [← hγ', u2_oth (by decide), u2_oth (by decide), u2_at, if_pos rfl]
    have r5' : γ1 5 0 = p3 := by rw [← hγ', u2_oth (by decide), u2_at, if_pos rfl]
    have r6' : γ1 6 0 = p4 := by rw [← hγ', u2_at, if_pos rfl]
    obtain ⟨-, -, e3, e4, e5, e6, e7, e8⟩ := hX
    have ph : ∀ q s, PH σ q s → PH (r3 σ 5 N (tm4 p1 p2 p3 p4)) q s := fun q s hq => by
      unfold PH at *
      rw [gσ 4 q (fun z => by omega), gσ 22 q (fun z => by omega)]
      exact hq
    obtain ⟨k, hk, ek⟩ := in_nI (N := 3) c2.1.1 (by have := c2.1.2; omega)
    refine ⟨?_, ⟨⟨k, by omega, by rw [r3', ek]⟩, fun z => by rw [r3'] at z; rw [r4']; exact c2.2.1 z, fun z => ?_⟩, by rw [gr 7 (by decide) (by decide) (by decide) (by decide)]; exact e3, by rw [gr 7 (by decide) (by decide) (by decide) (by decide), gr 8 (by decide) (by decide) (by decide) (by decide)]; exact ph _ _ e4, by rw [gr 9 (by decide) (by decide) (by decide) (by decide)]; exact e5, by rw [gr 9 (by decide) (by decide) (by decide) (by decide), gr 10 (by decide) (by decide) (by decide) (by decide)]; exact ph _ _ e6, by rw [gr 10 (by decide) (by decide) (by decide) (by decide)]; exact e7, by rw [gσ 6 (3 * n) (fun z => by omega), gσ 6 (3 * n + 1) (fun z => by omega), gσ 6 (3 * n + 2) (fun z => by omega)]; exact e8⟩
    · rw [m3, if_pos rfl, r3', r4', r5', r6', r3_row]
      exact ⟨rfl, rfl, rfl, rfl⟩
    · rw [r3'] at z
      obtain ⟨w, hw, ew⟩ := in_nI (c1 z).1 (c1 z).2
      exact ⟨w, hw, by rw [r4']; exact ew⟩

set_option maxRecDepth 100000 in
theorem y_word0 {σ : SG} {ν : NU} {γ : RH} {n np : Nat} (h : SIM σ ν γ n np) {p1 : Int32} {post : Int32 → SG → Prop} {px : String → SG → Prop} (k1 : ¬ (0 ≤ p1.toInt ∧ p1.toInt ≤ 139) → px IAE σ) (k2 : (0 ≤ p1.toInt ∧ p1.toInt ≤ 139) → γ 7 0 = nI 4 → px ISE σ) (k3 : (0 ≤ p1.toInt ∧ p1.toInt ≤ 139) → ∀ m : Nat, m < 4 → γ 7 0 = nI m → ∀ σ1, SIM σ1 ν (u2 (u2 γ 8 m p1) 7 0 (nI (m + 1))) n np → post (nI (m + 1)) σ1) : wpX6_word σ ν p1 0 post px := by
  obtain ⟨⟨hD, hC, ⟨b1, b2, b3, b4, b5, b6⟩, h7, hA, hX, h5⟩, hV⟩ := id h
  obtain ⟨e1, e2, ⟨ms, hms, es⟩, e4, ⟨mf, hmf, ef⟩, e6, e7, e8⟩ := id hX
  have e4' := e4
  have e6' := e6
  rw [es] at e4'
  rw [ef] at e6'
  have hcs := (PH_of hms e4').1
  have hcf := (PH_of hmf e6').1
  unfold wpX6_word
  by_cases c1 : ¬ (0 ≤ p1.toInt ∧ p1.toInt ≤ 139)
  · by_cases c : p1.toInt < 0
    · rw [if_pos c]; exact k1 c1
    · rw [if_neg c, if_neg (fun z => c1 ⟨by omega, z⟩)]; exact k1 c1
  have c1 := Decidable.byContradiction c1
  rw [if_neg (by omega), if_pos c1.2, if_pos z0I]
  refine ⟨by omega, ?_⟩
  unfold jX6_word_42
  rw [b2]
  refine ⟨by omega, c_append (by omega) (by omega) hcs (fun q4 => ?_) (fun q4 => ?_)⟩
  · rw [if_pos z0I]
    exact k2 c1 (by rw [es, q4])
  rw [if_neg z1I, show u3 (u3 σ 22 (2 * n) ms p1) 4 (2 * n) 1 (nI (ms + 1)) 4 (2 * n) 1 = nI (ms + 1) by rw [u3_at, if_pos rfl]]
  refine k3 c1 ms q4 es _ ?_
  generalize hγ' : u2 (u2 γ 8 ms p1) 7 0 (nI (ms + 1)) = γ1
  have gr : ∀ j, j ≠ 7 → j ≠ 8 → γ1 j = γ j := fun j q7 q8 => by rw [← hγ', u2_oth q7, u2_oth q8]
  have r7 : γ1 7 0 = nI (ms + 1) := by rw [← hγ', u2_at, if_pos rfl]
  have r8 : ∀ k, γ1 8 k = if k = ms then p1 else γ 8 k := fun k => by rw [← hγ', u2_oth (by decide), u2_at]
  have gσ : ∀ x y, ¬ ((x = 4 ∨ x = 22) ∧ y = 2 * n) → u3 (u3 σ 22 (2 * n) ms p1) 4 (2 * n) 1 (nI (ms + 1)) x y = σ x y := fun x y z => by rw [u3_oth (fun w => z ⟨Or.inl w.1, w.2⟩), u3_oth (fun w => z ⟨Or.inr w.1, w.2⟩)]
  refine h.nx (N := ν 99 0 1) (fun a b _ z _ _ => gσ a b (fun w => z ⟨w.1, Or.inl w.2⟩)) (fun i hi => (hC.2 i hi).2.2.2.2.2.2.2.2.2.1) (fun _ _ => rfl) rfl (Nat.le_refl _) rfl rfl rfl rfl b4 (by rw [gσ 0 0 (fun z => by omega)]) ⟨fun j hj _ => gr j (by omega) (by omega), fun i _ => by rw [gr 2 (by decide) (by decide)]⟩ (gr 33 (by decide) (by decide)) (gr 34 (by decide) (by decide)) (gr 35 (by decide) (by decide)) ?_ ?_
  · unfold ADY at *
    rw [gσ 0 0 (fun z => by omega), gr 0 (by decide) (by decide), gr 1 (by decide) (by decide), gr 2 (by decide) (by decide), gr 14 (by decide) (by decide)]
    exact hA
  · refine ⟨by rw [gσ 5 _ (fun z => by omega), gr 3 (by decide) (by decide), gr 4 (by decide) (by decide), gr 5 (by decide) (by decide), gr 6 (by decide) (by decide)]; exact e1, by rw [gr 3 (by decide) (by decide), gr 4 (by decide) (by decide)]; exact e2, ⟨ms + 1, by omega, r7⟩, ?_, by rw [gr 9 (by decide) (by decide)]; exact ⟨mf, hmf, ef⟩, ?_, by rw [gr 10 (by decide) (by decide)]; exact e7, by rw [gσ 6 (3 * n) (fun z => by omega), gσ 6 (3 * n + 1) (fun z => by omega), gσ 6 (3 * n + 2) (fun z => by omega)]; exact e8⟩
    · rw [r7]
      exact PH_app (by omega) e4' r8
    · rw [gr 9 (by decide) (by decide), gr 10 (by decide) (by decide)]
      unfold PH at *
      rw [gσ 4 (2 * n + 1) (fun z => by omega), gσ 22 (2 * n + 1) (fun z => by omega)]
      exact e6
set_option maxRecDepth 100000 in
theorem y_word1 {σ : SG} {ν : NU} {γ : RH} {n np : Nat} (h : SIM σ ν γ n np) {p1 : Int32} {post : Int32 → SG → Prop} {px : String → SG → Prop} (k1 : ¬ (0 ≤ p1.toInt ∧ p1.toInt ≤ 139) → px IAE σ) (k2 : (0 ≤ p1.toInt ∧ p1.toInt ≤ 139) → γ 9 0 = nI 4 → px ISE σ) (k3 : (0 ≤ p1.toInt ∧ p1.toInt ≤ 139) → ∀ m : Nat, m < 4 → γ 9 0 = nI m → ∀ σ1, SIM σ1 ν (u2 (u2 γ 10 m p1) 9 0 (nI (m + 1))) n np → post (nI (m + 1)) σ1) : wpX6_word σ ν p1 1 post px := by
  obtain ⟨⟨hD, hC, ⟨b1, b2, b3, b4, b5, b6⟩, h7, hA, hX, h5⟩, hV⟩ := id h
  obtain ⟨e1, e2, ⟨ms, hms, es⟩, e4, ⟨mf, hmf, ef⟩, e6, e7, e8⟩ := id hX
  have e4' := e4
  have e6' := e6
  rw [es] at e4'
  rw [ef] at e6'
  have hcs := (PH_of hms e4').1
  have hcf := (PH_of hmf e6').1
  unfold wpX6_word
  by_cases c1 : ¬ (0 ≤ p1.toInt ∧ p1.toInt ≤ 139)
  · by_cases c : p1.toInt < 0
    · rw [if_pos c]; exact k1 c1
    · rw [if_neg c, if_neg (fun z => c1 ⟨by omega, z⟩)]; exact k1 c1
  have c1 := Decidable.byContradiction c1
  rw [if_neg (by omega), if_pos c1.2, if_neg z1I]
  refine ⟨by omega, ?_⟩
  unfold jX6_word_42
  rw [b2]
  refine ⟨by omega, c_append (by omega) (by omega) hcf (fun q4 => ?_) (fun q4 => ?_)⟩
  · rw [if_pos z0I]
    exact k2 c1 (by rw [ef, q4])
  rw [if_neg z1I, show u3 (u3 σ 22 (2 * n + 1) mf p1) 4 (2 * n + 1) 1 (nI (mf + 1)) 4 (2 * n + 1) 1 = nI (mf + 1) by rw [u3_at, if_pos rfl]]
  refine k3 c1 mf q4 ef _ ?_
  generalize hγ' : u2 (u2 γ 10 mf p1) 9 0 (nI (mf + 1)) = γ1
  have gr : ∀ j, j ≠ 9 → j ≠ 10 → γ1 j = γ j := fun j q7 q8 => by rw [← hγ', u2_oth q7, u2_oth q8]
  have r9 : γ1 9 0 = nI (mf + 1) := by rw [← hγ', u2_at, if_pos rfl]
  have r10 : ∀ k, γ1 10 k = if k = mf then p1 else γ 10 k := fun k => by rw [← hγ', u2_oth (by decide), u2_at]
  have gσ : ∀ x y, ¬ ((x = 4 ∨ x = 22) ∧ y = 2 * n + 1) → u3 (u3 σ 22 (2 * n + 1) mf p1) 4 (2 * n + 1) 1 (nI (mf + 1)) x y = σ x y := fun x y z => by rw [u3_oth (fun w => z ⟨Or.inl w.1, w.2⟩), u3_oth (fun w => z ⟨Or.inr w.1, w.2⟩)]
  refine h.nx (N := ν 99 0 1) (fun a b _ z _ _ => gσ a b (fun w => z ⟨w.1, Or.inr w.2⟩)) (fun i hi => (hC.2 i hi).2.2.2.2.2.2.2.2.2.1) (fun _ _ => rfl) rfl (Nat.le_refl _) rfl rfl rfl rfl b4 (by rw [gσ 0 0 (fun z => by omega)]) ⟨fun j hj _ => gr j (by omega) (by omega), fun i _ => by rw [gr 2 (by decide) (by decide)]⟩ (gr 33 (by decide) (by decide)) (gr 34 (by decide) (by decide)) (gr 35 (by decide) (by decide)) ?_ ?_
  · unfold ADY at *
    rw [gσ 0 0 (fun z => by omega), gr 0 (by decide) (by decide), gr 1 (by decide) (by decide), gr 2 (by decide) (by decide), gr 14 (by decide) (by decide)]
    exact hA
  · refine ⟨by rw [gσ 5 _ (fun z => by omega), gr 3 (by decide) (by decide), gr 4 (by decide) (by decide), gr 5 (by decide) (by decide), gr 6 (by decide) (by decide)]; exact e1, by rw [gr 3 (by decide) (by decide), gr 4 (by decide) (by decide)]; exact e2, by rw [gr 7 (by decide) (by decide)]; exact ⟨ms, hms, es⟩, ?_, ⟨mf + 1, by omega, r9⟩, ?_, fun k hk => ?_, by rw [gσ 6 (3 * n) (fun z => by omega), gσ 6 (3 * n + 1) (fun z => by omega), gσ 6 (3 * n + 2) (fun z => by omega)]; exact e8⟩
    · rw [gr 7 (by decide) (by decide), gr 8 (by decide) (by decide)]
      unfold PH at *
      rw [gσ 4 (2 * n) (fun z => by omega), gσ 22 (2 * n) (fun z => by omega)]
      exact e4
    · rw [r9]
      exact PH_app (by omega) e6' r10
    · rw [r10]
      by_cases z : k = mf
      · rw [if_pos z]; exact c1
      · rw [if_neg z]; exact e7 k hk

set_option maxRecDepth 100000 in
def okL (γ : RH) (d kn te : Int32) : Prop := okd d ∧ (0 ≤ kn.toInt ∧ kn.toInt ≤ (γ 0 0).toInt) ∧ 0 ≤ te.toInt ∧ te.toInt ≤ 2
set_option maxRecDepth 100000 in
theorem y_look {σ : SG} {ν : NU} {γ : RH} {n np : Nat} (h : SIM σ ν γ n np) {d kn te : Int32} {post : Int32 → SG → NU → Prop} {px : String → Prop} (k1 : ¬ okL γ d kn te → px IAE) (k2 : okL γ d kn te → ∀ σ1 ν1, SIM σ1 ν1 (u2 (u2 (u2 γ 33 0 d) 34 0 kn) 35 0 te) n np → post (nI (ls9 (cv9 n np (u2 (u2 (u2 γ 33 0 d) 34 0 kn) 35 0 te))).length) σ1 ν1) : wpX6_look σ ν d kn te post px := by
  obtain ⟨⟨hD, hC, hH, h7, hA, -, h5⟩, hV⟩ := id h
  have t2 : (2 : Int32).toInt = 2 := by decide
  by_cases c : ¬ okL γ d kn te
  · refine c_needDay (fun _ => k1 c) (fun c1 => ?_)
    by_cases c2 : kn.toInt < 0
    · rw [if_pos c2]; exact k1 c
    rw [if_neg c2, hA.1]
    by_cases c3 : ¬ kn.toInt ≤ (γ 0 0).toInt
    · rw [if_neg c3]; exact k1 c
    have c3 := Decidable.byContradiction c3
    rw [if_pos c3]
    by_cases c4 : te.toInt < 0
    · rw [if_pos c4]; exact k1 c
    rw [if_neg c4]
    by_cases c5 : te.toInt ≤ 2
    · exact absurd ⟨c1, ⟨by omega, c3⟩, by omega, c5⟩ c
    · rw [if_neg c5]; exact k1 c
  have c := Classical.byContradiction c
  have k2 := k2 c
  obtain ⟨c1, c2, c3⟩ := c
  generalize hγ1 : u2 (u2 (u2 γ 33 0 d) 34 0 kn) 35 0 te = γ1 at k2
  have r33 : γ1 33 0 = d := by rw [← hγ1, u2_oth (by decide), u2_oth (by decide), u2_at, if_pos rfl]
  have r34 : γ1 34 0 = kn := by rw [← hγ1, u2_oth (by decide), u2_at, if_pos rfl]
  have r35 : γ1 35 0 = te := by rw [← hγ1, u2_at, if_pos rfl]
  have rlo : ∀ j, j < 33 → γ1 j = γ j := fun j hj => by rw [← hγ1, u2_oth (by omega), u2_oth (by omega), u2_oth (by omega)]
  have gl : lgn n γ γ1 := ⟨fun j _ hj => rlo j hj, fun i _ => by rw [rlo 2 (by omega)]⟩
  have hD1 := hD.ln gl
  have hG1 := GD_vw (d := γ1 33 0) (kn := γ1 34 0) (te := γ1 35 0) hD1
  refine c_needDay (fun z => absurd c1 z) (fun _ => ?_)
  rw [if_neg (by omega), hA.1, if_pos c2.2, if_neg (by omega), if_pos c3.2]
  refine ⟨by decide, fun t2 e2 t4 e4 t6 e6 => ?_⟩
  have go : ∀ a b, ¬ (a = 1 ∧ b = 0) → t6 a b = σ a b := fun a b z => by rw [e6, u3_oth z, e4, u3_oth z, e2, u3_oth z]
  have hv6 : VDY t6 γ1 := by
    refine ⟨by rw [r33]; exact c1, ?_, ?_, ?_⟩
    · rw [e6, u3_at, if_neg (by decide), e4, u3_at, if_neg (by decide), e2, u3_at, if_pos rfl, r33]
    · rw [e6, u3_at, if_neg (by decide), e4, u3_at, if_pos rfl, r34]
    · rw [e6, u3_at, if_pos rfl, r35]
  refine s_buildS (h.1.view go rlo hv6) (fun σ' ν' hs _ _ => ?_)
  have hl : LD9 σ' 0 (ls9 (cv9 n np γ1)) := hs.2.2.2.2
  rw [hl.1]
  exact k2 σ' ν' hs
set_option maxRecDepth 100000 in
set_option maxHeartbeats 2000000 in
theorem y_enact {σ : SG} {ν : NU} {γ : RH} {n np : Nat} (h : SIM σ ν γ n np) {p1 p2 p3 : Int32} {post : Int32 → SG → NU → Prop} {px : String → Prop} (k1 : ¬ (p1 = -1 ∨ (0 ≤ p1.toInt ∧ p1.toInt < np)) → px IOB) (k2 : (p1 = -1 ∨ (0 ≤ p1.toInt ∧ p1.toInt < np)) → ¬ okLab p2 p3 → px IAE) (k3 : (p1 = -1 ∨ (0 ≤ p1.toInt ∧ p1.toInt < np)) → okLab p2 p3 → ¬ (opn9 n γ ∧ np < 20 ∧ γ 7 0 = nI 0) → px ISE) (k4 : (p1 = -1 ∨ (0 ≤ p1.toInt ∧ p1.toInt < np)) → okLab p2 p3 → opn9 n γ ∧ np < 20 ∧ γ 7 0 = nI 0 → ∀ a : Nat, 0 < a → a ≤ 10 → γ 1 0 = nI a → γ 2 (a - 1) = γ 0 0 → ∀ σ1 ν1, SIM σ1 ν1 (u2 (lay9 n a γ 0 (nI np) p1 (((1000 : Int32) * p2) + p3)) 12 0 (nI (np + 1))) (n + 1) (np + 1) → post (nI np) σ1 ν1) : wpX6_enact σ ν p1 p2 p3 post px := by
  obtain ⟨⟨hD, hC, ⟨b1, b2, b3, b4, b5, b6⟩, h7, hA, hX, h5⟩, hV⟩ := id h
  have h20 := hD.2.1
  obtain ⟨e1, e2, ⟨ms, hms, es⟩, e4, ⟨mf, hmf, ef⟩, e6, e7, e8⟩ := id hX
  have e4' := e4
  rw [es] at e4'
  have hcs := (PH_of hms e4').1
  have em : γ 7 0 = nI 0 ↔ ms = 0 := ⟨fun z => nI_inj (by omega) (by omega) (es.symm.trans z), fun z => by rw [es, z]⟩
  by_cases c1 : ¬ (p1 = -1 ∨ (0 ≤ p1.toInt ∧ p1.toInt < np))
  · exact c_needPT h7 h20 k1 (fun z => absurd z c1)
  have c1 := Decidable.byContradiction c1
  by_cases c2 : ¬ okLab p2 p3
  · exact c_needPT h7 h20 (fun z => absurd c1 z) (fun _ => c_needLabel (k2 c1) (fun z => absurd z c2))
  have c2 := Classical.byContradiction c2
  have C3 : ∀ (post : Int32 → SG → NU → Prop) (px : String → Prop), (¬ (opn9 n γ ∧ np < 20 ∧ ms = 0) → px ISE) → (opn9 n γ ∧ np < 20 ∧ ms = 0 → wpX6_add (u3 (u3 σ 3 n 5 p1) 3 n 6 (((1000 : Int32) * p2) + p3)) ν 0 (nI np) (fun t10 vv11 => ∀ t15 : SG, t15 = u3 t10 0 0 7 ((t10 0 0 7) + ((1 : Int32))) → wpX5_build t15 vv11 0 0 (fun t17 vv18 => post ((t17 0 0 7) - ((1 : Int32))) t17 vv18))) → wpX6_enact σ ν p1 p2 p3 post px := by
    intro post px k1 k2
    refine c_needPT h7 h20 (fun z => absurd c1 z) (fun _ => c_needLabel (fun z => absurd c2 z) (fun _ => c_needRoom hD b3 hA (fun z => k1 (fun y => z y.1)) (fun c3 => ?_)))
    rw [h7, ti_n (by omega), b2]
    by_cases c4 : np < 20
    · rw [if_pos (by omega)]
      refine ⟨by omega, by omega, ?_⟩
      rw [hcs, ti_n (by omega)]
      by_cases c5 : ms = 0
      · rw [if_pos (by omega)]
        intro t5 e5 t8 e8
        have e9 : t8 0 0 7 = nI np := by rw [e8, u3_oth (fun z => by omega), e5, u3_oth (fun z => by omega)]; exact h7
        rw [e9, e8, e5]
        exact k2 ⟨c3, c4, c5⟩
      · rw [if_neg (by omega)]; exact k1 (fun z => c5 z.2.2)
    · rw [if_neg (by omega)]; exact k1 (fun z => c4 z.2.1)
  by_cases c3 : ¬ (opn9 n γ ∧ np < 20 ∧ ms = 0)
  · exact C3 post px (fun _ => k3 c1 c2 (fun z => c3 ⟨z.1, z.2.1, em.mp z.2.2⟩)) (fun z => absurd z c3)
  have c3 := Classical.byContradiction c3
  obtain ⟨⟨hn, a, ha0, ha9, ha1, hday⟩, hnp, hm0⟩ := id c3
  have hlab := okLab_l c2
  have k4 := k4 c1 c2 ⟨c3.1, c3.2.1, em.mpr c3.2.2⟩ a ha0 ha9 ha1 hday
  refine C3 post px (fun z => absurd c3 z) (fun _ => ?_)
  have hσ : ∀ x y, ¬ (x = 3 ∧ y = n) → u3 (u3 σ 3 n 5 p1) 3 n 6 (((1000 : Int32) * p2) + p3) x y = σ x y := fun x y z => by rw [u3_oth z, u3_oth z]
  have hL' : LI9 (u3 (u3 σ 3 n 5 p1) 3 n 6 (((1000 : Int32) * p2) + p3)) ν n := b3.same (by rw [hσ 7 0 (fun z => by omega)]) rfl rfl rfl
  refine c_add hn b1 b2 hL' b4 (fun σ' ν' hAd t15 e15 => ?_)
  have e07 : σ' 0 0 7 = nI np := by rw [hAd.2.2.2.2.2.2.1 0 0 (by decide) (by decide) (by decide) (by decide) (fun z => by omega), hσ 0 0 (fun z => by omega)]; exact h7
  rw [e07, nI_1] at e15
  have hS := SIMD_lay (K := 0) (p := np) (np' := np + 1) (σ9 := t15) (ρ9 := u2 (lay9 n a γ 0 (nI np) p1 (((1000 : Int32) * p2) + p3)) 12 0 (nI (np + 1))) h hσ hAd (fun x y z => by rw [e15, u3_oth z]) (fun c hc => by rw [e15, u3_at, if_neg hc]) (by rw [e15, u3_at, if_pos rfl]) lay9_laid (fun j hj => u2_oth hj) (by rw [u2_at, if_pos rfl]) (by omega) (by omega) hn ha1 ha9 ha0 hday (by omega) rfl (fun z => absurd z (by decide)) (fun _ => by omega) (fun _ => pt_q h20 c1) (fun z => absurd z (by decide)) (fun _ => hlab) (fun _ => Nat.le_refl _) (fun _ => by rw [u3_at, if_neg (by decide), u3_at, if_pos rfl]) (fun _ => by rw [u3_at, if_pos rfl])
  refine s_buildS hS (fun σ1 ν1 hs g0 _ => ?_)
  have er : (σ1 0 0 7) - ((1 : Int32)) = nI np := by rw [g0, e15, u3_at, if_pos rfl, li1, pk_sub (by omega), Nat.add_sub_cancel]
  rw [er]
  exact k4 σ1 ν1 hs
def okI9 (n np : Nat) (p1 p2 p3 : Int32) : Prop := (p1 = 7 → 0 ≤ p2.toInt ∧ p2.toInt < n) ∧ (p1 ≠ 7 → 0 ≤ p2.toInt ∧ p2.toInt < np) ∧ (p1 = 5 → p3 = -1 ∨ (0 ≤ p3.toInt ∧ p3.toInt < np))
set_option maxRecDepth 100000 in
set_option maxHeartbeats 4000000 in
theorem y_instruct {σ : SG} {ν : NU} {γ : RH} {n np : Nat} (h : SIM σ ν γ n np) {p1 p2 p3 p4 : Int32} {post : Int32 → SG → NU → Prop} {px : String → Prop} (k1 : ¬ okI9 n np p1 p2 p3 → px IOB) (k2 : okI9 n np p1 p2 p3 → ¬ ((1 ≤ p1.toInt ∧ p1.toInt ≤ 7) ∧ (p1 = 4 → okLab p3 p4)) → px IAE) (k3 : okI9 n np p1 p2 p3 → ((1 ≤ p1.toInt ∧ p1.toInt ≤ 7) ∧ (p1 = 4 → okLab p3 p4)) → ∀ ms mf : Nat, ms ≤ 4 → mf ≤ 4 → γ 7 0 = nI ms → γ 9 0 = nI mf → ¬ (opn9 n γ ∧ ¬ lk9 p1.toInt ms mf ∧ ¬ ex9 p1.toInt ms mf) → px ISE) (k4 : okI9 n np p1 p2 p3 → ((1 ≤ p1.toInt ∧ p1.toInt ≤ 7) ∧ (p1 = 4 → okLab p3 p4)) → ∀ ms mf : Nat, ms ≤ 4 → mf ≤ 4 → γ 7 0 = nI ms → γ 9 0 = nI mf → opn9 n γ ∧ ¬ lk9 p1.toInt ms mf ∧ ¬ ex9 p1.toInt ms mf → ∀ a : Nat, 0 < a → a ≤ 10 → γ 1 0 = nI a → γ 2 (a - 1) = γ 0 0 → ∀ la σ1 ν1, SIM σ1 ν1 (lay9 n a γ p1 p2 p3 la) (n + 1) np → post (nI n) σ1 ν1) : wpX6_instruct σ ν p1 p2 p3 p4 post px := by
  obtain ⟨⟨hD, hC, ⟨b1, b2, b3, b4, b5, b6⟩, h7, hA, hX, h5⟩, hV⟩ := id h
  have h20 := hD.2.1
  have h40 := hD.1
  have t1 : (1 : Int32).toInt = 1 := by decide
  have t7 : (7 : Int32).toInt = 7 := by decide
  have t5 : (5 : Int32).toInt = 5 := by decide
  have t4 : (4 : Int32).toInt = 4 := by decide
  obtain ⟨e1, e2, ⟨ms, hms, es⟩, e4, ⟨mf, hmf, ef⟩, e6, e7, e8⟩ := id hX
  have e4' := e4
  have e6' := e6
  rw [es] at e4'
  rw [ef] at e6'
  have hcs := (PH_of hms e4').1
  have hcf := (PH_of hmf e6').1
  have k3 := fun a b => k3 a b ms mf hms hmf es ef
  have k4 := fun a b => k4 a b ms mf hms hmf es ef
  let okI : Prop := (p1 = 7 → 0 ≤ p2.toInt ∧ p2.toInt < n) ∧ (p1 ≠ 7 → 0 ≤ p2.toInt ∧ p2.toInt < np) ∧ (p1 = 5 → p3 = -1 ∨ (0 ≤ p3.toInt ∧ p3.toInt < np))
  have C0 : ∀ (post : Int32 → SG → NU → Prop) (px : String → Prop), (¬ okI → px IOB) → (okI → jX6_instruct_30 p1 p2 p3 p4 post px σ ν) → wpX6_instruct σ ν p1 p2 p3 p4 post px := by
    intro post px k1 k2
    have c20 : (p1 = 7 → 0 ≤ p2.toInt ∧ p2.toInt < n) → (p1 ≠ 7 → 0 ≤ p2.toInt ∧ p2.toInt < np) → jX6_instruct_20 p1 p2 p3 p4 post px σ ν := by
      intro a1 a2
      unfold jX6_instruct_20
      by_cases c : p1 = 5
      · rw [if_pos (by rw [c]; exact t5)]
        exact c_needPT h7 h20 (fun z => k1 (fun y => z (y.2.2 c))) (fun z => k2 ⟨a1, a2, fun _ => z⟩)
      · rw [if_neg (fun z => c (ti_eq.mp (z.trans t5.symm)))]; exact k2 ⟨a1, a2, fun z => absurd z c⟩
    unfold wpX6_instruct
    by_cases c : p1 = 7
    · rw [if_pos (by rw [c]; exact t7)]
      exact c_needI b3 hC.1 h40 (fun z => k1 (fun y => z (y.1 c))) (fun k hk e => c20 (fun _ => ⟨by rw [e, ti_n (by omega)]; omega, by rw [e, ti_n (by omega)]; omega⟩) (fun z => absurd c z))
    · rw [if_neg (fun z => c (ti_eq.mp (z.trans t7.symm)))]
      exact c_needP h7 h20 (fun z => k1 (fun y => z (y.2.1 c))) (fun z => c20 (fun y => absurd y c) (fun _ => z))
  have C30 : ∀ (post : Int32 → SG → NU → Prop) (px : String → Prop), (¬ ((1 ≤ p1.toInt ∧ p1.toInt ≤ 7) ∧ (p1 = 4 → okLab p3 p4)) → px IAE) → ((1 ≤ p1.toInt ∧ p1.toInt ≤ 7) ∧ (p1 = 4 → okLab p3 p4) → jX6_instruct_62 p1 p2 p3 p4 post px σ ν) → jX6_instruct_30 p1 p2 p3 p4 post px σ ν := by
    intro post px k1 k2
    unfold jX6_instruct_30
    by_cases c : p1.toInt < 1
    · rw [if_pos c]; exact k1 (fun z => by have := z.1.1; omega)
    rw [if_neg c]
    by_cases c2 : ¬ p1.toInt ≤ 7
    · rw [if_neg c2]; exact k1 (fun z => c2 z.1.2)
    have c2 := Decidable.byContradiction c2
    rw [if_pos c2]
    by_cases c4 : p1 = 4
    · rw [if_pos (by rw [c4]; exact t4)]
      exact c_needLabel (fun z => k1 (fun y => z (y.2 c4))) (fun z => k2 ⟨⟨by omega, c2⟩, fun _ => z⟩)
    · rw [if_neg (fun z => c4 (ti_eq.mp (z.trans t4.symm)))]
      exact k2 ⟨⟨by omega, c2⟩, fun z => absurd z c4⟩
  by_cases c1 : ¬ okI
  · exact C0 post px k1 (fun z => absurd z c1)
  have c1 := Classical.byContradiction c1
  by_cases c2 : ¬ ((1 ≤ p1.toInt ∧ p1.toInt ≤ 7) ∧ (p1 = 4 → okLab p3 p4))
  · exact C0 post px (fun z => absurd c1 z) (fun _ => C30 post px (k2 c1) (fun z => absurd z c2))
  have c2 := Classical.byContradiction c2
  have k3 := k3 c1 c2
  have k4 := k4 c1 c2
  obtain ⟨K, hK, rfl⟩ := in_nI (N := 8) (p := p1) (by omega) (by omega)
  have hK1 : 1 ≤ K := by have := c2.1.1; rw [ti_n (by omega)] at this; omega
  have tK : (nI K).toInt = K := ti_n (by omega)
  rw [tK] at k3 k4
  have C62 : ∀ (post : Int32 → SG → NU → Prop) (px : String → Prop), (¬ (opn9 n γ ∧ ¬ lk9 K ms mf ∧ ¬ ex9 K ms mf) → px ISE) → (opn9 n γ ∧ ¬ lk9 K ms mf ∧ ¬ ex9 K ms mf → (nI K = 5 → jX6_instruct_100 (nI K) p2 p3 p4 post px (u3 σ 3 n 5 p3) ν) ∧ (nI K ≠ 5 → jX6_instruct_100 (nI K) p2 p3 p4 post px σ ν)) → jX6_instruct_62 (nI K) p2 p3 p4 post px σ ν := by
    intro post px k1 k2
    unfold jX6_instruct_62
    refine c_needRoom hD b3 hA (fun z => k1 (fun y => z y.1)) (fun z => ?_)
    rw [b2]
    refine ⟨by omega, c_hasWords (by omega) hK1 (by omega) hcs hcf hms hmf (fun y => ?_) (fun y => ?_)⟩
    · rw [if_pos z0I]
      exact k1 (fun w => y.elim w.2.1 w.2.2)
    · rw [if_neg z1I]
      obtain ⟨q1, q2⟩ := k2 ⟨z, fun w => y (Or.inl w), fun w => y (Or.inr w)⟩
      by_cases c : nI K = 5
      · rw [if_pos (by rw [c]; exact t5)]
        intro t26 e26
        subst e26
        exact q1 c
      · rw [if_neg (fun w => c (ti_eq.mp (w.trans t5.symm)))]
        exact q2 c
  by_cases c3 : ¬ (opn9 n γ ∧ ¬ lk9 K ms mf ∧ ¬ ex9 K ms mf)
  · exact C0 post px (fun z => absurd c1 z) (fun _ => C30 post px (fun z => absurd c2 z) (fun _ => C62 post px k3 (fun z => absurd z c3)))
  have c3 := Classical.byContradiction c3
  obtain ⟨⟨hn, a, ha0, ha9, ha1, hday⟩, hlk, hex⟩ := id c3
  have k4 := k4 c3 a ha0 ha9 ha1 hday
  obtain ⟨p, hof, hp7, hpp⟩ : ∃ p : Nat, p2 = nI p ∧ (K = 7 → p < n) ∧ (K ≠ 7 → p < np) := by
    by_cases q : K = 7
    · obtain ⟨k, hk, e⟩ := in_nI (c1.1 (by rw [q]; rfl)).1 (c1.1 (by rw [q]; rfl)).2
      exact ⟨k, e, fun _ => hk, fun z => absurd q z⟩
    · have q' : nI K ≠ 7 := nI_ne (b := 7) (by omega) (by omega) q
      obtain ⟨k, hk, e⟩ := in_nI (c1.2.1 q').1 (c1.2.1 q').2
      exact ⟨k, e, fun z => absurd z q, fun _ => hk⟩
  generalize hla : (if K = 4 then (((1000 : Int32) * p3) + p4) else 0) = la
  have Sv : ∀ σ1 : SG, (∀ x y, ¬ (x = 3 ∧ y = n) → σ1 x y = σ x y) → (K = 5 → σ1 3 n 5 = p3) → (K = 4 → σ1 3 n 6 = la) → ∀ (σ' : SG) (ν' : NU), ADDED n σ1 σ' ν ν' (nI K) p2 → SIMD σ' ν' (lay9 n a γ (nI K) p2 p3 la) (n + 1) np := by
    intro σ1 hσ k5 k4 σ' ν' hAd
    have e07 : σ' 0 0 7 = nI np := by rw [hAd.2.2.2.2.2.2.1 0 0 (by decide) (by decide) (by decide) (by decide) (fun z => by omega), hσ 0 0 (fun z => by omega)]; exact h7
    refine SIMD_lay (K := K) (p := p) (np' := np) (σ9 := σ') (ρ9 := lay9 n a γ (nI K) p2 p3 la) h hσ hAd (fun _ _ _ => rfl) (fun _ _ => rfl) e07 lay9_laid (fun _ _ => rfl) ?_ (Nat.le_refl _) h20 hn ha1 ha9 ha0 hday (by omega) hof hp7 hpp (fun z => ?_) (fun z => ?_) (fun z => ?_) (fun z => by omega) (fun z => k5 (by omega)) (fun z => k4 (by omega))
    · rw [lay9_oth ⟨by decide, by decide, by decide, by omega⟩]; exact hD.2.2.2.1
    · have hz : K = 5 := by omega
      exact pt_q h20 (c1.2.2 (by rw [hz]; rfl))
    · rw [es]
      refine nI_ne (b := 0) (by omega) (by omega) (fun w => hlk ?_)
      unfold lk9
      omega
    · have hz : K = 4 := by omega
      rw [← hla, if_pos hz]
      exact okLab_l (c2.2 (by rw [hz]; rfl))
  have C118 : ∀ σ1 : SG, (∀ x y, ¬ (x = 3 ∧ y = n) → σ1 x y = σ x y) → (K = 5 → σ1 3 n 5 = p3) → (K = 4 → σ1 3 n 6 = la) → ∀ (post : Int32 → SG → NU → Prop) (px : String → Prop), (∀ σ' ν', SIM σ' ν' (lay9 n a γ (nI K) p2 p3 la) (n + 1) np → post (nI n) σ' ν') → jX6_instruct_118 (nI K) p2 p3 p4 post px σ1 ν := by
    intro σ1 hσ k5 k4 post px k
    unfold jX6_instruct_118
    have hL' : LI9 σ1 ν n := b3.same (by rw [hσ 7 0 (fun z => by omega)]) rfl rfl rfl
    refine c_add hn b1 b2 hL' b4 (fun σ' ν' hAd => s_buildS (Sv σ1 hσ k5 k4 σ' ν' hAd) (fun σ2 ν2 hs _ _ => ?_))
    refine s_size0 hs.1.2.2.1.2.2.1 ?_
    rw [li1, pk_sub (by omega), Nat.add_sub_cancel]
    exact k σ2 ν2 hs
  have C100 : ∀ σ1 : SG, (∀ x y, ¬ (x = 3 ∧ y = n) → σ1 x y = σ x y) → (K = 5 → σ1 3 n 5 = p3) → ∀ (post : Int32 → SG → NU → Prop) (px : String → Prop), (∀ σ' ν', SIM σ' ν' (lay9 n a γ (nI K) p2 p3 la) (n + 1) np → post (nI n) σ' ν') → jX6_instruct_100 (nI K) p2 p3 p4 post px σ1 ν := by
    intro σ1 hσ k5 post px k
    unfold jX6_instruct_100
    rw [tK, b2]
    by_cases c : K = 4
    · rw [if_pos (by omega)]
      unfold wpX6_joinLabel
      refine ⟨by omega, fun t24 e24 => C118 t24 (fun x y z => by rw [e24, u3_oth z]; exact hσ x y z) (fun z => by omega) (fun _ => ?_) post px k⟩
      rw [e24, u3_at, if_pos rfl, ← hla, if_pos c]
    · rw [if_neg (by omega)]
      exact C118 σ1 hσ k5 (fun z => absurd z c) post px k
  refine C0 post px (fun z => absurd c1 z) (fun _ => C30 post px (fun z => absurd c2 z) (fun _ => C62 post px (fun z => absurd c3 z) (fun _ => ⟨fun q => ?_, fun q => ?_⟩)))
  · exact C100 _ (fun x y z => u3_oth z) (fun _ => by rw [u3_at, if_pos rfl]) _ _ (fun σ' ν' hs => k4 la σ' ν' hs)
  · exact C100 _ (fun _ _ _ => rfl) (fun z => absurd (by rw [z]; rfl) q) _ _ (fun σ' ν' hs => k4 la σ' ν' hs)
set_option maxRecDepth 100000 in
set_option maxHeartbeats 2000000 in
theorem y_order {σ : SG} {ν : NU} {γ : RH} {n np : Nat} (h : SIM σ ν γ n np) {p d : Int32} {post : SG → NU → Prop} {px : String → Prop} (k1 : ¬ (0 ≤ p.toInt ∧ p.toInt < n) → px IOB) (k2 : ¬ (okd d) → (0 ≤ p.toInt ∧ p.toInt < n) → px IAE) (k3 : ∀ k : Nat, k < n → p = nI k → okd d → ¬ (γ 22 k = 1 ∧ γ 26 k = -1) → px ISE) (k4 : ∀ k : Nat, k < n → p = nI k → okd d → (γ 22 k = 1 ∧ γ 26 k = -1) → ∀ σ1 ν1, SIM σ1 ν1 (u2 (u2 γ 26 k (γ 0 0)) 27 k d) n np → post σ1 ν1) : wpX6_order σ ν p d post px := by
  obtain ⟨⟨hD, hC, ⟨b1, b2, b3, b4, b5, b6⟩, h7, hA, hX, h5⟩, hV⟩ := id h
  have h40 := hD.1
  have t1 : (1 : Int32).toInt = 1 := by decide
  by_cases c1 : ¬ (0 ≤ p.toInt ∧ p.toInt < n)
  · exact c_needI b3 hC.1 h40 k1 (fun k hk e => absurd ⟨by rw [e, ti_n (by omega)]; omega, by rw [e, ti_n (by omega)]; omega⟩ c1)
  have c1 := Decidable.byContradiction c1
  obtain ⟨k, hk, rfl⟩ := in_nI c1.1 c1.2
  have hck : (nI k).toNatClampNeg = k := cl_n (by omega)
  have hci := hC.2 k hk
  have un : ∀ k', nI k = nI k' → k' < n → k' = k := fun k' e hkn => (nI_inj (by omega) (by omega) e).symm
  by_cases c2 : ¬ okd d
  · exact c_needI b3 hC.1 h40 (fun z => absurd c1 z) (fun k' hk' e => c_needDay (fun _ => k2 c2 c1) (fun z => absurd z c2))
  have c2 := Classical.byContradiction c2
  have C3 : ∀ (post : SG → NU → Prop) (px : String → Prop), (¬ (γ 22 k = 1 ∧ γ 26 k = -1) → px ISE) → (γ 22 k = 1 ∧ γ 26 k = -1 → wpX5_build (u3 (u3 (u3 σ 6 (3 * k) 0 (γ 0 0)) 6 (3 * k) 1 d) 6 (3 * k) 2 d) ν 0 0 (fun t8 vv9 => post t8 vv9)) → wpX6_order σ ν (nI k) d post px := by
    intro post px k1 k2
    refine c_needI b3 hC.1 h40 (fun z => absurd c1 z) (fun k' hk' e => c_needDay (fun z => absurd c2 z) (fun _ => ?_))
    rw [un k' e hk']
    obtain ⟨-, -, -, -, -, -, -, -, -, q9, q10, -, -, -, q14, -⟩ := hci
    refine ⟨by omega, q9, ?_⟩
    rw [q10]
    by_cases q : γ 22 k = 1
    · rw [if_pos (by rw [q]; exact t1)]
      refine s_isGiven (by omega) ?_
      rw [q14]
      by_cases q2 : γ 26 k = -1
      · rw [bI_f (fun z => z q2), if_pos z0I]
        refine c_give (by omega) ?_
        rw [hA.1]
        exact k2 ⟨q, q2⟩
      · rw [bI_t q2, if_neg z1I]
        exact k1 (fun z => q2 z.2)
    · rw [if_neg (fun z => q (ti_eq.mp (z.trans t1.symm)))]
      exact k1 (fun z => q z.1)
  by_cases c3 : ¬ (γ 22 k = 1 ∧ γ 26 k = -1)
  · exact C3 post px (k3 k hk rfl c2) (fun z => absurd z c3)
  have c3 := Decidable.byContradiction c3
  have k4 := k4 k hk rfl c2 c3
  refine C3 post px (fun z => absurd c3 z) (fun _ => ?_)
  generalize hγ : u2 (u2 γ 26 k (γ 0 0)) 27 k d = γ1 at k4
  have r26 : ∀ i, γ1 26 i = if i = k then γ 0 0 else γ 26 i := fun i => by rw [← hγ, u2_oth (by decide), u2_at]
  have r27 : ∀ i, γ1 27 i = if i = k then d else γ 27 i := fun i => by rw [← hγ, u2_at, u2_oth (by decide)]
  have ro : ∀ j, j ≠ 26 → j ≠ 27 → γ1 j = γ j := fun j q r => by rw [← hγ, u2_oth r, u2_oth q]
  refine s_buildS (h.1.note (fun a b z => by rw [u3_oth (fun w => z w.1), u3_oth (fun w => z w.1), u3_oth (fun w => z w.1)]) (fun b hb => by rw [u3_oth (fun w => by omega), u3_oth (fun w => by omega), u3_oth (fun w => by omega)]) (fun j hj => ro j (by omega) (by omega)) (fun i hi hz => ?_) (fun i hi => ?_)) (fun σ1 ν1 hs _ _ => k4 σ1 ν1 hs)
  · rw [r27]
    by_cases q : i = k
    · rw [if_pos q]; exact c2
    · rw [if_neg q]
      rw [r26, if_neg q] at hz
      obtain ⟨-, -, -, -, -, -, -, -, -, -, -, -, -, i14, -⟩ := hD.2.2.2.2.1 i hi
      exact i14 hz
  · obtain ⟨q1, q2, q3, q4, q5, q6⟩ := (hC.2 i hi).ntc
    unfold NTC
    rw [r26, r27, ro 28 (by decide) (by decide), ro 29 (by decide) (by decide), ro 30 (by decide) (by decide), ro 31 (by decide) (by decide), ro 32 (by decide) (by decide)]
    simp only [give_at]
    by_cases q : i = k
    · subst q
      simp [show ¬ 3 * i + 1 = 3 * i by omega, show ¬ 3 * i + 2 = 3 * i by omega]
      exact ⟨q3, q4, q5, q6⟩
    · simp [q, show ¬ 3 * i = 3 * k by omega, show ¬ 3 * i + 1 = 3 * k by omega, show ¬ 3 * i + 2 = 3 * k by omega]
      exact ⟨q1, q2, q3, q4, q5, q6⟩
set_option maxRecDepth 100000 in
set_option maxHeartbeats 2000000 in
theorem y_strike {σ : SG} {ν : NU} {γ : RH} {n np : Nat} (h : SIM σ ν γ n np) {p d : Int32} {post : SG → NU → Prop} {px : String → Prop} (k1 : ¬ (0 ≤ p.toInt ∧ p.toInt < n) → px IOB) (k2 : ¬ (okd d) → (0 ≤ p.toInt ∧ p.toInt < n) → px IAE) (k3 : ∀ k : Nat, k < n → p = nI k → okd d → ¬ (γ 28 k = -1) → px ISE) (k4 : ∀ k : Nat, k < n → p = nI k → okd d → (γ 28 k = -1) → ∀ σ1 ν1, SIM σ1 ν1 (u2 (u2 γ 28 k (γ 0 0)) 29 k d) n np → post σ1 ν1) : wpX6_strike σ ν p d post px := by
  obtain ⟨⟨hD, hC, ⟨b1, b2, b3, b4, b5, b6⟩, h7, hA, hX, h5⟩, hV⟩ := id h
  have h40 := hD.1
  have t1 : (1 : Int32).toInt = 1 := by decide
  by_cases c1 : ¬ (0 ≤ p.toInt ∧ p.toInt < n)
  · exact c_needI b3 hC.1 h40 k1 (fun k hk e => absurd ⟨by rw [e, ti_n (by omega)]; omega, by rw [e, ti_n (by omega)]; omega⟩ c1)
  have c1 := Decidable.byContradiction c1
  obtain ⟨k, hk, rfl⟩ := in_nI c1.1 c1.2
  have hck : (nI k).toNatClampNeg = k := cl_n (by omega)
  have hci := hC.2 k hk
  have un : ∀ k', nI k = nI k' → k' < n → k' = k := fun k' e hkn => (nI_inj (by omega) (by omega) e).symm
  by_cases c2 : ¬ okd d
  · exact c_needI b3 hC.1 h40 (fun z => absurd c1 z) (fun k' hk' e => c_needDay (fun _ => k2 c2 c1) (fun z => absurd z c2))
  have c2 := Classical.byContradiction c2
  have C3 : ∀ (post : SG → NU → Prop) (px : String → Prop), (¬ γ 28 k = -1 → px ISE) → (γ 28 k = -1 → wpX5_build (u3 (u3 (u3 σ 6 (3 * k + 1) 0 (γ 0 0)) 6 (3 * k + 1) 1 d) 6 (3 * k + 1) 2 5000) ν 0 0 (fun t8 vv9 => post t8 vv9)) → wpX6_strike σ ν (nI k) d post px := by
    intro post px k1 k2
    refine c_needI b3 hC.1 h40 (fun z => absurd c1 z) (fun k' hk' e => c_needDay (fun z => absurd c2 z) (fun _ => ?_))
    rw [un k' e hk']
    obtain ⟨-, -, q14, -⟩ := hci.ntc
    refine ⟨by omega, s_isGiven (by omega) ?_⟩
    rw [q14]
    by_cases q2 : γ 28 k = -1
    · rw [bI_f (fun z => z q2), if_pos z0I]
      refine c_give (by omega) ?_
      rw [hA.1]
      exact k2 q2
    · rw [bI_t q2, if_neg z1I]
      exact k1 q2
  by_cases c3 : ¬ (γ 28 k = -1)
  · exact C3 post px (k3 k hk rfl c2) (fun z => absurd z c3)
  have c3 := Decidable.byContradiction c3
  have k4 := k4 k hk rfl c2 c3
  refine C3 post px (fun z => absurd c3 z) (fun _ => ?_)
  generalize hγ : u2 (u2 γ 28 k (γ 0 0)) 29 k d = γ1 at k4
  have r28 : ∀ i, γ1 28 i = if i = k then γ 0 0 else γ 28 i := fun i => by rw [← hγ, u2_oth (by decide), u2_at]
  have r29 : ∀ i, γ1 29 i = if i = k then d else γ 29 i := fun i => by rw [← hγ, u2_at, u2_oth (by decide)]
  have ro : ∀ j, j ≠ 28 → j ≠ 29 → γ1 j = γ j := fun j q r => by rw [← hγ, u2_oth r, u2_oth q]
  refine s_buildS (h.1.note (fun a b z => by rw [u3_oth (fun w => z w.1), u3_oth (fun w => z w.1), u3_oth (fun w => z w.1)]) (fun b hb => by rw [u3_oth (fun w => by omega), u3_oth (fun w => by omega), u3_oth (fun w => by omega)]) (fun j hj => ro j (by omega) (by omega)) (fun i hi hz => ?_) (fun i hi => ?_)) (fun σ1 ν1 hs _ _ => k4 σ1 ν1 hs)
  · rw [ro 27 (by decide) (by decide)]
    rw [ro 26 (by decide) (by decide)] at hz
    obtain ⟨-, -, -, -, -, -, -, -, -, -, -, -, -, i14, -⟩ := hD.2.2.2.2.1 i hi
    exact i14 hz
  · obtain ⟨q1, q2, q3, q4, q5, q6⟩ := (hC.2 i hi).ntc
    unfold NTC
    rw [r28, r29, ro 26 (by decide) (by decide), ro 27 (by decide) (by decide), ro 30 (by decide) (by decide), ro 31 (by decide) (by decide), ro 32 (by decide) (by decide)]
    simp only [give_at]
    by_cases q : i = k
    · subst q
      simp [show ¬ 3 * i = 3 * i + 1 by omega]
      exact ⟨q1, q2, q5, q6⟩
    · simp [q, show ¬ 3 * i = 3 * k by omega, show ¬ 3 * i = 3 * k + 1 by omega, show ¬ 3 * i + 1 = 3 * k + 1 by omega, show ¬ 3 * i + 2 = 3 * k + 1 by omega]
      exact ⟨q1, q2, q3, q4, q5, q6⟩
set_option maxRecDepth 100000 in
set_option maxHeartbeats 2000000 in
theorem y_suspend {σ : SG} {ν : NU} {γ : RH} {n np : Nat} (h : SIM σ ν γ n np) {p d f : Int32} {post : SG → NU → Prop} {px : String → Prop} (k1 : ¬ (0 ≤ p.toInt ∧ p.toInt < n) → px IOB) (k2 : ¬ (okd d ∧ d.toInt ≤ f.toInt ∧ f.toInt ≤ 5000) → (0 ≤ p.toInt ∧ p.toInt < n) → px IAE) (k3 : ∀ k : Nat, k < n → p = nI k → okd d ∧ d.toInt ≤ f.toInt ∧ f.toInt ≤ 5000 → ¬ (γ 30 k = -1) → px ISE) (k4 : ∀ k : Nat, k < n → p = nI k → okd d ∧ d.toInt ≤ f.toInt ∧ f.toInt ≤ 5000 → (γ 30 k = -1) → ∀ σ1 ν1, SIM σ1 ν1 (u2 (u2 (u2 γ 30 k (γ 0 0)) 31 k d) 32 k f) n np → post σ1 ν1) : wpX6_suspend σ ν p d f post px := by
  obtain ⟨⟨hD, hC, ⟨b1, b2, b3, b4, b5, b6⟩, h7, hA, hX, h5⟩, hV⟩ := id h
  have h40 := hD.1
  have t1 : (1 : Int32).toInt = 1 := by decide
  by_cases c1 : ¬ (0 ≤ p.toInt ∧ p.toInt < n)
  · exact c_needI b3 hC.1 h40 k1 (fun k hk e => absurd ⟨by rw [e, ti_n (by omega)]; omega, by rw [e, ti_n (by omega)]; omega⟩ c1)
  have c1 := Decidable.byContradiction c1
  obtain ⟨k, hk, rfl⟩ := in_nI c1.1 c1.2
  have hck : (nI k).toNatClampNeg = k := cl_n (by omega)
  have hci := hC.2 k hk
  have un : ∀ k', nI k = nI k' → k' < n → k' = k := fun k' e hkn => (nI_inj (by omega) (by omega) e).symm
  let okD : Prop := okd d ∧ d.toInt ≤ f.toInt ∧ f.toInt ≤ 5000
  have CD : ∀ (post : SG → NU → Prop) (px : String → Prop), (¬ okD → px IAE) → (okD → (k < ν 99 0 0 ∧ wpX1_isGiven σ ν (3 * k + 2) (fun r4 => if r4.toInt = 0 then wpX1_give σ ν (3 * k + 2) (σ 0 0 4) d f (fun t6 => wpX5_build t6 ν 0 0 (fun t7 vv8 => post t7 vv8)) else px ISE))) → wpX6_suspend σ ν (nI k) d f post px := by
    intro post px k1 k2
    refine c_needI b3 hC.1 h40 (fun z => absurd c1 z) (fun k' hk' e => c_needDay (fun z => k1 (fun y => z y.1)) (fun c2 => c_needDay (fun z => k1 (fun y => z ⟨by have := y.1.1; have := y.2.1; omega, y.2.2⟩)) (fun c3 => ?_)))
    by_cases c4 : f.toInt < d.toInt
    · rw [if_pos c4]; exact k1 (fun y => by have := y.2.1; omega)
    · rw [if_neg c4, un k' e hk']
      exact k2 ⟨c2, by omega, c3.2⟩
  by_cases c2 : ¬ okD
  · exact CD post px (fun _ => k2 c2 c1) (fun z => absurd z c2)
  have c2 := Classical.byContradiction c2
  have C3 : ∀ (post : SG → NU → Prop) (px : String → Prop), (¬ γ 30 k = -1 → px ISE) → (γ 30 k = -1 → wpX5_build (u3 (u3 (u3 σ 6 (3 * k + 2) 0 (γ 0 0)) 6 (3 * k + 2) 1 d) 6 (3 * k + 2) 2 f) ν 0 0 (fun t8 vv9 => post t8 vv9)) → wpX6_suspend σ ν (nI k) d f post px := by
    intro post px k1 k2
    refine CD post px (fun z => absurd c2 z) (fun _ => ⟨by omega, s_isGiven (by omega) ?_⟩)
    obtain ⟨-, -, -, -, q14, -⟩ := hci.ntc
    rw [q14]
    by_cases q2 : γ 30 k = -1
    · rw [bI_f (fun z => z q2), if_pos z0I]
      refine c_give (by omega) ?_
      rw [hA.1]
      exact k2 q2
    · rw [bI_t q2, if_neg z1I]
      exact k1 q2
  by_cases c3 : ¬ (γ 30 k = -1)
  · exact C3 post px (k3 k hk rfl c2) (fun z => absurd z c3)
  have c3 := Decidable.byContradiction c3
  have k4 := k4 k hk rfl c2 c3
  refine C3 post px (fun z => absurd c3 z) (fun _ => ?_)
  generalize hγ : u2 (u2 (u2 γ 30 k (γ 0 0)) 31 k d) 32 k f = γ1 at k4
  have r30 : ∀ i, γ1 30 i = if i = k then γ 0 0 else γ 30 i := fun i => by rw [← hγ, u2_oth (by decide), u2_oth (by decide), u2_at]
  have r31 : ∀ i, γ1 31 i = if i = k then d else γ 31 i := fun i => by rw [← hγ, u2_oth (by decide), u2_at, u2_oth (by decide)]
  have r32 : ∀ i, γ1 32 i = if i = k then f else γ 32 i := fun i => by rw [← hγ, u2_at, u2_oth (by decide), u2_oth (by decide)]
  have ro : ∀ j, j < 30 ∨ 32 < j → γ1 j = γ j := fun j q => by rw [← hγ, u2_oth (by omega), u2_oth (by omega), u2_oth (by omega)]
  refine s_buildS (h.1.note (fun a b z => by rw [u3_oth (fun w => z w.1), u3_oth (fun w => z w.1), u3_oth (fun w => z w.1)]) (fun b hb => by rw [u3_oth (fun w => by omega), u3_oth (fun w => by omega), u3_oth (fun w => by omega)]) (fun j hj => ro j (by omega)) (fun i hi hz => ?_) (fun i hi => ?_)) (fun σ1 ν1 hs _ _ => k4 σ1 ν1 hs)
  · rw [ro 27 (by omega)]
    rw [ro 26 (by omega)] at hz
    obtain ⟨-, -, -, -, -, -, -, -, -, -, -, -, -, i14, -⟩ := hD.2.2.2.2.1 i hi
    exact i14 hz
  · obtain ⟨q1, q2, q3, q4, q5, q6⟩ := (hC.2 i hi).ntc
    unfold NTC
    rw [r30, r31, r32, ro 26 (by omega), ro 27 (by omega), ro 28 (by omega), ro 29 (by omega)]
    simp only [give_at]
    by_cases q : i = k
    · subst q
      simp [show ¬ 3 * i = 3 * i + 2 by omega, show ¬ 3 * i + 1 = 3 * i + 2 by omega]
      exact ⟨q1, q2, q3, q4⟩
    · simp [q, show ¬ 3 * i = 3 * k by omega, show ¬ 3 * i = 3 * k + 1 by omega, show ¬ 3 * i = 3 * k + 2 by omega, show ¬ 3 * i + 1 = 3 * k + 2 by omega, show ¬ 3 * i + 2 = 3 * k + 2 by omega]
      exact ⟨q1, q2, q3, q4, q5, q6⟩
