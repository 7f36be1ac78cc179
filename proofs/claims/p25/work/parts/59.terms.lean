/-! terms and word. -/
theorem PH_wds {σ : SG} {ph m : Nat} {g : Nat → Int32} (hm : m ≤ 4) (h1 : σ 4 ph 1 = nI m) (h2 : ∀ k, k < m → σ 22 ph k = g k) : PH σ ph (wds (nI m) g) := by
  have e : (wds (nI m) g).length = m := by rw [wds_len, cl_n (by omega)]
  refine ⟨by rw [e]; exact hm, by rw [e]; exact h1, fun k hk => ?_⟩
  rw [wds_get hk]
  exact h2 k (by omega)
theorem PH_of {σ : SG} {ph m : Nat} {g : Nat → Int32} (hm : m ≤ 4) (h : PH σ ph (wds (nI m) g)) : σ 4 ph 1 = nI m ∧ ∀ k, k < m → σ 22 ph k = g k := by
  have e : (wds (nI m) g).length = m := by rw [wds_len, cl_n (by omega)]
  refine ⟨by have := h.2.1; rw [e] at this; exact this, fun k hk => ?_⟩
  have := h.2.2 k (by omega)
  rw [wds_get] at this
  exact this
theorem ti_2' : (2 : Int32).toInt = 2 := by decide
/-- a told way, day, territories, end -/
def okT (n : Nat) (p1 p2 p3 p4 : Int32) : Prop := (0 ≤ p1.toInt ∧ p1.toInt ≤ 2) ∧ (p1 = 0 → okd p2) ∧ (1 ≤ p3.toInt ∧ p3.toInt ≤ 7) ∧ (p4 = -1 ∨ okd p4)
set_option maxRecDepth 100000 in
set_option maxHeartbeats 1000000 in
theorem z_terms {σ : SG} {ν : NU} {ρ : RH} {n np : Nat} (h : SIM σ ν ρ n np) (p1 p2 p3 p4 : Int32) : ZV [IOB, IAE] (fun post px => wpX6_terms σ ν p1 p2 p3 p4 post (fun E => px E σ ν)) (wpX7_terms ρ p1 p2 p3 p4) := by
  obtain ⟨⟨hD, hC, ⟨b1, b2, b3, b4, b5, b6⟩, h7, hA, hX, h5⟩, hV⟩ := id h
  have h40 := hD.1
  have t1 : (1 : Int32).toInt = 1 := by decide
  have t7 : (7 : Int32).toInt = 7 := by decide
  have stay : ∀ σ' ν' ρ', SIM σ' ν' ρ n np → lgd ρ ρ' → ∃ n' np', SIM σ' ν' ρ' n' np' := fun σ' ν' ρ' a b => ⟨n, np, a.lo b⟩
  -- what the reference does
  have R79 : ∀ (c : Int32) (post : RH → Prop), (c ≠ 0 → ∀ t, lgd ρ t → t 48 0 = c → post t) → (c = 0 → ∀ t, (∀ j, j ≠ 48 → t j = u2 (u2 (u2 (u2 ρ 3 0 p1) 4 0 p2) 5 0 p3) 6 0 p4 j) → t 48 0 = 0 → post t) → jX7_terms_79 p1 p2 p3 p4 post ρ 0 c := by
    intro c post k1 k2
    unfold jX7_terms_79
    refine s_goes (fun t et => ?_)
    by_cases q : c = 0
    · rw [bI_t q, if_neg z1I]
      intro t8 e8 t10 e10 t12 e12 t14 e14
      refine k2 q t14 (fun j hj => ?_) (by rw [e14, u2_oth (by decide), e12, u2_oth (by decide), e10, u2_oth (by decide), e8, u2_oth (by decide), et, u2_at, if_pos rfl]; exact q)
      rw [e14, e12, e10, e8, et]
      by_cases q6 : j = 6
      · subst q6; funext k; rw [u2_at, u2_at]; simp only [u2_oth (show (6 : Nat) ≠ 5 by decide), u2_oth (show (6 : Nat) ≠ 4 by decide), u2_oth (show (6 : Nat) ≠ 3 by decide), u2_oth (show (6 : Nat) ≠ 48 by decide)]
      rw [u2_oth q6, u2_oth q6]
      by_cases q5 : j = 5
      · subst q5; funext k; rw [u2_at, u2_at]; simp only [u2_oth (show (5 : Nat) ≠ 4 by decide), u2_oth (show (5 : Nat) ≠ 3 by decide), u2_oth (show (5 : Nat) ≠ 48 by decide)]
      rw [u2_oth q5, u2_oth q5]
      by_cases q4 : j = 4
      · subst q4; funext k; rw [u2_at, u2_at]; simp only [u2_oth (show (4 : Nat) ≠ 3 by decide), u2_oth (show (4 : Nat) ≠ 48 by decide)]
      rw [u2_oth q4, u2_oth q4]
      by_cases q3 : j = 3
      · subst q3; funext k; rw [u2_at, u2_at]; simp only [u2_oth (show (3 : Nat) ≠ 48 by decide)]
      rw [u2_oth q3, u2_oth q3, u2_oth hj]
    · rw [bI_f q, if_pos z0I]
      subst et
      exact k1 q _ lgd_48 (by rw [u2_at, if_pos rfl])
  have R69 : ∀ (b : Bool) (post : RH → Prop), (b = true → jX7_terms_79 p1 p2 p3 p4 post ρ 0 0) → (b = false → jX7_terms_79 p1 p2 p3 p4 post ρ 0 2) → jX7_terms_69 p1 p2 p3 p4 post ρ (bI (b = true)) 0 := by
    intro b post k1 k2
    unfold jX7_terms_69
    cases b with
    | true => rw [show bI (true = true) = 1 from bI_t rfl, if_neg z1I]; exact k1 rfl
    | false => rw [show bI (false = true) = 0 from bI_f (by decide), if_pos z0I]; exact k2 rfl
  have R49 : ∀ (b : Bool) (post : RH → Prop), (p1 = 2 → ¬ (0 ≤ p2.toInt ∧ p2.toInt < n) → jX7_terms_79 p1 p2 p3 p4 post ρ 0 1) → ((p1 = 2 → 0 ≤ p2.toInt ∧ p2.toInt < n) → jX7_terms_69 p1 p2 p3 p4 post ρ (bI (b = true)) 0) → jX7_terms_49 p1 p2 p3 p4 post ρ (bI (b = true)) := by
    intro b post k1 k2
    unfold jX7_terms_49
    by_cases q : p1 = 2
    · rw [if_pos (by rw [q]; exact ti_2')]
      refine s_isInstructionR hD.2.2.1 h40 ?_
      by_cases q2 : 0 ≤ p2.toInt ∧ p2.toInt < n
      · rw [bI_t q2, if_neg z1I]; exact k2 (fun _ => q2)
      · rw [bI_f q2, if_pos z0I]; exact k1 q q2
    · rw [if_neg (fun z => q (ti_eq.mp (z.trans ti_2'.symm)))]
      exact k2 (fun z => absurd z q)
  have R0 : ∀ (post : RH → Prop), (∀ b : Bool, (b = true ↔ okT n p1 p2 p3 p4) → jX7_terms_49 p1 p2 p3 p4 post ρ (bI (b = true))) → wpX7_terms ρ p1 p2 p3 p4 post := by
    intro post k
    have no : ¬ okT n p1 p2 p3 p4 → jX7_terms_49 p1 p2 p3 p4 post ρ 0 := fun z => k false ⟨fun q => (by cases q), fun q => absurd q z⟩
    have r20 : (0 ≤ p1.toInt ∧ p1.toInt ≤ 2) → (p1 = 0 → okd p2) → jX7_terms_20 p1 p2 p3 p4 post ρ := by
      intro a1 a2
      unfold jX7_terms_20
      refine s_isIn ?_
      rw [t1, t7]
      by_cases q3 : 1 ≤ p3.toInt ∧ p3.toInt ≤ 7
      · rw [bI_t q3, if_neg z1I]
        by_cases q4 : p4 = -1
        · rw [if_pos (by rw [q4]; exact ti_m1)]
          exact k true ⟨fun _ => ⟨a1, a2, q3, Or.inl q4⟩, fun _ => rfl⟩
        · rw [if_neg (fun z => q4 (ti_eq.mp (z.trans ti_m1.symm)))]
          refine s_isDayR ?_
          by_cases q5 : 0 ≤ p4.toInt ∧ p4.toInt ≤ 5000
          · rw [bI_t q5, if_neg z1I]
            exact k true ⟨fun _ => ⟨a1, a2, q3, Or.inr q5⟩, fun _ => rfl⟩
          · rw [bI_f q5, if_pos z0I]
            exact no (fun z => z.2.2.2.elim q4 q5)
      · rw [bI_f q3, if_pos z0I]
        exact no (fun z => q3 z.2.2.1)
    unfold wpX7_terms
    refine s_isIn ?_
    rw [z0I, ti_2']
    by_cases q1 : 0 ≤ p1.toInt ∧ p1.toInt ≤ 2
    · rw [bI_t q1, if_neg z1I]
      by_cases q0 : p1 = 0
      · rw [if_pos (by rw [q0]; exact z0I)]
        refine s_isDayR ?_
        by_cases q2 : 0 ≤ p2.toInt ∧ p2.toInt ≤ 5000
        · rw [bI_t q2, if_neg z1I]; exact r20 q1 (fun _ => q2)
        · rw [bI_f q2, if_pos z0I]; exact no (fun z => q2 (z.2.1 q0))
      · rw [if_neg (fun z => q0 (ti_eq.mp (z.trans z0I.symm)))]
        exact r20 q1 (fun z => absurd z q0)
    · rw [bI_f q1, if_pos z0I]
      exact no (fun z => q1 z.1)
  -- what the class does
  have C11 : ∀ (post : SG → NU → Prop) (px : String → Prop), (¬ okT n p1 p2 p3 p4 → px IAE) → (okT n p1 p2 p3 p4 → ∀ s m, s = r3 σ 5 (ν 99 0 1) (tm4 p1 p2 p3 p4) → m = nuT ν (ν 0 0 3) → post s m) → jX6_terms_11 p1 p2 p3 p4 post px σ ν := by
    intro post px k1 k2
    have c38 : (0 ≤ p1.toInt ∧ p1.toInt ≤ 2) → (p1 = 0 → okd p2) → jX6_terms_38 p1 p2 p3 p4 post px σ ν := by
      intro a1 a2
      unfold jX6_terms_38
      by_cases q3 : p3.toInt < 1
      · rw [if_pos q3]; exact k1 (fun z => by have := z.2.2.1.1; omega)
      rw [if_neg q3]
      by_cases q4 : ¬ p3.toInt ≤ 7
      · rw [if_neg q4]; exact k1 (fun z => q4 z.2.2.1.2)
      have q4 := Decidable.byContradiction q4
      rw [if_pos q4]
      by_cases q5 : p4 = -1
      · rw [if_pos (by rw [q5]; exact ti_m1)]
        exact ⟨b4, by omega, fun s es m em => k2 ⟨a1, a2, ⟨by omega, q4⟩, Or.inl q5⟩ s m es em⟩
      · rw [if_neg (fun z => q5 (ti_eq.mp (z.trans ti_m1.symm)))]
        refine c_needDay (fun z => k1 (fun y => y.2.2.2.elim q5 z)) (fun z => ⟨b4, by omega, fun s es m em => k2 ⟨a1, a2, ⟨by omega, q4⟩, Or.inr z⟩ s m es em⟩)
    unfold jX6_terms_11
    by_cases q1 : p1.toInt < 0
    · rw [if_pos q1]; exact k1 (fun z => by have := z.1.1; omega)
    rw [if_neg q1]
    by_cases q2 : ¬ p1.toInt ≤ 2
    · rw [if_neg q2]; exact k1 (fun z => q2 z.1.2)
    have q2 := Decidable.byContradiction q2
    rw [if_pos q2]
    by_cases q0 : p1 = 0
    · rw [if_pos (by rw [q0]; exact z0I)]
      exact c_needDay (fun z => k1 (fun y => z (y.2.1 q0))) (fun z => c38 ⟨by omega, q2⟩ (fun _ => z))
    · rw [if_neg (fun z => q0 (ti_eq.mp (z.trans z0I.symm)))]
      exact c38 ⟨by omega, q2⟩ (fun z => absurd z q0)
  have C0 : ∀ (post : SG → NU → Prop) (px : String → Prop), (p1 = 2 → ¬ (0 ≤ p2.toInt ∧ p2.toInt < n) → px IOB) → ((p1 = 2 → 0 ≤ p2.toInt ∧ p2.toInt < n) → jX6_terms_11 p1 p2 p3 p4 post px σ ν) → wpX6_terms σ ν p1 p2 p3 p4 post px := by
    intro post px k1 k2
    unfold wpX6_terms
    by_cases q : p1 = 2
    · rw [if_pos (by rw [q]; exact ti_2')]
      exact c_needI b3 hC.1 h40 (fun z => k1 q z) (fun k hk e => k2 (fun _ => ⟨by rw [e, ti_n (by omega)]; omega, by rw [e, ti_n (by omega)]; omega⟩))
    · rw [if_neg (fun z => q (ti_eq.mp (z.trans ti_2'.symm)))]
      exact k2 (fun z => absurd z q)
  by_cases c1 : ¬ (p1 = 2 → 0 ≤ p2.toInt ∧ p2.toInt < n)
  · refine ⟨1, fun s m => SIM s m ρ n np, fun ρ' => lgd ρ ρ', C0 _ _ (fun _ _ => ⟨xk9_0, h⟩) (fun z => absurd z c1), R0 _ (fun b _ => R49 b _ (fun _ _ => R79 1 _ (fun _ t g e => ⟨e, g⟩) (fun z => absurd z i1n0)) (fun z => absurd z c1)), stay⟩
  have c1 := Classical.byContradiction c1
  by_cases c2 : ¬ okT n p1 p2 p3 p4
  · refine ⟨2, fun s m => SIM s m ρ n np, fun ρ' => lgd ρ ρ', C0 _ _ (fun q z => absurd (c1 q) z) (fun _ => C11 _ _ (fun _ => ⟨xk9_1, h⟩) (fun z => absurd z c2)), R0 _ (fun b hb => R49 b _ (fun q z => absurd (c1 q) z) (fun _ => R69 b _ (fun z => absurd (hb.mp z) c2) (fun _ => R79 2 _ (fun _ t g e => ⟨e, g⟩) (fun z => absurd z i2n0)))), stay⟩
  have c2 := Classical.byContradiction c2
  refine ⟨0, fun s m => s = r3 σ 5 (ν 99 0 1) (tm4 p1 p2 p3 p4) ∧ m = nuT ν (ν 0 0 3), fun ρ' => lgd (u2 (u2 (u2 (u2 ρ 3 0 p1) 4 0 p2) 5 0 p3) 6 0 p4) ρ', C0 _ _ (fun q z => absurd (c1 q) z) (fun _ => C11 _ _ (fun z => absurd c2 z) (fun _ s m es em => ⟨rfl, es, em⟩)), R0 _ (fun b hb => R49 b _ (fun q z => absurd (c1 q) z) (fun _ => R69 b _ (fun _ => R79 0 _ (fun z => absurd rfl z) (fun _ t g e => ⟨e, fun j hj => g j (by omega)⟩)) (fun z => by rw [hb.mpr c2] at z; cases z))), fun σ' ν' ρ' q b => ⟨n, np, SIM.lo b ?_⟩⟩
  obtain ⟨rfl, rfl⟩ := q
  rw [b2]
  generalize hN : ν 99 0 1 = N
  generalize hρ' : u2 (u2 (u2 (u2 ρ 3 0 p1) 4 0 p2) 5 0 p3) 6 0 p4 = ρ1
  have gr : ∀ j, j ≠ 3 → j ≠ 4 → j ≠ 5 → j ≠ 6 → ρ1 j = ρ j := fun j q3 q4 q5 q6 => by rw [← hρ', u2_oth q6, u2_oth q5, u2_oth q4, u2_oth q3]
  have m99 : ∀ c, nuT ν n 99 0 c = if c = 1 then N + 1 else ν 99 0 c := fun c => by
    simp only [nuT, u3, hN]
    by_cases q : c = 1
    · subst q; simp
    · simp [q]
  have m3 : ∀ i, nuT ν n 3 i 7 = if i = n then N else ν 3 i 7 := fun i => by
    simp only [nuT, u3, hN]
    by_cases q : i = n
    · subst q; simp
    · simp [q]
  have m3' : ∀ i, i ≠ n → nuT ν n 3 i = ν 3 i := fun i hi => by
    funext c
    simp only [nuT, u3]
    rw [if_neg (fun z => hi z.2.1), if_neg (fun z => by omega)]
  have mo : ∀ a, a ≠ 99 → a ≠ 3 → nuT ν n a = ν a := fun a q1 q2 => by
    funext b c
    simp only [nuT, u3]
    rw [if_neg (fun z => q2 z.1), if_neg (fun z => q1 z.1)]
  have hlt : ∀ i, i < n → ν 3 i 7 < N := fun i hi => by rw [← hN]; exact (hC.2 i hi).2.2.2.2.2.2.2.2.2.1
  have gσ : ∀ x y, ¬ (x = 5 ∧ y = N) → r3 σ 5 N (tm4 p1 p2 p3 p4) x y = σ x y := fun x y z => r3_oth z
  obtain ⟨w1, w2, w3, w4⟩ := id b4
  refine h.nx (N := N) (fun a b _ _ z _ => gσ a b z) hlt (fun i hi => m3' i (by omega)) (by rw [m99, if_neg (by decide)]) (by rw [m99, if_pos rfl, hN]; omega) (by rw [mo 0 (by decide) (by decide)]) (mo 7 (by decide) (by decide)) (mo 8 (by decide) (by decide)) (mo 13 (by decide) (by decide)) ⟨fun o i => ?_, fun o i => ?_, ?_, fun i hi => ?_⟩ (by rw [gσ 0 0 (fun z => by omega)]) ⟨fun j hj _ => gr j (by omega) (by omega) (by omega) (by omega), fun i _ => by rw [gr 2 (by decide) (by decide) (by decide) (by decide)]⟩ (gr 33 (by decide) (by decide) (by decide) (by decide)) (gr 34 (by decide) (by decide) (by decide) (by decide)) (gr 35 (by decide) (by decide) (by decide) (by decide)) ?_ ?_
  · rw [mo 8 (by decide) (by decide), m99, if_neg (by decide)]; exact w1 o i
  · rw [mo 13 (by decide) (by decide), m99, if_neg (by decide)]; exact w2 o i
  · rw [mo 0 (by decide) (by decide), m99, if_neg (by decide)]; exact w3
  · rw [m99, if_pos rfl, m3]
    rw [m99, if_neg (by decide)] at hi
    by_cases q : i = n
    · rw [if_pos q]; omega
    · rw [if_neg q]; have := w4 i hi; omega
  · unfold ADY at *
    rw [gσ 0 0 (fun z => by omega), gr 0 (by decide) (by decide) (by decide) (by decide), gr 1 (by decide) (by decide) (by decide) (by decide), gr 2 (by decide) (by decide) (by decide) (by decide), gr 14 (by decide) (by decide) (by decide) (by decide)]
    exact hA
  · have r3' : ρ1 3 0 = p1 := by rw [← hρ', u2_oth (by decide), u2_oth (by decide), u2_oth (by decide), u2_at, if_pos rfl]
    have r4' : ρ1 4 0 = p2 := by rw [← hρ', u2_oth (by decide), u2_oth (by decide), u2_at, if_pos rfl]
    have r5' : ρ1 5 0 = p3 := by rw [← hρ', u2_oth (by decide), u2_at, if_pos rfl]
    have r6' : ρ1 6 0 = p4 := by rw [← hρ', u2_at, if_pos rfl]
    obtain ⟨-, -, e3, e4, e5, e6, e7, e8⟩ := hX
    have ph : ∀ q s, PH σ q s → PH (r3 σ 5 N (tm4 p1 p2 p3 p4)) q s := fun q s hq => by
      unfold PH at *
      rw [gσ 4 q (fun z => by omega), gσ 22 q (fun z => by omega)]
      exact hq
    obtain ⟨k, hk, ek⟩ := in_nI (N := 3) c2.1.1 (by have := c2.1.2; omega)
    refine ⟨?_, ⟨⟨k, by omega, by rw [r3', ek]⟩, fun z => by rw [r3'] at z; rw [r4']; exact c2.2.1 z, fun z => ?_⟩, by rw [gr 7 (by decide) (by decide) (by decide) (by decide)]; exact e3, by rw [gr 7 (by decide) (by decide) (by decide) (by decide), gr 8 (by decide) (by decide) (by decide) (by decide)]; exact ph _ _ e4, by rw [gr 9 (by decide) (by decide) (by decide) (by decide)]; exact e5, by rw [gr 9 (by decide) (by decide) (by decide) (by decide), gr 10 (by decide) (by decide) (by decide) (by decide)]; exact ph _ _ e6, by rw [gr 10 (by decide) (by decide) (by decide) (by decide)]; exact e7, by rw [gσ 6 (3 * n) (fun z => by omega), gσ 6 (3 * n + 1) (fun z => by omega), gσ 6 (3 * n + 2) (fun z => by omega)]; exact e8⟩
    · rw [m3, if_pos rfl, r3', r4', r5', r6', r3_row]
      exact ⟨rfl, rfl, rfl, rfl⟩
    · rw [r3'] at z
      obtain ⟨w, hw, ew⟩ := in_nI (c1 z).1 (c1 z).2
      exact ⟨w, hw, by rw [r4']; exact ew⟩
