/-! instruct. -/
/-- words wanting, words too many -/
def lk9 (z : Int) (ms mf : Nat) : Prop := ((z = 2 ∨ z = 3) ∧ ms = 0) ∨ (z = 1 ∧ mf = 0)
def ex9 (z : Int) (ms mf : Nat) : Prop := (3 < z ∧ 0 < ms) ∨ (2 < z ∧ z ≠ 7 ∧ 0 < mf)
theorem c_hasWords {σ : SG} {ν : NU} {n K ms mf : Nat} {post : Int32 → Prop} (hn : n < ν 99 0 0) (h1 : 1 ≤ K) (h7 : K ≤ 7) (hs : σ 4 (2 * n) 1 = nI ms) (hf : σ 4 (2 * n + 1) 1 = nI mf) (hms : ms ≤ 4) (hmf : mf ≤ 4) (kn : (lk9 K ms mf ∨ ex9 K ms mf) → post 0) (ky : ¬ (lk9 K ms mf ∨ ex9 K ms mf) → post 1) : wpX0_hasWordsFor σ ν n (nI K) post := by
  unfold lk9 ex9 at kn ky
  unfold wpX0_hasWordsFor
  rw [ti_n (by omega), hs, hf, ti_n (by omega), ti_n (by omega)]
  rcases (show K = 1 ∨ K = 2 ∨ K = 3 ∨ K = 4 ∨ K = 5 ∨ K = 6 ∨ K = 7 by omega) with q | q | q | q | q | q | q <;> subst q
  · rw [if_pos (by omega)]
    refine ⟨hn, ?_⟩
    by_cases c : mf = 0
    · rw [if_pos (by omega)]; exact kn (by omega)
    · rw [if_neg (by omega)]; exact ky (by omega)
  · rw [if_neg (by omega), if_pos (by omega)]
    refine ⟨hn, ?_⟩
    by_cases c : ms = 0
    · rw [if_pos (by omega)]; exact kn (by omega)
    · rw [if_neg (by omega)]; exact ky (by omega)
  · rw [if_neg (by omega), if_neg (by omega), if_pos (by omega)]
    refine ⟨hn, ?_⟩
    by_cases c : ms = 0
    · rw [if_pos (by omega)]; exact kn (by omega)
    · rw [if_neg (by omega)]
      by_cases c2 : mf = 0
      · rw [if_pos (by omega)]; exact ky (by omega)
      · rw [if_neg (by omega)]; exact kn (by omega)
  · rw [if_neg (by omega), if_neg (by omega), if_neg (by omega), if_pos (by omega)]
    refine ⟨hn, ?_⟩
    by_cases c : ms = 0
    · rw [if_pos (by omega)]
      by_cases c2 : mf = 0
      · rw [if_pos (by omega)]; exact ky (by omega)
      · rw [if_neg (by omega)]; exact kn (by omega)
    · rw [if_neg (by omega)]; exact kn (by omega)
  · rw [if_neg (by omega), if_neg (by omega), if_neg (by omega), if_neg (by omega), if_pos (by omega)]
    refine ⟨hn, ?_⟩
    by_cases c : ms = 0
    · rw [if_pos (by omega)]
      by_cases c2 : mf = 0
      · rw [if_pos (by omega)]; exact ky (by omega)
      · rw [if_neg (by omega)]; exact kn (by omega)
    · rw [if_neg (by omega)]; exact kn (by omega)
  · rw [if_neg (by omega), if_neg (by omega), if_neg (by omega), if_neg (by omega), if_neg (by omega), if_pos (by omega)]
    refine ⟨hn, ?_⟩
    by_cases c : ms = 0
    · rw [if_pos (by omega)]
      by_cases c2 : mf = 0
      · rw [if_pos (by omega)]; exact ky (by omega)
      · rw [if_neg (by omega)]; exact kn (by omega)
    · rw [if_neg (by omega)]; exact kn (by omega)
  · rw [if_neg (by omega), if_neg (by omega), if_neg (by omega), if_neg (by omega), if_neg (by omega), if_neg (by omega), if_pos (by omega)]
    refine ⟨hn, ?_⟩
    by_cases c : ms = 0
    · rw [if_pos (by omega)]; exact ky (by omega)
    · rw [if_neg (by omega)]; exact kn (by omega)
/-- the reference's flags of the words -/
theorem r_flags {ρ : RH} {p1 p2 p3 p4 x5 x6 : Int32} {ms mf : Nat} {post : Int32 → RH → Prop} (hs : ρ 7 0 = nI ms) (hf : ρ 9 0 = nI mf) (hms : ms ≤ 4) (hmf : mf ≤ 4)
    (k : ∀ x7 y0 : Int32, (x7.toInt = 0 ↔ ¬ lk9 p1.toInt ms mf) → (y0.toInt = 0 ↔ ¬ ex9 p1.toInt ms mf) → jX7_instruct_152 p1 p2 p3 p4 post ρ x5 x6 x7 y0) : jX7_instruct_79 p1 p2 p3 p4 post ρ x5 x6 := by
  unfold lk9 ex9 at k
  have r129 : ∀ x7 : Int32, (x7.toInt = 0 ↔ ¬ (((p1.toInt = 2 ∨ p1.toInt = 3) ∧ ms = 0) ∨ (p1.toInt = 1 ∧ mf = 0))) → ¬ (3 < p1.toInt ∧ 0 < ms) → jX7_instruct_129 p1 p2 p3 p4 post ρ x5 x6 x7 := by
    intro x7 h7 hn
    unfold jX7_instruct_129
    by_cases c : p1.toInt ≤ 2
    · rw [if_pos c]; exact k x7 0 h7 ⟨fun _ => by omega, fun _ => z0I⟩
    rw [if_neg c]
    by_cases c2 : p1.toInt = 7
    · rw [if_pos c2]; exact k x7 0 h7 ⟨fun _ => by omega, fun _ => z0I⟩
    rw [if_neg c2, hf, ti_n (by omega)]
    by_cases c3 : mf = 0
    · rw [if_pos (by omega)]; exact k x7 0 h7 ⟨fun _ => by omega, fun _ => z0I⟩
    · rw [if_neg (by omega)]; exact k x7 1 h7 ⟨fun z => absurd z z1I, fun z => absurd (Or.inr ⟨by omega, c2, by omega⟩) z⟩
  have r115 : ∀ x7 : Int32, (x7.toInt = 0 ↔ ¬ (((p1.toInt = 2 ∨ p1.toInt = 3) ∧ ms = 0) ∨ (p1.toInt = 1 ∧ mf = 0))) → jX7_instruct_115 p1 p2 p3 p4 post ρ x5 x6 x7 := by
    intro x7 h7
    unfold jX7_instruct_115
    by_cases c : p1.toInt ≤ 3
    · rw [if_pos c]; exact r129 x7 h7 (by omega)
    rw [if_neg c, hs, ti_n (by omega)]
    by_cases c2 : ms = 0
    · rw [if_pos (by omega)]; exact r129 x7 h7 (by omega)
    · rw [if_neg (by omega)]; exact k x7 1 h7 ⟨fun z => absurd z z1I, fun z => absurd (Or.inl ⟨by omega, by omega⟩) z⟩
  have r98 : ¬ ((p1.toInt = 2 ∨ p1.toInt = 3) ∧ ms = 0) → jX7_instruct_98 p1 p2 p3 p4 post ρ x5 x6 := by
    intro hn
    unfold jX7_instruct_98
    by_cases c : p1.toInt = 1
    · rw [if_pos c, hf, ti_n (by omega)]
      by_cases c2 : mf = 0
      · rw [if_pos (by omega)]; exact r115 1 ⟨fun z => absurd z z1I, fun z => absurd (Or.inr ⟨c, c2⟩) z⟩
      · rw [if_neg (by omega)]; exact r115 0 ⟨fun _ => by omega, fun _ => z0I⟩
    · rw [if_neg c]; exact r115 0 ⟨fun _ => by omega, fun _ => z0I⟩
  have r91 : (p1.toInt = 2 ∨ p1.toInt = 3) → jX7_instruct_91 p1 p2 p3 p4 post ρ x5 x6 := by
    intro hk
    unfold jX7_instruct_91
    rw [hs, ti_n (by omega)]
    by_cases c : ms = 0
    · rw [if_pos (by omega)]; exact r115 1 ⟨fun z => absurd z z1I, fun z => absurd (Or.inl ⟨hk, c⟩) z⟩
    · rw [if_neg (by omega)]; exact r98 (by omega)
  unfold jX7_instruct_79
  by_cases c : p1.toInt = 2
  · rw [if_pos c]; exact r91 (Or.inl c)
  rw [if_neg c]
  by_cases c2 : p1.toInt = 3
  · rw [if_pos c2]; exact r91 (Or.inr c2)
  · rw [if_neg c2]; exact r98 (by omega)
set_option maxRecDepth 100000 in
set_option maxHeartbeats 2000000 in
theorem z_instruct {σ : SG} {ν : NU} {ρ : RH} {n np : Nat} (h : SIM σ ν ρ n np) (p1 p2 p3 p4 : Int32) : ZS [IOB, IAE, ISE] (fun post px => wpX6_instruct σ ν p1 p2 p3 p4 post (fun E => px E σ ν)) (wpX7_instruct ρ p1 p2 p3 p4) := by
  obtain ⟨⟨hD, hC, ⟨b1, b2, b3, b4, b5, b6⟩, h7, hA, hX, h5⟩, hV⟩ := id h
  have h20 := hD.2.1
  have h40 := hD.1
  have t1 : (1 : Int32).toInt = 1 := by decide
  have t7 : (7 : Int32).toInt = 7 := by decide
  have t5 : (5 : Int32).toInt = 5 := by decide
  have t4 : (4 : Int32).toInt = 4 := by decide
  obtain ⟨e1, e2, ⟨ms, hms, es⟩, e4, ⟨mf, hmf, ef⟩, e6, e7, e8⟩ := id hX
  have e4' := e4
  have e6' := e6
  rw [es] at e4'
  rw [ef] at e6'
  have hcs := (PH_of hms e4').1
  have hcf := (PH_of hmf e6').1
  have stay : ∀ σ' ν' ρ', SIM σ' ν' ρ n np → lgd ρ ρ' → ∃ n' np', SIM σ' ν' ρ' n' np' := fun σ' ν' ρ' a b => ⟨n, np, a.lo b⟩
  -- the reference
  have R195 : ∀ (c : Int32) (post : Int32 → RH → Prop), c ≠ 0 → (∀ t, lgd ρ t → t 48 0 = c → post 0 t) → jX7_instruct_195 p1 p2 p3 p4 post ρ 0 c := by
    intro c post q k1
    unfold jX7_instruct_195
    refine s_goes (fun t et => ?_)
    rw [bI_f q, if_pos z0I]
    subst et
    exact k1 _ lgd_48 (by rw [u2_at, if_pos rfl])
  -- the numbers are those of the kind; one that is none, is out of its range
  have R152 : ∀ (x5 x6 x7 y0 : Int32) (post : Int32 → RH → Prop), (¬ x5.toInt = 0 → jX7_instruct_195 p1 p2 p3 p4 post ρ 0 1) → (x5.toInt = 0 → x6.toInt = 0 → jX7_instruct_195 p1 p2 p3 p4 post ρ 0 2) → (x5.toInt = 0 → ¬ x6.toInt = 0 → ¬ (opn9 n ρ ∧ x7.toInt = 0 ∧ y0.toInt = 0) → jX7_instruct_195 p1 p2 p3 p4 post ρ 0 3) → (x5.toInt = 0 → ¬ x6.toInt = 0 → opn9 n ρ ∧ x7.toInt = 0 ∧ y0.toInt = 0 → jX7_instruct_195 p1 p2 p3 p4 post ρ 0 0) → jX7_instruct_152 p1 p2 p3 p4 post ρ x5 x6 x7 y0 := by
    intro x5 x6 x7 y0 post k1 k2 k3 k4
    unfold jX7_instruct_152
    by_cases c : x5.toInt = 0
    · rw [if_pos c]
      by_cases c2 : x6.toInt = 0
      · rw [if_pos c2]; exact k2 c c2
      · rw [if_neg c2]
        refine r_isShut hD hA (fun z => ?_) (fun z => ?_)
        · rw [if_neg z1I]; exact k3 c c2 (fun y => z y.1)
        · rw [if_pos z0I]
          by_cases c3 : x7.toInt = 0
          · rw [if_pos c3]
            by_cases c4 : y0.toInt = 0
            · rw [if_pos c4]; exact k4 c c2 ⟨z, c3, c4⟩
            · rw [if_neg c4]; exact k3 c c2 (fun y => c4 y.2.2)
          · rw [if_neg c3]; exact k3 c c2 (fun y => c3 y.2.1)
    · rw [if_neg c]; exact k1 c
  have R48 : ∀ (x5 : Int32) (post : Int32 → RH → Prop), (∀ x6 x7 y0 : Int32, (x6.toInt = 0 ↔ ¬ ((1 ≤ p1.toInt ∧ p1.toInt ≤ 7) ∧ (p1 = 4 → okLab p3 p4))) → (x7.toInt = 0 ↔ ¬ lk9 p1.toInt ms mf) → (y0.toInt = 0 ↔ ¬ ex9 p1.toInt ms mf) → jX7_instruct_152 p1 p2 p3 p4 post ρ x5 x6 x7 y0) → jX7_instruct_48 p1 p2 p3 p4 post ρ x5 := by
    intro x5 post k
    unfold jX7_instruct_48
    refine s_isIn ?_
    rw [t1, t7]
    by_cases c : 1 ≤ p1.toInt ∧ p1.toInt ≤ 7
    · rw [bI_t c, if_neg z1I]
      by_cases c4 : p1 = 4
      · rw [if_pos (by rw [c4]; exact t4)]
        refine r_isLabel (fun z => ?_) (fun z => ?_)
        · rw [if_pos z0I]; exact r_flags es ef hms hmf (fun x7 y0 a b => k 0 x7 y0 ⟨fun _ y => z (y.2 c4), fun _ => z0I⟩ a b)
        · rw [if_neg z1I]; exact r_flags es ef hms hmf (fun x7 y0 a b => k 1 x7 y0 ⟨fun y => absurd y z1I, fun y => absurd ⟨c, fun _ => z⟩ y⟩ a b)
      · rw [if_neg (fun z => c4 (ti_eq.mp (z.trans t4.symm)))]
        exact r_flags es ef hms hmf (fun x7 y0 a b => k 1 x7 y0 ⟨fun y => absurd y z1I, fun y => absurd ⟨c, fun z => absurd z c4⟩ y⟩ a b)
    · rw [bI_f c, if_pos z0I]
      exact r_flags es ef hms hmf (fun x7 y0 a b => k 0 x7 y0 ⟨fun _ y => c y.1, fun _ => z0I⟩ a b)
  -- there is such an instruction, or provision
  let okI : Prop := (p1 = 7 → 0 ≤ p2.toInt ∧ p2.toInt < n) ∧ (p1 ≠ 7 → 0 ≤ p2.toInt ∧ p2.toInt < np) ∧ (p1 = 5 → p3 = -1 ∨ (0 ≤ p3.toInt ∧ p3.toInt < np))
  have R0 : ∀ (post : Int32 → RH → Prop), (¬ okI → jX7_instruct_48 p1 p2 p3 p4 post ρ 1) → (okI → jX7_instruct_48 p1 p2 p3 p4 post ρ 0) → wpX7_instruct ρ p1 p2 p3 p4 post := by
    intro post k1 k2
    have r25 : (p1 = 7 → 0 ≤ p2.toInt ∧ p2.toInt < n) → (p1 ≠ 7 → 0 ≤ p2.toInt ∧ p2.toInt < np) → jX7_instruct_25 p1 p2 p3 p4 post ρ := by
      intro a1 a2
      unfold jX7_instruct_25
      by_cases c : p1 = 5
      · rw [if_pos (by rw [c]; exact t5)]
        by_cases c2 : p3 = -1
        · rw [if_pos (by rw [c2]; exact ti_m1)]; exact k2 ⟨a1, a2, fun _ => Or.inl c2⟩
        · rw [if_neg (fun z => c2 (ti_eq.mp (z.trans ti_m1.symm)))]
          refine s_isProvisionR hD.2.2.2.1 h20 ?_
          by_cases c3 : 0 ≤ p3.toInt ∧ p3.toInt < np
          · rw [bI_t c3, if_neg z1I]; exact k2 ⟨a1, a2, fun _ => Or.inr c3⟩
          · rw [bI_f c3, if_pos z0I]; exact k1 (fun z => (z.2.2 c).elim c2 c3)
      · rw [if_neg (fun z => c (ti_eq.mp (z.trans t5.symm)))]; exact k2 ⟨a1, a2, fun z => absurd z c⟩
    unfold wpX7_instruct
    by_cases c : p1 = 7
    · rw [if_pos (by rw [c]; exact t7)]
      refine s_isInstructionR hD.2.2.1 h40 ?_
      by_cases c2 : 0 ≤ p2.toInt ∧ p2.toInt < n
      · rw [bI_t c2, if_neg z1I]; exact r25 (fun _ => c2) (fun z => absurd c z)
      · rw [bI_f c2, if_pos z0I]; exact k1 (fun z => c2 (z.1 c))
    · rw [if_neg (fun z => c (ti_eq.mp (z.trans t7.symm)))]
      refine s_isProvisionR hD.2.2.2.1 h20 ?_
      by_cases c2 : 0 ≤ p2.toInt ∧ p2.toInt < np
      · rw [bI_t c2, if_neg z1I]; exact r25 (fun z => absurd z c) (fun _ => c2)
      · rw [bI_f c2, if_pos z0I]; exact k1 (fun z => c2 (z.2.1 c))
  -- the class
  have C0 : ∀ (post : Int32 → SG → NU → Prop) (px : String → Prop), (¬ okI → px IOB) → (okI → jX6_instruct_30 p1 p2 p3 p4 post px σ ν) → wpX6_instruct σ ν p1 p2 p3 p4 post px := by
    intro post px k1 k2
    have c20 : (p1 = 7 → 0 ≤ p2.toInt ∧ p2.toInt < n) → (p1 ≠ 7 → 0 ≤ p2.toInt ∧ p2.toInt < np) → jX6_instruct_20 p1 p2 p3 p4 post px σ ν := by
      intro a1 a2
      unfold jX6_instruct_20
      by_cases c : p1 = 5
      · rw [if_pos (by rw [c]; exact t5)]
        exact c_needPT h7 h20 (fun z => k1 (fun y => z (y.2.2 c))) (fun z => k2 ⟨a1, a2, fun _ => z⟩)
      · rw [if_neg (fun z => c (ti_eq.mp (z.trans t5.symm)))]; exact k2 ⟨a1, a2, fun z => absurd z c⟩
    unfold wpX6_instruct
    by_cases c : p1 = 7
    · rw [if_pos (by rw [c]; exact t7)]
      exact c_needI b3 hC.1 h40 (fun z => k1 (fun y => z (y.1 c))) (fun k hk e => c20 (fun _ => ⟨by rw [e, ti_n (by omega)]; omega, by rw [e, ti_n (by omega)]; omega⟩) (fun z => absurd c z))
    · rw [if_neg (fun z => c (ti_eq.mp (z.trans t7.symm)))]
      exact c_needP h7 h20 (fun z => k1 (fun y => z (y.2.1 c))) (fun z => c20 (fun y => absurd y c) (fun _ => z))
  have C30 : ∀ (post : Int32 → SG → NU → Prop) (px : String → Prop), (¬ ((1 ≤ p1.toInt ∧ p1.toInt ≤ 7) ∧ (p1 = 4 → okLab p3 p4)) → px IAE) → ((1 ≤ p1.toInt ∧ p1.toInt ≤ 7) ∧ (p1 = 4 → okLab p3 p4) → jX6_instruct_62 p1 p2 p3 p4 post px σ ν) → jX6_instruct_30 p1 p2 p3 p4 post px σ ν := by
    intro post px k1 k2
    unfold jX6_instruct_30
    by_cases c : p1.toInt < 1
    · rw [if_pos c]; exact k1 (fun z => by have := z.1.1; omega)
    rw [if_neg c]
    by_cases c2 : ¬ p1.toInt ≤ 7
    · rw [if_neg c2]; exact k1 (fun z => c2 z.1.2)
    have c2 := Decidable.byContradiction c2
    rw [if_pos c2]
    by_cases c4 : p1 = 4
    · rw [if_pos (by rw [c4]; exact t4)]
      exact c_needLabel (fun z => k1 (fun y => z (y.2 c4))) (fun z => k2 ⟨⟨by omega, c2⟩, fun _ => z⟩)
    · rw [if_neg (fun z => c4 (ti_eq.mp (z.trans t4.symm)))]
      exact k2 ⟨⟨by omega, c2⟩, fun z => absurd z c4⟩
  by_cases c1 : ¬ okI
  · exact ⟨1, 0, fun s m => SIM s m ρ n np, fun ρ' => lgd ρ ρ', C0 _ _ (fun _ => ⟨xk9_0, h⟩) (fun z => absurd z c1), R0 _ (fun _ => R48 1 _ (fun x6 x7 y0 _ _ _ => R152 1 x6 x7 y0 _ (fun _ => R195 1 _ i1n0 (fun t g e => ⟨e, fun q => absurd q i1n0, g⟩)) (fun z => absurd z z1I) (fun z => absurd z z1I) (fun z => absurd z z1I))) (fun z => absurd z c1), stay⟩
  have c1 := Classical.byContradiction c1
  by_cases c2 : ¬ ((1 ≤ p1.toInt ∧ p1.toInt ≤ 7) ∧ (p1 = 4 → okLab p3 p4))
  · exact ⟨2, 0, fun s m => SIM s m ρ n np, fun ρ' => lgd ρ ρ', C0 _ _ (fun z => absurd c1 z) (fun _ => C30 _ _ (fun _ => ⟨xk9_1, h⟩) (fun z => absurd z c2)), R0 _ (fun z => absurd c1 z) (fun _ => R48 0 _ (fun x6 x7 y0 q6 _ _ => R152 0 x6 x7 y0 _ (fun z => absurd z0I z) (fun _ _ => R195 2 _ i2n0 (fun t g e => ⟨e, fun q => absurd q i2n0, g⟩)) (fun _ z => absurd (q6.mpr c2) z) (fun _ z => absurd (q6.mpr c2) z))), stay⟩
  have c2 := Classical.byContradiction c2
  obtain ⟨K, hK, rfl⟩ := in_nI (N := 8) (p := p1) (by omega) (by omega)
  have hK1 : 1 ≤ K := by have := c2.1.1; rw [ti_n (by omega)] at this; omega
  have tK : (nI K).toInt = K := ti_n (by omega)
  rw [tK] at R48
  have C62 : ∀ (post : Int32 → SG → NU → Prop) (px : String → Prop), (¬ (opn9 n ρ ∧ ¬ lk9 K ms mf ∧ ¬ ex9 K ms mf) → px ISE) → (opn9 n ρ ∧ ¬ lk9 K ms mf ∧ ¬ ex9 K ms mf → (nI K = 5 → jX6_instruct_100 (nI K) p2 p3 p4 post px (u3 σ 3 n 5 p3) ν) ∧ (nI K ≠ 5 → jX6_instruct_100 (nI K) p2 p3 p4 post px σ ν)) → jX6_instruct_62 (nI K) p2 p3 p4 post px σ ν := by
    intro post px k1 k2
    unfold jX6_instruct_62
    refine c_needRoom hD b3 hA (fun z => k1 (fun y => z y.1)) (fun z => ?_)
    rw [b2]
    refine ⟨by omega, c_hasWords (by omega) hK1 (by omega) hcs hcf hms hmf (fun y => ?_) (fun y => ?_)⟩
    · rw [if_pos z0I]
      exact k1 (fun w => y.elim w.2.1 w.2.2)
    · rw [if_neg z1I]
      obtain ⟨q1, q2⟩ := k2 ⟨z, fun w => y (Or.inl w), fun w => y (Or.inr w)⟩
      by_cases c : nI K = 5
      · rw [if_pos (by rw [c]; exact t5)]
        intro t26 e26
        subst e26
        exact q1 c
      · rw [if_neg (fun w => c (ti_eq.mp (w.trans t5.symm)))]
        exact q2 c
  by_cases c3 : ¬ (opn9 n ρ ∧ ¬ lk9 K ms mf ∧ ¬ ex9 K ms mf)
  · exact ⟨3, 0, fun s m => SIM s m ρ n np, fun ρ' => lgd ρ ρ', C0 _ _ (fun z => absurd c1 z) (fun _ => C30 _ _ (fun z => absurd c2 z) (fun _ => C62 _ _ (fun _ => ⟨xk9_2, h⟩) (fun z => absurd z c3))), R0 _ (fun z => absurd c1 z) (fun _ => R48 0 _ (fun x6 x7 y0 q6 q7 q0 => R152 0 x6 x7 y0 _ (fun z => absurd z0I z) (fun _ z => absurd (by rw [tK] at c2; exact c2) (q6.mp z)) (fun _ _ _ => R195 3 _ i3n0 (fun t g e => ⟨e, fun q => absurd q i3n0, g⟩)) (fun _ _ z => absurd ⟨z.1, q7.mp z.2.1, q0.mp z.2.2⟩ c3))), stay⟩
  have c3 := Classical.byContradiction c3
  obtain ⟨⟨hn, a, ha0, ha9, ha1, hday⟩, hlk, hex⟩ := id c3
  -- what it is of
  obtain ⟨p, hof, hp7, hpp⟩ : ∃ p : Nat, p2 = nI p ∧ (K = 7 → p < n) ∧ (K ≠ 7 → p < np) := by
    by_cases q : K = 7
    · obtain ⟨k, hk, e⟩ := in_nI (c1.1 (by rw [q]; rfl)).1 (c1.1 (by rw [q]; rfl)).2
      exact ⟨k, e, fun _ => hk, fun z => absurd q z⟩
    · have q' : nI K ≠ 7 := nI_ne (b := 7) (by omega) (by omega) q
      obtain ⟨k, hk, e⟩ := in_nI (c1.2.1 q').1 (c1.2.1 q').2
      exact ⟨k, e, fun z => absurd z q, fun _ => hk⟩
  generalize hla : (if K = 4 then (((1000 : Int32) * p3) + p4) else 0) = la
  have Sv : ∀ σ1 : SG, (∀ x y, ¬ (x = 3 ∧ y = n) → σ1 x y = σ x y) → (K = 5 → σ1 3 n 5 = p3) → (K = 4 → σ1 3 n 6 = la) → ∀ (σ' : SG) (ν' : NU), ADDED n σ1 σ' ν ν' (nI K) p2 → SIMD σ' ν' (lay9 n a ρ (nI K) p2 p3 la) (n + 1) np := by
    intro σ1 hσ k5 k4 σ' ν' hAd
    have e07 : σ' 0 0 7 = nI np := by rw [hAd.2.2.2.2.2.2.1 0 0 (by decide) (by decide) (by decide) (by decide) (fun z => by omega), hσ 0 0 (fun z => by omega)]; exact h7
    refine SIMD_lay (K := K) (p := p) (np' := np) (σ9 := σ') (ρ9 := lay9 n a ρ (nI K) p2 p3 la) h hσ hAd (fun _ _ _ => rfl) (fun _ _ => rfl) e07 lay9_laid (fun _ _ => rfl) ?_ (Nat.le_refl _) h20 hn ha1 ha9 ha0 hday (by omega) hof hp7 hpp (fun z => ?_) (fun z => ?_) (fun z => ?_) (fun z => by omega) (fun z => k5 (by omega)) (fun z => k4 (by omega))
    · rw [lay9_oth ⟨by decide, by decide, by decide, by omega⟩]; exact hD.2.2.2.1
    · have hz : K = 5 := by omega
      exact pt_q h20 (c1.2.2 (by rw [hz]; rfl))
    · rw [es]
      refine nI_ne (b := 0) (by omega) (by omega) (fun w => hlk ?_)
      unfold lk9
      omega
    · have hz : K = 4 := by omega
      rw [← hla, if_pos hz]
      exact okLab_l (c2.2 (by rw [hz]; rfl))
  have C118 : ∀ σ1 : SG, (∀ x y, ¬ (x = 3 ∧ y = n) → σ1 x y = σ x y) → (K = 5 → σ1 3 n 5 = p3) → (K = 4 → σ1 3 n 6 = la) → ∀ (post : Int32 → SG → NU → Prop) (px : String → Prop), (∀ σ' ν', SIM σ' ν' (lay9 n a ρ (nI K) p2 p3 la) (n + 1) np → post (nI n) σ' ν') → jX6_instruct_118 (nI K) p2 p3 p4 post px σ1 ν := by
    intro σ1 hσ k5 k4 post px k
    unfold jX6_instruct_118
    have hL' : LI9 σ1 ν n := b3.same (by rw [hσ 7 0 (fun z => by omega)]) rfl rfl rfl
    refine c_add hn b1 b2 hL' b4 (fun σ' ν' hAd => s_buildS (Sv σ1 hσ k5 k4 σ' ν' hAd) (fun σ2 ν2 hs _ _ => ?_))
    refine s_size0 hs.1.2.2.1.2.2.1 ?_
    rw [li1, pk_sub (by omega), Nat.add_sub_cancel]
    exact k σ2 ν2 hs
  have C100 : ∀ σ1 : SG, (∀ x y, ¬ (x = 3 ∧ y = n) → σ1 x y = σ x y) → (K = 5 → σ1 3 n 5 = p3) → ∀ (post : Int32 → SG → NU → Prop) (px : String → Prop), (∀ σ' ν', SIM σ' ν' (lay9 n a ρ (nI K) p2 p3 la) (n + 1) np → post (nI n) σ' ν') → jX6_instruct_100 (nI K) p2 p3 p4 post px σ1 ν := by
    intro σ1 hσ k5 post px k
    unfold jX6_instruct_100
    rw [tK, b2]
    by_cases c : K = 4
    · rw [if_pos (by omega)]
      unfold wpX6_joinLabel
      refine ⟨by omega, fun t24 e24 => C118 t24 (fun x y z => by rw [e24, u3_oth z]; exact hσ x y z) (fun z => by omega) (fun _ => ?_) post px k⟩
      rw [e24, u3_at, if_pos rfl, ← hla, if_pos c]
    · rw [if_neg (by omega)]
      exact C118 σ1 hσ k5 (fun z => absurd z c) post px k
  refine ⟨0, nI n, fun s m => SIM s m (lay9 n a ρ (nI K) p2 p3 la) (n + 1) np, fun ρ' => lgd (lay9 n a ρ (nI K) p2 p3 la) ρ', C0 _ _ (fun z => absurd c1 z) (fun _ => C30 _ _ (fun z => absurd c2 z) (fun _ => C62 _ _ (fun z => absurd c3 z) (fun _ => ⟨fun q => ?_, fun q => ?_⟩))), R0 _ (fun z => absurd c1 z) (fun _ => R48 0 _ (fun x6 x7 y0 q6 q7 q0 => R152 0 x6 x7 y0 _ (fun z => absurd z0I z) (fun _ z => absurd (by rw [tK] at c2; exact c2) (q6.mp z)) (fun _ _ z => absurd ⟨c3.1, q7.mpr hlk, q0.mpr hex⟩ z) (fun _ _ _ => ?_))), fun σ' ν' ρ' q b => ⟨n + 1, np, q.lo b⟩⟩
  · exact C100 _ (fun x y z => u3_oth z) (fun _ => by rw [u3_at, if_pos rfl]) _ _ (fun σ' ν' hs => ⟨rfl, rfl, hs⟩)
  · exact C100 _ (fun _ _ _ => rfl) (fun z => absurd (by rw [z]; rfl) q) _ _ (fun σ' ν' hs => ⟨rfl, rfl, hs⟩)
  · unfold jX7_instruct_195
    refine s_goes (fun t et => ?_)
    rw [bI_t rfl, if_neg z1I, tK]
    have go : wpX7_lays t (nI K) p2 p3 la (fun r ρ' => ρ' 48 0 = 0 ∧ ((0 : Int32) = 0 → r = nI n) ∧ lgd (lay9 n a ρ (nI K) p2 p3 la) ρ') := by
      refine s_lays (n := n) (a := a) (by rw [et, u2_oth (by decide)]; exact hD.2.2.1) hn (by rw [et, u2_oth (by decide)]; exact ha1) ha0 (fun ρ' hl g12 g48 g0 => ⟨by rw [g48, et, u2_at, if_pos rfl], fun _ => rfl, ?_⟩)
      have gl := lay9_lgd hl g12 g0
      have ht : ∀ i, i < 48 → t i = ρ i := fun i hi => by rw [et, u2_oth (by omega)]
      intro j hj
      rw [gl j hj]
      funext k
      unfold lay9
      rw [ht 13 (by omega), ht 14 (by omega), ht 15 (by omega), ht 16 (by omega), ht 17 (by omega), ht 18 (by omega), ht 20 (by omega), ht 22 (by omega), ht 23 (by omega), ht 24 (by omega), ht 25 (by omega), ht 26 (by omega), ht 28 (by omega), ht 30 (by omega), ht 19 (by omega), ht 21 (by omega), ht 7 (by omega), ht 9 (by omega), ht 11 (by omega), ht 8 (by omega), ht 10 (by omega), ht 3 (by omega), ht 4 (by omega), ht 5 (by omega), ht 6 (by omega), ht j (by omega)]
    by_cases c : K = 4
    · rw [if_pos (by omega)]
      rw [← hla, if_pos c] at go
      rw [← hla, if_pos c]
      exact go
    · rw [if_neg (by omega)]
      rw [← hla, if_neg c] at go
      rw [← hla, if_neg c]
      exact go
