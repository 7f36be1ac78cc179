/-! Conflicts, counted by both. -/
def cf9 (ρ : RH) (kn : Int32) (C : CS) (i j : Nat) : Bool :=
  decide (C.2.2.2.2.1 i = 1) && (decide (C.2.2.2.2.1 j = 1) && (decide (ρ 14 i ≠ ρ 14 j) && (decide (ρ 15 i = ρ 15 j) && (decide (1 ≤ (ρ 13 i).toInt ∧ (ρ 13 i).toInt ≤ 6) && (decide (1 ≤ (ρ 13 j).toInt ∧ (ρ 13 j).toInt ≤ 6) && decide (cm9 ρ kn i = cm9 ρ kn j))))))
theorem cf9_iff {ρ : RH} {kn : Int32} {C : CS} {i j : Nat} : cf9 ρ kn C i j = true ↔ C.2.2.2.2.1 i = 1 ∧ C.2.2.2.2.1 j = 1 ∧ ρ 14 i ≠ ρ 14 j ∧ ρ 15 i = ρ 15 j ∧ (1 ≤ (ρ 13 i).toInt ∧ (ρ 13 i).toInt ≤ 6) ∧ (1 ≤ (ρ 13 j).toInt ∧ (ρ 13 j).toInt ≤ 6) ∧ cm9 ρ kn i = cm9 ρ kn j := by
  unfold cf9
  simp only [Bool.and_eq_true, decide_eq_true_eq]
theorem cf9_symm {ρ : RH} {kn : Int32} {C : CS} (i j : Nat) : cf9 ρ kn C i j = cf9 ρ kn C j i := by
  have : cf9 ρ kn C i j = true ↔ cf9 ρ kn C j i = true := by
    rw [cf9_iff, cf9_iff]
    constructor
    · rintro ⟨a, b, c, d, e, f, g⟩; exact ⟨b, a, Ne.symm c, d.symm, f, e, g.symm⟩
    · rintro ⟨a, b, c, d, e, f, g⟩; exact ⟨b, a, Ne.symm c, d.symm, f, e, g.symm⟩
  cases h1 : cf9 ρ kn C i j <;> cases h2 : cf9 ρ kn C j i <;> rw [h1, h2] at this <;> simp at this ⊢
def pc9 (f : Nat → Nat → Bool) : Nat → Nat
  | 0 => 0
  | i + 1 => pc9 f i + cn9 (f i) i
def pcl (f : Nat → Nat → Bool) : List Nat → Nat
  | [] => 0
  | x :: l => l.countP (f x) + pcl f l
theorem pcl_perm {f : Nat → Nat → Bool} (hs : ∀ i j, f i j = f j i) {l l' : List Nat} (h : l.Perm l') : pcl f l = pcl f l' := by
  induction h with
  | nil => rfl
  | cons x h ih => simp only [pcl, ih, h.countP_eq]
  | swap x y l =>
    simp only [pcl, List.countP_cons]
    rw [hs x y]
    omega
  | trans _ _ ih1 ih2 => exact ih1.trans ih2
theorem pcl_snoc {f : Nat → Nat → Bool} (hs : ∀ i j, f i j = f j i) {l : List Nat} {x : Nat} : pcl f (l ++ [x]) = pcl f l + l.countP (f x) := by
  rw [pcl_perm hs (List.perm_append_comm (l₁ := l) (l₂ := [x]))]
  show l.countP (f x) + pcl f l = _
  omega
theorem countP_range {g : Nat → Bool} : ∀ {n : Nat}, (List.range n).countP g = cn9 g n
  | 0 => rfl
  | n + 1 => by
    rw [List.range_succ, List.countP_append, countP_range]
    show _ + List.countP g [n] = cn9 g n + _
    simp [List.countP_cons]
theorem pcl_range {f : Nat → Nat → Bool} (hs : ∀ i j, f i j = f j i) : ∀ {n : Nat}, pcl f (List.range n) = pc9 f n
  | 0 => rfl
  | n + 1 => by
    rw [List.range_succ, pcl_snoc hs, pcl_range hs, countP_range]
    rfl
theorem countP_filt {g q : Nat → Bool} : ∀ {l : List Nat}, (∀ y, g y = true → q y = true) → (l.filter q).countP g = l.countP g
  | [], _ => rfl
  | y :: l, h => by
    rw [List.filter_cons, List.countP_cons]
    by_cases c : q y = true
    · rw [if_pos c, List.countP_cons, countP_filt h]
    · have hg : ¬ g y = true := fun z => c (h y z)
      rw [if_neg c, if_neg hg, countP_filt h]
      rfl
theorem pcl_filt {f : Nat → Nat → Bool} {q : Nat → Bool} (h : ∀ x y, f x y = true → q x = true ∧ q y = true) : ∀ {l : List Nat}, pcl f (l.filter q) = pcl f l
  | [] => rfl
  | x :: l => by
    rw [List.filter_cons]
    by_cases c : q x = true
    · rw [if_pos c]
      simp only [pcl]
      rw [pcl_filt h, countP_filt (fun y hy => (h x y hy).2)]
    · rw [if_neg c, pcl_filt h]
      have : l.countP (f x) = 0 := List.countP_eq_zero.mpr (fun y _ hy => c (h x y hy).1)
      simp only [pcl, this, Nat.zero_add]
/-- the pairs of those done are the pairs of all -/
theorem pcl_done {f : Nat → Nat → Bool} {T : List Nat} {n : Nat} (hs : ∀ i j, f i j = f j i) (hT : ∀ x ∈ T, x < n) (hd : T.Nodup) (h : ∀ x y, f x y = true → x ∈ T ∧ y ∈ T) : pcl f T = pc9 f n := by
  rw [← pcl_range hs, ← pcl_filt (q := fun x => decide (x ∈ T)) (fun x y hxy => ⟨decide_eq_true (h x y hxy).1, decide_eq_true (h x y hxy).2⟩) (l := List.range n)]
  refine pcl_perm hs ((List.perm_ext_iff_of_nodup hd (List.nodup_range.filter _)).mpr (fun x => ?_))
  rw [List.mem_filter, List.mem_range, decide_eq_true_eq]
  exact ⟨fun q => ⟨hT x q, q⟩, fun q => q.2⟩
theorem cn9_up {f : Nat → Bool} {j : Nat} : cn9 f (j + 1) = cn9 f j + (if f j = true then 1 else 0) := rfl
theorem cn9_pc {f : Nat → Nat → Bool} : ∀ (n : Nat), pc9 f n ≤ n * n
  | 0 => Nat.zero_le _
  | n + 1 => by
    have h1 := cn9_pc (f := f) n
    have h2 := cn9_le (f := f n) n
    show pc9 f n + cn9 (f n) n ≤ _
    have : (n + 1) * (n + 1) = n * n + n + n + 1 := by rw [Nat.add_mul, Nat.mul_add]; omega
    omega
theorem s_conflictsR {n np : Nat} {ρ : RH} {C : CS} {kn : Int32} {post : Int32 → RH → Prop} (hD : DAT n np ρ) (hR : RSC n ρ C) (h34 : ρ 34 0 = kn) (k : post (nI (pc9 (cf9 ρ kn C) n)) ρ) : ∃ f, wX7_conflicts_13 post f ρ ((0 : Int32)) ((0 : Int32)) := by
  have hn := hD.1
  have t1 : (1 : Int32).toInt = 1 := by decide
  have t6 : (6 : Int32).toInt = 6 := by decide
  refine ⟨n + 1, ?_⟩
  have outer : ∀ e i, i + e = n → wX7_conflicts_13 post (e + 1) ρ (nI (pc9 (cf9 ρ kn C) i)) (nI i) := by
    intro e
    induction e with
    | zero =>
      intro i hi
      have hin : i = n := by omega
      subst hin
      unfold wX7_conflicts_13
      rw [hD.2.2.1, if_neg (by omega)]
      exact k
    | succ e ih =>
      intro i hi
      have hin : i < n := by omega
      unfold wX7_conflicts_13
      rw [hD.2.2.1, ti_n (by omega), ti_n (by omega), if_pos (by omega)]
      refine ⟨i + 1, ?_⟩
      have inner : ∀ d j, j + d = i → wX7_conflicts_23 (wX7_conflicts_13 post (e + 1)) post (d + 1) ρ (nI (pc9 (cf9 ρ kn C) i + cn9 (cf9 ρ kn C i) j)) (nI i) (nI j) := by
        intro d
        induction d with
        | zero =>
          intro j hj
          have hji : j = i := by omega
          subst hji
          unfold wX7_conflicts_23
          rw [if_neg (by omega), li1, nI_add]
          exact ih (j + 1) (by omega)
        | succ d ih2 =>
          intro j hj
          have hji : j < i := by omega
          have hci : (nI i).toNatClampNeg = i := cl_n (by omega)
          have hcj : (nI j).toNatClampNeg = j := cl_n (by omega)
          have hvi : vp_in (nI i) 40 := vi_n (by omega) (by decide)
          have hvj : vp_in (nI j) 40 := vi_n (by omega) (by decide)
          have hih := ih2 (j + 1) (by omega)
          rw [cn9_up] at hih
          have no : cf9 ρ kn C i j = false → ∀ κ : RH → Int32 → Int32 → Prop, ∀ x1 x2 : Int32, jX7_conflicts_159 κ (wX7_conflicts_23 (wX7_conflicts_13 post (e + 1)) post (d + 1)) post ρ (nI i) (nI j) (nI (pc9 (cf9 ρ kn C) i + cn9 (cf9 ρ kn C i) j)) 0 := fun q κ _ _ => by
            unfold jX7_conflicts_159
            rw [Int32.add_zero, li1, nI_add]
            rw [q] at hih
            exact hih
          have hcmi : ∀ {q : Nat} {p2 : Int32 → Prop}, q < n → p2 (cm9 ρ kn q) → wpX7_commencesBy ρ (nI q) (ρ 34 0) p2 := fun hq h => by rw [h34]; exact s_commencesBy hD.wd hn hq h
          have j120 : ∀ x4 y0 : Bool, (x4 = true ↔ C.2.2.2.2.1 i = 1 ∧ C.2.2.2.2.1 j = 1 ∧ ρ 14 i ≠ ρ 14 j ∧ ρ 15 i = ρ 15 j) → (y0 = true ↔ (1 ≤ (ρ 13 i).toInt ∧ (ρ 13 i).toInt ≤ 6) ∧ (1 ≤ (ρ 13 j).toInt ∧ (ρ 13 j).toInt ≤ 6)) → jX7_conflicts_120 (wX7_conflicts_13 post (e + 1)) (wX7_conflicts_23 (wX7_conflicts_13 post (e + 1)) post (d + 1)) post ρ (nI (pc9 (cf9 ρ kn C) i + cn9 (cf9 ρ kn C i) j)) (nI i) (nI j) (bI (x4 = true)) (bI (y0 = true)) := by
            intro x4 y0 h4 h0
            have nof : ¬ (x4 = true ∧ y0 = true ∧ cm9 ρ kn i = cm9 ρ kn j) → cf9 ρ kn C i j = false := fun q => by
              cases e9 : cf9 ρ kn C i j with
              | false => rfl
              | true =>
                obtain ⟨a, b, c, d9, e1, f, g⟩ := cf9_iff.mp e9
                exact absurd ⟨h4.mpr ⟨a, b, c, d9⟩, h0.mpr ⟨e1, f⟩, g⟩ q
            unfold jX7_conflicts_120
            cases x4 with
            | false =>
              rw [show bI (false = true) = 0 from bI_f (by decide), if_pos z0I]
              exact no (nof (fun z => by cases z.1)) _ 0 0
            | true =>
              rw [show bI (true = true) = 1 from bI_t rfl, if_neg z1I]
              cases y0 with
              | false =>
                rw [show bI (false = true) = 0 from bI_f (by decide), if_pos z0I]
                exact no (nof (fun z => by cases z.2.1)) _ 0 0
              | true =>
                rw [show bI (true = true) = 1 from bI_t rfl, if_neg z1I]
                refine hcmi hin (hcmi (by omega) ?_)
                by_cases q : cm9 ρ kn i = cm9 ρ kn j
                · rw [if_pos (ti_eq.mpr q)]
                  have hy : cf9 ρ kn C i j = true := by
                    obtain ⟨a, b, c, d9⟩ := h4.mp rfl
                    obtain ⟨e1, f⟩ := h0.mp rfl
                    exact cf9_iff.mpr ⟨a, b, c, d9, e1, f, q⟩
                  unfold jX7_conflicts_159
                  rw [li1, nI_add, nI_add]
                  rw [hy] at hih
                  exact hih
                · rw [if_neg (fun z => q (ti_eq.mp z))]
                  exact no (nof (fun z => q z.2.2)) _ 0 0
          have j83 : ∀ x4 : Bool, (x4 = true ↔ C.2.2.2.2.1 i = 1 ∧ C.2.2.2.2.1 j = 1 ∧ ρ 14 i ≠ ρ 14 j ∧ ρ 15 i = ρ 15 j) → jX7_conflicts_83 (wX7_conflicts_13 post (e + 1)) (wX7_conflicts_23 (wX7_conflicts_13 post (e + 1)) post (d + 1)) post ρ (nI (pc9 (cf9 ρ kn C) i + cn9 (cf9 ρ kn C i) j)) (nI i) (nI j) (bI (x4 = true)) := by
            intro x4 h4
            unfold jX7_conflicts_83
            refine ⟨hvi, ?_⟩
            rw [hci, hcj]
            refine s_isIn ?_
            rw [t1, t6]
            by_cases q1 : 1 ≤ (ρ 13 i).toInt ∧ (ρ 13 i).toInt ≤ 6
            · rw [bI_t q1, if_neg z1I]
              refine ⟨hvj, s_isIn ?_⟩
              rw [t1, t6]
              by_cases q2 : 1 ≤ (ρ 13 j).toInt ∧ (ρ 13 j).toInt ≤ 6
              · rw [bI_t q2, if_neg z1I]
                exact j120 x4 true h4 ⟨fun _ => ⟨q1, q2⟩, fun _ => rfl⟩
              · rw [bI_f q2, if_pos z0I]
                exact j120 x4 false h4 ⟨fun z => (by cases z), fun z => absurd z.2 q2⟩
            · rw [bI_f q1, if_pos z0I]
              exact j120 x4 false h4 ⟨fun z => (by cases z), fun z => absurd z.1 q1⟩
          have jf : ¬ (C.2.2.2.2.1 i = 1 ∧ C.2.2.2.2.1 j = 1 ∧ ρ 14 i ≠ ρ 14 j ∧ ρ 15 i = ρ 15 j) → jX7_conflicts_83 (wX7_conflicts_13 post (e + 1)) (wX7_conflicts_23 (wX7_conflicts_13 post (e + 1)) post (d + 1)) post ρ (nI (pc9 (cf9 ρ kn C) i + cn9 (cf9 ρ kn C i) j)) (nI i) (nI j) 0 := fun q => j83 false ⟨fun z => (by cases z), fun z => absurd z q⟩
          unfold wX7_conflicts_23
          rw [ti_n (by omega), ti_n (by omega), if_pos (by omega), hci, hcj]
          refine ⟨hvi, ?_⟩
          rw [(hR.2 i hin).1]
          by_cases s1 : ¬ (C.2.2.2.2.1 i = 1)
          · rw [if_neg (fun z => s1 (ti_eq.mp (z.trans t1.symm)))]
            exact jf (fun z => s1 z.1)
          have s1 : C.2.2.2.2.1 i = 1 := Decidable.byContradiction s1
          rw [if_pos (by rw [s1]; exact t1)]
          refine ⟨hvj, ?_⟩
          rw [(hR.2 j (by omega)).1]
          by_cases s2 : ¬ (C.2.2.2.2.1 j = 1)
          · rw [if_neg (fun z => s2 (ti_eq.mp (z.trans t1.symm)))]
            exact jf (fun z => s2 z.2.1)
          have s2 : C.2.2.2.2.1 j = 1 := Decidable.byContradiction s2
          rw [if_pos (by rw [s2]; exact t1)]
          refine ⟨hvi, hvj, ?_⟩
          by_cases s3 : ρ 14 i = ρ 14 j
          · rw [if_pos (ti_eq.mpr s3)]
            exact jf (fun z => z.2.2.1 s3)
          rw [if_neg (fun z => s3 (ti_eq.mp z))]
          refine ⟨hvi, hvj, ?_⟩
          by_cases s4 : ρ 15 i = ρ 15 j
          · rw [if_pos (ti_eq.mpr s4)]
            exact j83 true ⟨fun _ => ⟨s1, s2, s3, s4⟩, fun _ => rfl⟩
          · rw [if_neg (fun z => s4 (ti_eq.mp z))]
            exact jf (fun z => s4 z.2.2.2)
      exact inner i 0 (by omega)
  exact outer n 0 (by omega)
theorem s_conflictC {σ : SG} {ν : NU} {v n np i j : Nat} {ρ : RH} {kn : Int32} {eff : Nat → Bool} {T : List Nat} {C : CS} {post : Int32 → Prop} (hv : v < 2) (hD : DAT n np ρ) (hC : CDT σ ν ρ n) (hV : VB9 σ ν v n ρ kn eff T C) (hi : i < n) (hj : j < n) (k : post (bI (cf9 ρ kn C i j = true))) : wpX5_conflict σ ν v i j post := by
  have hn := hC.1
  have h40 := hD.1
  obtain ⟨a0, a1, -, a3, a4, -⟩ := hC.2 i hi
  obtain ⟨b0, b1, -, b3, b4, -⟩ := hC.2 j hj
  obtain ⟨-, -, ⟨Ki, hKi, eKi⟩, h15i, -⟩ := hD.2.2.2.2.1 i hi
  obtain ⟨-, -, ⟨Kj, hKj, eKj⟩, h15j, -⟩ := hD.2.2.2.2.1 j hj
  have t1 : (1 : Int32).toInt = 1 := by decide
  have no : ¬ (C.2.2.2.2.1 i = 1 ∧ C.2.2.2.2.1 j = 1 ∧ ρ 14 i ≠ ρ 14 j ∧ ρ 15 i = ρ 15 j ∧ (1 ≤ (ρ 13 i).toInt ∧ (ρ 13 i).toInt ≤ 6) ∧ (1 ≤ (ρ 13 j).toInt ∧ (ρ 13 j).toInt ≤ 6) ∧ cm9 ρ kn i = cm9 ρ kn j) → post 0 := fun q => by
    rw [bI_f (fun z => q (cf9_iff.mp z))] at k
    exact k
  refine ⟨by omega, by omega, by omega, ?_⟩
  rw [a1, b1, a3, b3, a4, eKi, eKj]
  by_cases s3 : ρ 14 i = ρ 14 j
  · rw [if_pos (ti_eq.mpr s3)]
    try dsimp only
    rw [if_pos z0I]
    exact no (fun z => z.2.2.1 s3)
  rw [if_neg (fun z => s3 (ti_eq.mp z))]
  rw [ti_n (by omega), ti_n (by omega)]
  by_cases q1 : Ki = 0
  · rw [if_pos (by omega)]
    try dsimp only
    rw [if_pos z0I]
    exact no (fun z => by have := z.2.2.2.2.1.1; rw [eKi, ti_n (by omega)] at this; omega)
  rw [if_neg (by omega)]
  by_cases q2 : Kj = 0
  · rw [if_pos (by omega)]
    try dsimp only
    rw [if_pos z0I]
    exact no (fun z => by have := z.2.2.2.2.2.1.1; rw [eKj, ti_n (by omega)] at this; omega)
  rw [if_neg (by omega)]
  by_cases q3 : Ki = 7
  · rw [if_pos (by omega)]
    try dsimp only
    rw [if_pos z0I]
    exact no (fun z => by have := z.2.2.2.2.1.2; rw [eKi, ti_n (by omega)] at this; omega)
  rw [if_neg (by omega)]
  refine ⟨by omega, ?_⟩
  rw [b3, b4, eKj, ti_n (by omega)]
  by_cases q4 : Kj = 7
  · rw [if_pos (by omega)]
    try dsimp only
    rw [if_pos z0I]
    try dsimp only
    rw [if_pos z0I]
    exact no (fun z => by have := z.2.2.2.2.2.1.2; rw [eKj, ti_n (by omega)] at this; omega)
  rw [if_neg (by omega)]
  by_cases s4 : ¬ (ρ 15 i = ρ 15 j)
  · rw [if_neg (fun z => s4 (ti_eq.mp z).symm)]
    try dsimp only
    rw [if_pos z0I]
    try dsimp only
    rw [if_pos z0I]
    exact no (fun z => s4 z.2.2.2.1)
  have s4 : ρ 15 i = ρ 15 j := Decidable.byContradiction s4
  rw [if_pos (by rw [s4])]
  try dsimp only
  rw [if_neg z1I]
  try dsimp only
  rw [if_neg z1I]
  refine ⟨hv, ?_⟩
  rw [a0, b0]
  refine s_stateOf hv (by omega) ?_
  rw [hV.1.2.1 i hi]
  by_cases s1 : ¬ (C.2.2.2.2.1 i = 1)
  · rw [if_neg (fun z => s1 (ti_eq.mp (z.trans t1.symm)))]
    exact no (fun z => s1 z.1)
  have s1 : C.2.2.2.2.1 i = 1 := Decidable.byContradiction s1
  rw [if_pos (by rw [s1]; exact t1)]
  refine ⟨by omega, s_stateOf hv (by omega) ?_⟩
  rw [hV.1.2.1 j hj]
  by_cases s2 : ¬ (C.2.2.2.2.1 j = 1)
  · rw [if_neg (fun z => s2 (ti_eq.mp (z.trans t1.symm)))]
    exact no (fun z => s2 z.2.1)
  have s2 : C.2.2.2.2.1 j = 1 := Decidable.byContradiction s2
  rw [if_pos (by rw [s2]; exact t1)]
  refine s_beginningOf hv (by omega) (s_beginningOf hv (by omega) ?_)
  rw [hV.2.2.1 i hi, hV.2.2.1 j hj]
  by_cases s5 : cm9 ρ kn i = cm9 ρ kn j
  · rw [if_pos (ti_eq.mpr s5)]
    rw [bI_t (cf9_iff.mpr ⟨s1, s2, s3, s4, by rw [eKi, ti_n (by omega)]; omega, by rw [eKj, ti_n (by omega)]; omega, s5⟩)] at k
    exact k
  · rw [if_neg (fun z => s5 (ti_eq.mp z))]
    exact no (fun z => s5 z.2.2.2.2.2.2)
theorem s_countConflicts {σ : SG} {ν : NU} {v n np : Nat} {ρ : RH} {kn : Int32} {eff : Nat → Bool} {T : List Nat} {C : CS} {post : Int32 → Prop} (hv : v < 2) (hD : DAT n np ρ) (hC : CDT σ ν ρ n) (hV : VB9 σ ν v n ρ kn eff T C) (hTn : ∀ x ∈ T, x < n) (k : post (nI (pcl (cf9 ρ kn C) T))) : wpX5_countConflicts σ ν v post := by
  have hn := hC.1
  have h40 := hD.1
  have hl40 := hV.2.1.2.1.2.2.2.1
  refine ⟨T.length + 1, ?_⟩
  have outer : ∀ e i, i + e = T.length → wX5_countConflicts_4 v post (e + 1) σ ν (nI (pcl (cf9 ρ kn C) (T.take i))) (nI i) := by
    intro e
    induction e with
    | zero =>
      intro i hi
      have hin : i = T.length := by omega
      subst hin
      unfold wX5_countConflicts_4
      refine ⟨hv, s_sizeT hv hV.2.1 ?_⟩
      rw [if_neg (by omega), List.take_of_length_le (Nat.le_refl _)]
      exact k
    | succ e ih =>
      intro i hi
      have hiT : i < T.length := by omega
      unfold wX5_countConflicts_4
      refine ⟨hv, s_sizeT hv hV.2.1 ?_⟩
      rw [ti_n (by omega), ti_n (by omega), if_pos (by omega)]
      refine ⟨i + 1, ?_⟩
      have inner : ∀ d j, j + d = i → wX5_countConflicts_17 v (wX5_countConflicts_4 v post (e + 1)) post (d + 1) σ ν (nI (pcl (cf9 ρ kn C) (T.take i) + (T.take j).countP (cf9 ρ kn C T[i]))) (nI i) (nI j) := by
        intro d
        induction d with
        | zero =>
          intro j hj
          have hji : j = i := by omega
          subst hji
          unfold wX5_countConflicts_17
          rw [if_neg (by omega), li1, nI_add]
          have := ih (j + 1) (by omega)
          rw [List.take_succ_eq_append_getElem hiT, pcl_snoc cf9_symm] at this
          exact this
        | succ d ih2 =>
          intro j hj
          have hji : j < i := by omega
          have hih := ih2 (j + 1) (by omega)
          rw [List.take_succ_eq_append_getElem (show j < T.length by omega), List.countP_append] at hih
          unfold wX5_countConflicts_17
          rw [ti_n (by omega), ti_n (by omega), if_pos (by omega), li1, nI_add, nI_add]
          have m1 := hTn _ (List.getElem_mem hiT)
          have m2 := hTn _ (List.getElem_mem (show j < T.length by omega))
          refine ⟨hv, s_getT hv hV.2.1 hiT ⟨by omega, s_getT hv hV.2.1 (by omega) ⟨by omega, s_conflictC hv hD hC hV m1 m2 ?_⟩⟩⟩
          cases q : cf9 ρ kn C T[i] T[j] with
          | false =>
            rw [show bI (false = true) = 0 from bI_f (by decide), if_pos z0I]
            simp only [List.countP_cons, List.countP_nil, q] at hih
            exact hih
          | true =>
            rw [show bI (true = true) = 1 from bI_t rfl, if_neg z1I]
            simp only [List.countP_cons, List.countP_nil, q, if_true] at hih
            exact hih
      exact inner i 0 (by omega)
  exact outer T.length 0 (by omega)
