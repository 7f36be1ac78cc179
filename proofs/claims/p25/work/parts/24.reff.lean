/-! When an instruction commences, and whether it is in effect: what the reference answers, by its rows. -/
def kn9 (m k : Int32) : Bool := !decide (m = -1) && decide (m.toInt ≤ k.toInt)
theorem s_isKnown {ρ : RH} {m k : Int32} {post : Int32 → Prop} (h : post (bI (kn9 m k = true))) : wpX7_isKnown ρ m k post := by
  unfold wpX7_isKnown
  by_cases c : m = -1
  · rw [if_pos (by rw [c]; exact ti_m1)]
    rw [bI_f (by simp [kn9, c])] at h
    exact h
  · rw [if_neg (fun t => c (ti_eq.mp (t.trans ti_m1.symm)))]
    by_cases d : m.toInt ≤ k.toInt
    · rw [if_pos d]
      rw [bI_t (by simp [kn9, c, d])] at h
      exact h
    · rw [if_neg d]
      rw [bI_f (by simp [kn9, d])] at h
      exact h
/-- the day of the one that an instruction commences with, by a depth -/
def bg9 (ρ : RH) (kn : Int32) : Nat → Nat → Int32
  | 0, _ => -1
  | f + 1, i => if ρ 22 i = 2 then bg9 ρ kn f (ρ 23 i).toNatClampNeg else if ρ 22 i = 0 then ρ 23 i else if kn9 (ρ 26 i) kn = true then ρ 27 i else -1
def cm9 (ρ : RH) (kn : Int32) (i : Nat) : Int32 := if (ρ 2 (ρ 14 i).toNatClampNeg).toInt ≤ kn.toInt then bg9 ρ kn (i + 1) i else -1
/-- an instruction commences with an earlier one; its act is one of ten -/
def WD (n : Nat) (ρ : RH) : Prop := ∀ i, i < n → (ρ 22 i = 2 → ∃ w, w < i ∧ ρ 23 i = nI w) ∧ ∃ a, a < 10 ∧ ρ 14 i = nI a
theorem ti_2 : (2 : Int32).toInt = 2 := by decide
theorem s_begins {n : Nat} {ρ : RH} {p1 kn : Int32} {post : Int32 → Prop} (hd : WD n ρ) (hn : n ≤ 40) : ∀ (f i : Nat), i < f → i < n → post (bg9 ρ kn f i) → wX7_commencesBy_19 p1 kn post f ρ (nI i) := by
  intro f
  induction f with
  | zero => intro i hi; exact absurd hi (Nat.not_lt_zero i)
  | succ f ih =>
    intro i hi hin k
    have hc : (nI i).toNatClampNeg = i := cl_n (by omega)
    have hv : vp_in (nI i) 40 := vi_n (by omega) (by decide)
    unfold wX7_commencesBy_19
    refine ⟨hv, ?_⟩
    rw [hc]
    have k' : post (if ρ 22 i = 2 then bg9 ρ kn f (ρ 23 i).toNatClampNeg else if ρ 22 i = 0 then ρ 23 i else if kn9 (ρ 26 i) kn = true then ρ 27 i else -1) := k
    by_cases c2 : ρ 22 i = 2
    · rw [if_pos (by rw [c2]; exact ti_2)]
      rw [if_pos c2] at k'
      obtain ⟨w, hw, e⟩ := (hd i hin).1 c2
      refine ⟨hv, ?_⟩
      rw [e] at k' ⊢
      rw [cl_n (by omega)] at k'
      exact ih w (by omega) (by omega) k'
    · rw [if_neg (fun t => c2 (ti_eq.mp (t.trans ti_2.symm)))]
      rw [if_neg c2] at k'
      refine ⟨hv, ?_⟩
      by_cases c0 : ρ 22 i = 0
      · rw [if_pos (by rw [c0]; exact z0I)]
        rw [if_pos c0] at k'
        exact ⟨hv, k'⟩
      · rw [if_neg (fun t => c0 (ti_eq.mp (t.trans z0I.symm)))]
        rw [if_neg c0] at k'
        refine ⟨hv, s_isKnown ?_⟩
        cases hk : kn9 (ρ 26 i) kn with
        | true =>
          rw [hk, if_pos rfl] at k'
          rw [bI_t rfl, if_neg z1I]
          exact ⟨hv, k'⟩
        | false =>
          rw [hk, if_neg (by decide)] at k'
          rw [bI_f (by decide), if_pos z0I]
          exact k'
theorem s_commencesBy {n i : Nat} {ρ : RH} {kn : Int32} {post : Int32 → Prop} (hd : WD n ρ) (hn : n ≤ 40) (hi : i < n) (k : post (cm9 ρ kn i)) : wpX7_commencesBy ρ (nI i) kn post := by
  have hc : (nI i).toNatClampNeg = i := cl_n (by omega)
  obtain ⟨a, ha, e⟩ := (hd i hi).2
  have hca : (nI a).toNatClampNeg = a := cl_n (by omega)
  unfold wpX7_commencesBy
  refine ⟨vi_n (by omega) (by decide), ?_⟩
  unfold cm9 at k
  rw [hc, e]
  rw [e, hca] at k
  refine ⟨vi_n ha (by decide), ?_⟩
  rw [hca]
  by_cases c : (ρ 2 a).toInt ≤ kn.toInt
  · rw [if_pos c]
    rw [if_pos c] at k
    exact ⟨i + 1, s_begins hd hn (i + 1) i (by omega) hi k⟩
  · rw [if_neg c]
    rw [if_neg c] at k
    exact k
theorem s_isIn {ρ : RH} {v a b : Int32} {post : Int32 → Prop} (h : post (bI (a.toInt ≤ v.toInt ∧ v.toInt ≤ b.toInt))) : wpX7_isIn ρ v a b post := by
  unfold wpX7_isIn
  by_cases c : a.toInt ≤ v.toInt <;> by_cases d : v.toInt ≤ b.toInt <;> simp only [c, d, bI, and_true, and_false, true_and, false_and, if_true, if_false, not_true, not_false_iff] at h ⊢ <;> first | exact h | (split <;> first | exact h | omega)
def ov9 (ρ : RH) (d : Int32) (i : Nat) : Bool := !decide (ρ 25 i = -1) && decide ((ρ 25 i).toInt ≤ d.toInt)
def sk9 (ρ : RH) (d kn : Int32) (i : Nat) : Bool := kn9 (ρ 28 i) kn && decide ((ρ 29 i).toInt ≤ d.toInt)
def su9 (ρ : RH) (d kn : Int32) (i : Nat) : Bool := kn9 (ρ 30 i) kn && decide ((ρ 31 i).toInt ≤ d.toInt ∧ d.toInt ≤ (ρ 32 i).toInt)
def ef9 (ρ : RH) (d kn te : Int32) (i : Nat) : Bool := !decide (cm9 ρ kn i = -1) && (decide ((cm9 ρ kn i).toInt ≤ d.toInt) && (decide (((ρ 24 i) >>> (te &&& 31)) &&& 1 = 1) && (!ov9 ρ d i && (!sk9 ρ d kn i && !su9 ρ d kn i))))
theorem s_isInEffect {n i : Nat} {ρ : RH} {d kn te : Int32} {post : Int32 → Prop} (hd : WD n ρ) (hn : n ≤ 40) (hi : i < n) (k : post (bI (ef9 ρ d kn te i = true))) : wpX7_isInEffect ρ (nI i) d kn te post := by
  have hc : (nI i).toNatClampNeg = i := cl_n (by omega)
  have hv : vp_in (nI i) 40 := vi_n (by omega) (by decide)
  have L : ∀ o s u : Bool, ov9 ρ d i = o → sk9 ρ d kn i = s → su9 ρ d kn i = u → jX7_isInEffect_104 (nI i) d kn te post ρ (cm9 ρ kn i) (bI (o = true)) (bI (s = true)) (bI (u = true)) := by
    intro o s u ho hs hu
    unfold ef9 at k
    rw [ho, hs, hu] at k
    unfold jX7_isInEffect_104
    by_cases c : cm9 ρ kn i = -1
    · rw [if_pos (by rw [c]; exact ti_m1)]
      rw [bI_f (by simp [c])] at k
      exact k
    · rw [if_neg (fun t => c (ti_eq.mp (t.trans ti_m1.symm)))]
      by_cases c1 : (cm9 ρ kn i).toInt ≤ d.toInt
      · rw [if_pos c1]
        refine ⟨hv, ?_⟩
        rw [hc]
        have t1 : (1 : Int32).toInt = 1 := by decide
        by_cases c2 : ((ρ 24 i) >>> (te &&& 31)) &&& 1 = 1
        · rw [if_pos (by rw [c2]; exact t1)]
          cases o <;> cases s <;> cases u <;> simp [bI, c, c1, c2, z0I, t1] at k ⊢ <;> exact k
        · rw [if_neg (fun t => c2 (ti_eq.mp (t.trans t1.symm)))]
          rw [bI_f (by simp [c2])] at k
          exact k
      · rw [if_neg c1]
        rw [bI_f (by simp [c1])] at k
        exact k
  have L2 : ∀ o s : Bool, ov9 ρ d i = o → sk9 ρ d kn i = s → jX7_isInEffect_64 (nI i) d kn te post ρ (cm9 ρ kn i) (bI (o = true)) (bI (s = true)) := by
    intro o s ho hs
    unfold jX7_isInEffect_64
    refine ⟨hv, ?_⟩
    rw [hc]
    refine s_isKnown ?_
    cases hk : kn9 (ρ 30 i) kn with
    | false =>
      rw [bI_f (by decide), if_pos z0I]
      have := L o s false ho hs (by simp [su9, hk])
      rw [show bI (false = true) = 0 from bI_f (by decide)] at this
      exact this
    | true =>
      rw [bI_t rfl, if_neg z1I]
      refine ⟨hv, hv, s_isIn ?_⟩
      by_cases q : (ρ 31 i).toInt ≤ d.toInt ∧ d.toInt ≤ (ρ 32 i).toInt
      · rw [bI_t q, if_neg z1I]
        exact L o s true ho hs (by simp [su9, hk, q])
      · rw [bI_f q, if_pos z0I]
        exact L o s false ho hs (by simp only [su9, hk, Bool.true_and, decide_eq_false_iff_not]; exact q)
  have L3 : ∀ o : Bool, ov9 ρ d i = o → jX7_isInEffect_33 (nI i) d kn te post ρ (cm9 ρ kn i) (bI (o = true)) := by
    intro o ho
    unfold jX7_isInEffect_33
    refine ⟨hv, ?_⟩
    rw [hc]
    refine s_isKnown ?_
    cases hk : kn9 (ρ 28 i) kn with
    | false =>
      rw [bI_f (by decide), if_pos z0I]
      exact L2 o false ho (by simp [sk9, hk])
    | true =>
      rw [bI_t rfl, if_neg z1I]
      refine ⟨hv, ?_⟩
      by_cases q : (ρ 29 i).toInt ≤ d.toInt
      · rw [if_pos q]
        exact L2 o true ho (by simp [sk9, hk, q])
      · rw [if_neg q]
        exact L2 o false ho (by simp [sk9, hk, q])
  unfold wpX7_isInEffect
  refine s_commencesBy hd hn hi ⟨hv, ?_⟩
  rw [hc]
  by_cases q : ρ 25 i = -1
  · rw [if_pos (by rw [q]; exact ti_m1)]
    exact L3 false (by simp [ov9, q])
  · rw [if_neg (fun t => q (ti_eq.mp (t.trans ti_m1.symm)))]
    refine ⟨hv, ?_⟩
    by_cases q2 : (ρ 25 i).toInt ≤ d.toInt
    · rw [if_pos q2]
      exact L3 true (by simp [ov9, q, q2])
    · rw [if_neg q2]
      exact L3 false (by simp [ov9, q2])
