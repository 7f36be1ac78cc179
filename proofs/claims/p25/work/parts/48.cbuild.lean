/-! The class builds a view: beginnings, the order, what is in effect. -/
theorem bg9_fuel {n np : Nat} {ρ : RH} {kn : Int32} (hD : DAT n np ρ) : ∀ (f i : Nat), i < f → i < n → bg9 ρ kn f i = bg9 ρ kn (i + 1) i := by
  intro f
  induction f using Nat.strongRecOn with
  | _ f ih =>
    intro i hi hin
    obtain ⟨g, rfl⟩ : ∃ g, f = g + 1 := ⟨f - 1, by omega⟩
    show (if ρ 22 i = 2 then bg9 ρ kn g (ρ 23 i).toNatClampNeg else _) = (if ρ 22 i = 2 then bg9 ρ kn i (ρ 23 i).toNatClampNeg else _)
    by_cases c2 : ρ 22 i = 2
    · rw [if_pos c2, if_pos c2]
      obtain ⟨w, hw, e⟩ := (hD.wd i hin).1 c2
      have hn := hD.1
      rw [e, cl_n (by omega), ih g (by omega) w (by omega) (by omega)]
      by_cases q : i = g
      · subst q; exact (ih i (by omega) w hw (by omega)).symm
      · exact (ih i (by omega) w hw (by omega)).symm
    · rw [if_neg c2, if_neg c2]
theorem cm9_rec {n np i : Nat} {ρ : RH} {kn : Int32} (hD : DAT n np ρ) (hi : i < n) : cm9 ρ kn i = if (ρ 2 (ρ 14 i).toNatClampNeg).toInt ≤ kn.toInt then (if ρ 22 i = 2 then cm9 ρ kn (ρ 23 i).toNatClampNeg else if ρ 22 i = 0 then ρ 23 i else if kn9 (ρ 26 i) kn = true then ρ 27 i else -1) else -1 := by
  by_cases c : (ρ 2 (ρ 14 i).toNatClampNeg).toInt ≤ kn.toInt
  · rw [if_pos c]
    unfold cm9
    rw [if_pos c]
    show (if ρ 22 i = 2 then bg9 ρ kn i (ρ 23 i).toNatClampNeg else _) = _
    by_cases c2 : ρ 22 i = 2
    · rw [if_pos c2, if_pos c2]
      obtain ⟨w, hw, e⟩ := (hD.wd i hi).1 c2
      have hn := hD.1
      have hm := hD.2.2.2.2.2.2 w i (by omega) hi
      rw [e, cl_n (by omega), if_pos (by omega), bg9_fuel hD i w hw (by omega)]
    · rw [if_neg c2, if_neg c2]
  · rw [if_neg c]
    unfold cm9
    rw [if_neg c]
theorem s_isGiven {σ : SG} {ν : NU} {o : Nat} {post : Int32 → Prop} (ho : o < 3 * ν 99 0 0) (k : post (bI (σ 6 o 0 ≠ -1))) : wpX1_isGiven σ ν o post := by
  refine ⟨ho, ?_⟩
  by_cases c : σ 6 o 0 = -1
  · rw [if_pos (by rw [c]; exact ti_m1)]
    rw [bI_f (fun q => q c)] at k
    exact k
  · rw [if_neg (fun z => c (ti_eq.mp (z.trans ti_m1.symm)))]
    rw [bI_t c] at k
    exact k
theorem s_isKnownOn {σ : SG} {ν : NU} {o : Nat} {kn : Int32} {post : Int32 → Prop} (ho : o < 3 * ν 99 0 0) (k : post (bI (kn9 (σ 6 o 0) kn = true))) : wpX1_isKnownOn σ ν o kn post := by
  refine ⟨ho, s_isGiven ho ?_⟩
  by_cases c : σ 6 o 0 = -1
  · rw [bI_f (fun q => q c), if_pos z0I]
    rw [bI_f (by simp [kn9, c])] at k
    exact k
  · rw [bI_t c, if_neg z1I]
    by_cases d : (σ 6 o 0).toInt ≤ kn.toInt
    · rw [if_pos d]
      rw [bI_t (by simp [kn9, c, d])] at k
      exact k
    · rw [if_neg d]
      rw [bI_f (by simp [kn9, d])] at k
      exact k
theorem s_covers {σ : SG} {ν : NU} {o : Nat} {d kn : Int32} {post : Int32 → Prop} (ho : o < 3 * ν 99 0 0) (k : post (bI ((kn9 (σ 6 o 0) kn && decide ((σ 6 o 1).toInt ≤ d.toInt ∧ d.toInt ≤ (σ 6 o 2).toInt)) = true))) : wpX1_covers σ ν o d kn post := by
  refine ⟨ho, s_isKnownOn ho ?_⟩
  cases hk : kn9 (σ 6 o 0) kn with
  | false =>
    rw [show bI (false = true) = 0 from bI_f (by decide), if_pos z0I]
    rw [hk, Bool.false_and, show bI (false = true) = 0 from bI_f (by decide)] at k
    exact k
  | true =>
    rw [show bI (true = true) = 1 from bI_t rfl, if_neg z1I]
    rw [hk, Bool.true_and] at k
    by_cases c1 : (σ 6 o 1).toInt ≤ d.toInt
    · rw [if_pos c1]
      by_cases c2 : d.toInt ≤ (σ 6 o 2).toInt
      · rw [if_pos c2]
        rw [bI_t (by simp [c1, c2])] at k
        exact k
      · rw [if_neg c2]
        rw [bI_f (by simp [c2])] at k
        exact k
    · rw [if_neg c1]
      rw [bI_f (by simp [c1])] at k
      exact k
theorem s_beginningOf {σ : SG} {ν : NU} {v i : Nat} {post : Int32 → Prop} (hv : v < 2) (hi : i < 40) (k : post (σ 11 v i)) : wpX5_beginningOf σ ν v (nI i) post := by
  have hc : (nI i).toNatClampNeg = i := cl_n (by omega)
  unfold wpX5_beginningOf
  rw [ti_n (by omega), if_neg (by omega), hc]
  refine ⟨hv, ?_⟩
  rw [if_pos (by omega)]
  exact ⟨vi_n hi (by decide), k⟩
theorem s_findBeginning {σ : SG} {ν : NU} {v n np i : Nat} {ρ : RH} {kn : Int32} {post : Int32 → Prop} (hv : v < 2) (hD : DAT n np ρ) (hC : CDT σ ν ρ n) (hi : i < n) (hk : σ 1 v 11 = kn) (hb : ∀ w, w < i → σ 11 v w = cm9 ρ kn w) (k : post (cm9 ρ kn i)) : wpX5_findBeginning σ ν v i post := by
  obtain ⟨-, -, c2, -, -, -, -, -, -, c9, c10, c11, -, -, c14, c15, -⟩ := hC.2 i hi
  have hn := hC.1
  have h40 := hD.1
  rw [cm9_rec hD hi] at k
  unfold wpX5_findBeginning
  rw [c2, hk, c10, c11]
  refine ⟨by omega, hv, ?_⟩
  by_cases c : (ρ 2 (ρ 14 i).toNatClampNeg).toInt ≤ kn.toInt
  · rw [if_pos c] at k ⊢
    refine ⟨c9, ?_⟩
    by_cases q0 : ρ 22 i = 0
    · rw [if_pos (by rw [q0]; exact z0I)]
      rw [if_neg (by rw [q0]; decide), if_pos q0] at k
      exact k
    rw [if_neg (fun z : (ρ 22 i).toInt = 0 => q0 ((ti_k (k := 0) (by decide)).mp z))]
    rw [if_neg q0] at k
    by_cases q1 : ρ 22 i = 1
    · rw [if_pos (by rw [q1]; decide)]
      rw [if_neg (by rw [q1]; decide)] at k
      refine s_isKnownOn (by omega) ?_
      rw [c14]
      cases hkn : kn9 (ρ 26 i) kn with
      | true =>
        rw [show bI (true = true) = 1 from bI_t rfl, if_neg z1I]
        rw [hkn, if_pos rfl] at k
        have : ρ 26 i ≠ -1 := fun e => by rw [e] at hkn; simp [kn9] at hkn
        rw [c15 this]
        exact k
      | false =>
        rw [show bI (false = true) = 0 from bI_f (by decide), if_pos z0I]
        rw [hkn, if_neg (by decide)] at k
        exact k
    rw [if_neg (fun z : (ρ 22 i).toInt = 1 => q1 ((ti_k (k := 1) (by decide)).mp z))]
    have q2 : ρ 22 i = 2 := by
      obtain ⟨-, -, -, -, -, -, -, -, -, -, ⟨h, h1, h2⟩, -⟩ := hD.2.2.2.2.1 i hi
      rw [h2] at q0 q1 ⊢
      rcases (show h = 0 ∨ h = 1 ∨ h = 2 by omega) with z | z | z <;> subst z
      · exact absurd rfl q0
      · exact absurd rfl q1
      · rfl
    obtain ⟨w, hw, e⟩ := (hD.wd i hi).1 q2
    rw [if_pos q2, e, cl_n (by omega)] at k
    rw [e]
    refine s_beginningOf hv (by omega) ?_
    rw [hb w hw]
    exact k
  · rw [if_neg c] at k ⊢
    exact k
theorem ti_5000 : (5000 : Int32).toInt = 5000 := by decide
theorem le_5000 {x y : Int} (h : y ≤ 5000) : (true && decide (x ≤ y ∧ y ≤ (5000 : Int32).toInt)) = (true && decide (x ≤ y)) := by
  rw [ti_5000]
  exact congrArg (fun z : Bool => true && z) (decide_eq_decide.mpr ⟨fun q => q.1, fun q => ⟨q, h⟩⟩)
theorem s_restC {σ : SG} {ν : NU} {v n np i : Nat} {ρ : RH} {d kn te : Int32} {post : Int32 → Prop} (hD : DAT n np ρ) (hC : CDT σ ν ρ n) (hi : i < n) (hd5 : d.toInt ≤ 5000)
    (k0 : sk9 ρ d kn i = true ∨ su9 ρ d kn i = true → post 0) (k1 : sk9 ρ d kn i = false → su9 ρ d kn i = false → post 1) : wpX1_covers σ ν (3 * i + 1) d kn (fun r10 => if r10.toInt = 0 then (wpX1_covers σ ν (3 * i + 2) d kn (fun r12 => if r12.toInt = 0 then post ((1 : Int32)) else post ((0 : Int32)))) else post ((0 : Int32))) := by
  obtain ⟨-, -, -, -, -, -, -, -, -, c9, -, -, c12, c13, -, -, c16, c17, c18, c19⟩ := hC.2 i hi
  have hn := hC.1
  refine s_covers (by omega) ?_
  have e1 : (kn9 (σ 6 (3 * i + 1) 0) kn && decide ((σ 6 (3 * i + 1) 1).toInt ≤ d.toInt ∧ d.toInt ≤ (σ 6 (3 * i + 1) 2).toInt)) = sk9 ρ d kn i := by
    unfold sk9
    rw [c16]
    cases hkn : kn9 (ρ 28 i) kn with
    | false => rw [Bool.false_and, Bool.false_and]
    | true =>
      have : ρ 28 i ≠ -1 := fun e => by rw [e] at hkn; simp [kn9] at hkn
      obtain ⟨a, b⟩ := c17 this
      rw [a, b]
      exact le_5000 hd5
  rw [e1]
  cases hs : sk9 ρ d kn i with
  | true =>
    rw [show bI (true = true) = 1 from bI_t rfl, if_neg z1I]
    exact k0 (Or.inl hs)
  | false =>
    rw [show bI (false = true) = 0 from bI_f (by decide), if_pos z0I]
    refine s_covers (by omega) ?_
    have e2 : (kn9 (σ 6 (3 * i + 2) 0) kn && decide ((σ 6 (3 * i + 2) 1).toInt ≤ d.toInt ∧ d.toInt ≤ (σ 6 (3 * i + 2) 2).toInt)) = su9 ρ d kn i := by
      unfold su9
      rw [c18]
      cases hkn : kn9 (ρ 30 i) kn with
      | false => rw [Bool.false_and, Bool.false_and]
      | true =>
        have : ρ 30 i ≠ -1 := fun e => by rw [e] at hkn; simp [kn9] at hkn
        obtain ⟨a, b⟩ := c19 this
        rw [a, b]
    rw [e2]
    cases hu : su9 ρ d kn i with
    | true =>
      rw [show bI (true = true) = 1 from bI_t rfl, if_neg z1I]
      exact k0 (Or.inr hu)
    | false =>
      rw [show bI (false = true) = 0 from bI_f (by decide), if_pos z0I]
      exact k1 hs hu
theorem s_isInEffectC {σ : SG} {ν : NU} {v n np i : Nat} {ρ : RH} {d kn te : Int32} {post : Int32 → Prop} (hv : v < 2) (hD : DAT n np ρ) (hC : CDT σ ν ρ n) (hi : i < n) (hd : σ 1 v 10 = d) (hk : σ 1 v 11 = kn) (ht : σ 1 v 12 = te) (hd5 : d.toInt ≤ 5000) (k : post (bI (ef9 ρ d kn te i = true))) : wpX5_isInEffect σ ν v i (cm9 ρ kn i) post := by
  obtain ⟨-, -, -, -, -, -, -, -, -, c9, -, -, c12, c13, -, -, c16, c17, c18, c19⟩ := hC.2 i hi
  have hn := hC.1
  unfold wpX5_isInEffect
  rw [hd, hk, ht]
  unfold ef9 at k
  by_cases q : cm9 ρ kn i = -1
  · rw [if_pos (by rw [q]; exact ti_m1)]
    rw [bI_f (by simp [q])] at k
    exact k
  rw [if_neg (fun z => q (ti_eq.mp (z.trans ti_m1.symm)))]
  refine ⟨hv, ?_⟩
  by_cases q2 : ¬ ((cm9 ρ kn i).toInt ≤ d.toInt)
  · rw [if_neg q2]
    rw [bI_f (by simp [q2])] at k
    exact k
  have q2 : (cm9 ρ kn i).toInt ≤ d.toInt := Decidable.byContradiction q2
  rw [if_pos q2]
  refine ⟨by omega, c9, c9, ?_⟩
  rw [c12]
  have t1 : (1 : Int32).toInt = 1 := by decide
  by_cases q3 : ¬ (((ρ 24 i) >>> (te &&& 31)) &&& 1 = 1)
  · rw [if_neg (fun z => q3 (ti_eq.mp (z.trans t1.symm)))]
    dsimp only
    rw [if_pos z0I]
    rw [bI_f (by simp [q3])] at k
    exact k
  have q3 : ((ρ 24 i) >>> (te &&& 31)) &&& 1 = 1 := Decidable.byContradiction q3
  rw [if_pos (by rw [q3]; exact t1)]
  dsimp only
  rw [if_neg z1I]
  -- the sunset
  have rest : ov9 ρ d i = false → wpX1_covers σ ν (3 * i + 1) d kn (fun r10 => if r10.toInt = 0 then (wpX1_covers σ ν (3 * i + 2) d kn (fun r12 => if r12.toInt = 0 then post ((1 : Int32)) else post ((0 : Int32)))) else post ((0 : Int32))) := by
    intro ho
    refine s_restC (v := v) (te := te) hD hC hi hd5 (fun h => ?_) (fun h1 h2 => ?_)
    · rw [bI_f (by rcases h with h | h <;> simp [h])] at k
      exact k
    · rw [bI_t (by simp [q, q2, q3, ho, h1, h2])] at k
      exact k
  refine ⟨c9, ?_⟩
  rw [c13]
  by_cases q4 : ρ 25 i = -1
  · rw [if_pos (by rw [q4]; exact ti_m1)]
    dsimp only
    rw [if_pos z0I]
    exact rest (by simp [ov9, q4])
  rw [if_neg (fun z => q4 (ti_eq.mp (z.trans ti_m1.symm)))]
  by_cases q5 : (ρ 25 i).toInt ≤ d.toInt
  · rw [if_pos q5]
    dsimp only
    rw [if_neg z1I]
    rw [bI_f (by simp [ov9, q4, q5])] at k
    exact k
  · rw [if_neg q5]
    dsimp only
    rw [if_pos z0I]
    exact rest (by simp [ov9, q5])
/-! the list of those in effect -/
def LS9 (σ : SG) (ν : NU) (o : Nat) (T : List Nat) : Prop := σ 7 o 2 = nI T.length ∧ okc ν o T.length ∧ ∀ k (h : k < T.length), ν 8 o k = T[k] + 1
theorem ins8_at {b : Nat → Int} {i : Nat} : ∀ {pre post : List Nat}, (∀ x ∈ pre, b x ≤ b i) → (∀ x, post.head? = some x → b i < b x) → ins8 b i (pre ++ post) = pre ++ i :: post
  | [], [], _, _ => rfl
  | [], y :: post, _, h => by
    have := h y rfl
    simp only [List.nil_append, ins8, if_pos this]
  | x :: pre, post, h1, h2 => by
    have := h1 x List.mem_cons_self
    have ih := ins8_at (b := b) (i := i) (pre := pre) (post := post) (fun y hy => h1 y (List.mem_cons_of_mem _ hy)) h2
    simp only [List.cons_append, ins8, if_neg (show ¬ b i < b x by omega), ih]
theorem s_takeTurn {σ : SG} {ν : NU} {v n np i : Nat} {ρ : RH} {kn : Int32} {T : List Nat} {post : SG → NU → Prop} (hv : v < 2) (hD : DAT n np ρ) (hC : CDT σ ν ρ n) (hi : i < n) (hL : LS9 σ ν (1 + v) T) (hT : ∀ x ∈ T, x < i) (hs : T.Pairwise (ah9 (bi9 ρ kn))) (hb : ∀ w, w < n → w ≤ i → σ 11 v w = cm9 ρ kn w) (hTl : T.length < 40)
    (k : ∀ σ' ν', LS9 σ' ν' (1 + v) (ins8 (bi9 ρ kn) i T) → (∀ a b, ¬ (a = 7 ∧ b = 1 + v) → σ' a b = σ a b) → (∀ a b, ¬ ((a = 7 ∨ a = 8) ∧ b = 1 + v) → ν' a b = ν a b) → (∀ z, (∀ j, ν 8 (1 + v) j ≤ z) → i + 1 ≤ z → ∀ j, ν' 8 (1 + v) j ≤ z) → post σ' ν') : wpX5_takeTurn σ ν v i (cm9 ρ kn i) post := by
  obtain ⟨l1, ⟨l2, l3, l4, l5, l6⟩, l7⟩ := id hL
  have hn := hC.1
  have h40 := hD.1
  refine ⟨hv, by omega, ?_⟩
  rw [l1]
  refine ⟨T.length + 1, ?_⟩
  -- it goes in at the place t
  have go : ∀ t, t ≤ T.length → (∀ x ∈ T.take t, bi9 ρ kn x ≤ bi9 ρ kn i) → (∀ x, (T.drop t).head? = some x → bi9 ρ kn i < bi9 ρ kn x) → jX5_takeTurn_42 v i (cm9 ρ kn i) post σ ν (nI t) := by
    intro t ht h1 h2
    refine ⟨hv, by omega, by omega, by omega, T.length, t, l1, rfl, ht, ⟨l2, l3, l4, l5, l6⟩, fun σ1 ν1 ν2 e1 hg e2 => ?_⟩
    obtain ⟨g1, g2, g3, g4⟩ := hg
    have hins : ins8 (bi9 ρ kn) i T = T.take t ++ i :: T.drop t := by
      have := ins8_at (b := bi9 ρ kn) (i := i) (pre := T.take t) (post := T.drop t) h1 h2
      rwa [List.take_append_drop] at this
    have hlen : (ins8 (bi9 ρ kn) i T).length = T.length + 1 := ins8_len
    have n7 : ν2 7 = ν1 7 := by funext b; rw [e2, u3_oth (fun z => by omega), r3_oth (fun z => by omega)]
    have n8 : ∀ j, ν2 8 (1 + v) j = if j = t then i + 1 else va_cpy (ν1 8 (1 + v)) (ν1 8 (1 + v)) t (t + 1) (T.length - t) j := fun j => by
      rw [e2]
      by_cases q : j = t
      · subst q; simp [u3]
      · rw [if_neg q]
        simp only [u3, r3, q, and_false, if_false, and_self, if_true]
    have n99 : ν2 99 = ν 99 := by
      funext b c
      rw [e2, u3_oth (fun z => by omega), r3_oth (fun z => by omega)]
      exact g4 99 b c (fun z => by omega) (fun z => by omega)
    have v8 : ∀ j (h : j < (ins8 (bi9 ρ kn) i T).length), ν2 8 (1 + v) j = (ins8 (bi9 ρ kn) i T)[j] + 1 := by
      intro j hj
      rw [hlen] at hj
      rw [n8]
      have htl : (T.take t).length = t := by rw [List.length_take]; omega
      simp only [hins]
      by_cases q : j = t
      · subst q
        rw [if_pos rfl, List.getElem_append_right (by omega)]
        simp [htl]
      · rw [if_neg q]
        by_cases q2 : j < t
        · rw [List.getElem_append_left (by omega), List.getElem_take]
          simp only [va_cpy]
          rw [if_neg (by omega), g2 j (by omega), l7 j (by omega)]
        · rw [List.getElem_append_right (by omega)]
          simp only [va_cpy]
          rw [if_pos (by omega), g2 (t + (j - (t + 1))) (by omega), l7 (t + (j - (t + 1))) (by omega)]
          obtain ⟨m, hm⟩ : ∃ m, j - (T.take t).length = m + 1 := ⟨j - t - 1, by omega⟩
          simp only [hm, List.getElem_cons_succ, List.getElem_drop]
          congr 1
          exact get_eq9 (by omega) _ _
    have bnd : ∀ z, (∀ j, ν 8 (1 + v) j ≤ z) → i + 1 ≤ z → ∀ j, ν2 8 (1 + v) j ≤ z := by
      intro z hz hiz j
      have h9 : ∀ j, ν1 8 (1 + v) j ≤ z := fun j => by
        rcases g3 j with q | q
        · rw [q]; exact hz j
        · rw [q]; exact Nat.zero_le _
      rw [n8]
      by_cases q : j = t
      · rw [if_pos q]; exact hiz
      · rw [if_neg q]
        simp only [va_cpy]
        split
        · exact h9 _
        · exact h9 _
    refine k σ1 ν2 ⟨?_, ⟨?_, ?_, ?_, ?_, ?_⟩, v8⟩ (fun a b z => by rw [e1, u3_oth z, u3_oth z]) (fun a b z => ?_) bnd
    · rw [e1, hlen, u3_at, if_pos rfl]
    · rw [hlen, n7, g1]
      split
      · omega
      · unfold capn
        split <;> omega
    · rw [n7, g1]
      split
      · omega
      · unfold capn
        split <;> omega
    · rw [n7, g1]
      split
      · omega
      · unfold capn
        split <;> omega
    · rw [hlen]; omega
    · intro j hj
      rw [v8 j hj, n99]
      have hm : (ins8 (bi9 ρ kn) i T)[j] ∈ ins8 (bi9 ρ kn) i T := List.getElem_mem hj
      rcases ins8_mem.mp hm with q | q
      · rw [q]; omega
      · have := hT _ q; omega
    · funext c
      rw [e2, u3_oth (fun q => z ⟨Or.inr q.1, q.2⟩), r3_oth (fun q => z ⟨Or.inr q.1, q.2⟩)]
      exact g4 a b c (fun q => z ⟨Or.inl q.1, q.2.1⟩) (fun q => z ⟨Or.inr q.1, q.2⟩)
  have key : ∀ t, t ≤ T.length → (∀ x ∈ T.drop t, bi9 ρ kn i < bi9 ρ kn x) → wX5_takeTurn_8 v i (cm9 ρ kn i) post (t + 1) σ ν (nI t) := by
    intro t
    induction t with
    | zero =>
      intro ht h
      unfold wX5_takeTurn_8
      rw [ti_n (by omega), if_pos (by omega)]
      refine go 0 (by omega) (fun x hx => absurd hx (by simp)) (fun x hx => h x ?_)
      exact List.mem_of_mem_head? (by rw [hx]; rfl)
    | succ t ih =>
      intro ht h
      have htl : t < T.length := by omega
      unfold wX5_takeTurn_8
      rw [ti_n (by omega), if_neg (by omega), pk_m1, li1, pk_sub (by omega), Nat.add_sub_cancel]
      have hct : (nI t).toNatClampNeg = t := cl_n (by omega)
      refine ⟨hv, by omega, by rw [ti_n (by omega)]; omega, by rw [ti_n (by omega), l1, ti_n (by omega)]; omega, vi_n (by omega) (by omega), by rw [hct, l7 t htl]; omega, ?_⟩
      rw [hct, l7 t htl, Nat.add_sub_cancel]
      have hx := hT _ (List.getElem_mem htl)
      refine ⟨by omega, ?_⟩
      obtain ⟨cx, -⟩ := hC.2 T[t] (by omega)
      rw [cx]
      refine s_beginningOf hv (by omega) ?_
      rw [hb T[t] (by omega) (by omega)]
      by_cases c : (cm9 ρ kn T[t]).toInt ≤ (cm9 ρ kn i).toInt
      · rw [if_pos c]
        refine go (t + 1) ht (fun x hx => ?_) (fun x hx => h x (List.mem_of_mem_head? (by rw [hx]; rfl)))
        rw [List.take_succ_eq_append_getElem htl] at hx
        rcases List.mem_append.mp hx with q | q
        · have hs2 : (T.take t ++ T.drop t).Pairwise (ah9 (bi9 ρ kn)) := by rw [List.take_append_drop]; exact hs
          have := (List.pairwise_append.mp hs2).2.2 x q T[t] (by rw [List.drop_eq_getElem_cons htl]; exact List.mem_cons_self)
          unfold ah9 bi9 at *
          omega
        · have e : x = T[t] := by simpa using q
          rw [e]
          exact c
      · rw [if_neg c]
        refine ih (by omega) (fun x hx => ?_)
        rw [List.drop_eq_getElem_cons htl] at hx
        rcases List.mem_cons.mp hx with q | q
        · rw [q]; unfold bi9; omega
        · exact h x q
  exact key T.length (Nat.le_refl _) (fun x hx => absurd hx (by rw [List.drop_of_length_le (Nat.le_refl _)]; exact List.not_mem_nil))
