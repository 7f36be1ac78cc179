/-! The class's view against the code as functions; what the class does by one instruction. -/
def CI (σ : SG) (ν : NU) (ρ : RH) (i : Nat) : Prop :=
  σ 3 i 0 = nI i ∧ σ 3 i 1 = ρ 14 i ∧ σ 3 i 2 = ρ 2 (ρ 14 i).toNatClampNeg ∧ σ 3 i 3 = ρ 13 i ∧ σ 3 i 4 = ρ 15 i ∧ (ρ 13 i = 0 ∨ ρ 13 i = 5 → σ 3 i 5 = ρ 16 i) ∧ (ρ 13 i = 0 ∨ ρ 13 i = 4 → σ 3 i 6 = ρ 17 i) ∧
  PH σ (2 * i) (sw9 ρ i) ∧ PH σ (2 * i + 1) (aw9 ρ i) ∧ ν 3 i 7 < ν 99 0 1 ∧ σ 5 (ν 3 i 7) 0 = ρ 22 i ∧ σ 5 (ν 3 i 7) 1 = ρ 23 i ∧ σ 5 (ν 3 i 7) 2 = ρ 24 i ∧ σ 5 (ν 3 i 7) 3 = ρ 25 i ∧
  σ 6 (3 * i) 0 = ρ 26 i ∧ (ρ 26 i ≠ -1 → σ 6 (3 * i) 1 = ρ 27 i) ∧ σ 6 (3 * i + 1) 0 = ρ 28 i ∧ (ρ 28 i ≠ -1 → σ 6 (3 * i + 1) 1 = ρ 29 i ∧ σ 6 (3 * i + 1) 2 = 5000) ∧
  σ 6 (3 * i + 2) 0 = ρ 30 i ∧ (ρ 30 i ≠ -1 → σ 6 (3 * i + 2) 1 = ρ 31 i ∧ σ 6 (3 * i + 2) 2 = ρ 32 i)
def CDT (σ : SG) (ν : NU) (ρ : RH) (n : Nat) : Prop := n < ν 99 0 0 ∧ ∀ i, i < n → CI σ ν ρ i
/-- the data's rows are as they were -/
def frD (σ σ' : SG) : Prop := ∀ a b, (a = 3 ∨ a = 4 ∨ a = 5 ∨ a = 6 ∨ a = 22) → σ' a b = σ a b
theorem frD.rf {σ : SG} : frD σ σ := fun _ _ _ => rfl
theorem frD.tr {a b c : SG} (h1 : frD a b) (h2 : frD b c) : frD a c := fun x y h => (h2 x y h).trans (h1 x y h)
theorem PH.same {σ σ' : SG} {ph : Nat} {s : List Int32} (h : PH σ ph s) (g : frD σ σ') : PH σ' ph s := by
  unfold PH at *
  rw [g 4 ph (by omega), g 22 ph (by omega)]
  exact h
theorem CDT.same {σ σ' : SG} {ν ν' : NU} {ρ : RH} {n : Nat} (h : CDT σ ν ρ n) (g : frD σ σ') (g3 : ν' 3 = ν 3) (g99 : ν' 99 = ν 99) : CDT σ' ν' ρ n := by
  refine ⟨by rw [g99]; exact h.1, fun i hi => ?_⟩
  have := h.2 i hi
  unfold CI at *
  rw [g3, g99, g 3 i (by omega), g 5 _ (by omega), g 6 (3 * i) (by omega), g 6 (3 * i + 1) (by omega), g 6 (3 * i + 2) (by omega)]
  obtain ⟨a1, a2, a3, a4, a5, a6, a7, a8, a9, a10⟩ := this
  exact ⟨a1, a2, a3, a4, a5, a6, a7, a8.same g, a9.same g, a10⟩
def VC (σ : SG) (ν : NU) (v n : Nat) (ρ : RH) (eff : Nat → Bool) (C : CS) : Prop :=
  (∀ p, p < 20 → (C.1 p = false → σ 14 v p = -1) ∧ (C.1 p = true → σ 14 v p = C.2.1 p ∧ σ 15 v p = C.2.2.1 p ∧ CX σ (21 * v + 1 + p) (C.2.2.2.1 p))) ∧
  (∀ i, i < n → σ 12 v i = C.2.2.2.2.1 i) ∧
  (∀ i, i < n → eff i = true → (ρ 13 i).toInt ≤ 2 → (if ν 13 v i = 0 then 2 * i + 1 else ν 13 v i - 1) < 2 * n ∧ PH σ (if ν 13 v i = 0 then 2 * i + 1 else ν 13 v i - 1) (C.2.2.2.2.2 i))
/-- what a view's doing leaves -/
def frV (v : Nat) (σ σ' : SG) : Prop := ∀ a b, ¬ ((a = 14 ∨ a = 15) ∧ b = v) → ¬ ((a = 2 ∨ a = 20 ∨ a = 21) ∧ 21 * v ≤ b ∧ b ≤ 21 * v + 20) → σ' a b = σ a b
theorem frV.rf {v : Nat} {σ : SG} : frV v σ σ := fun _ _ _ _ => rfl
theorem frV.tr {v : Nat} {a b c : SG} (h1 : frV v a b) (h2 : frV v b c) : frV v a c := fun x y p q => (h2 x y p q).trans (h1 x y p q)
theorem frV.of {v t : Nat} {σ σ' : SG} (g : lgC t σ σ') (h1 : 21 * v ≤ t) (h2 : t ≤ 21 * v + 20) : frV v σ σ' := fun a b p q =>
  g a b (fun z => q ⟨Or.inl z.1, by omega, by omega⟩) (fun z => q ⟨Or.inr (Or.inl z.1), by omega, by omega⟩) (fun z => q ⟨Or.inr (Or.inr z.1), by omega, by omega⟩)
theorem frV.d {v : Nat} {σ σ' : SG} (g : frV v σ σ') : frD σ σ' := fun a b h => g a b (fun z => by omega) (fun z => by omega)
def frN (v : Nat) (ν ν' : NU) : Prop := (∀ a b, ¬ (a = 13 ∧ b = v) → ν' a b = ν a b) ∧ ∀ i, ν' 13 v i = ν 13 v i ∨ ν' 13 v i ≤ 2 * ν 99 0 0
theorem frN.rf {v : Nat} {ν : NU} : frN v ν ν := ⟨fun _ _ _ => rfl, fun _ => Or.inl rfl⟩
theorem u3_at {σ : SG} {a b c k : Nat} {x : Int32} : u3 σ a b c x a b k = if k = c then x else σ a b k := by simp [u3]
/-- nothing of the view was touched -/
theorem VC.same {σ σ' : SG} {ν : NU} {v n : Nat} {ρ : RH} {eff : Nat → Bool} {C : CS} (h : VC σ ν v n ρ eff C) (g : frD σ σ') (g14 : σ' 14 v = σ 14 v) (g15 : σ' 15 v = σ 15 v) (g12 : σ' 12 v = σ 12 v) (gt : ∀ b, 21 * v ≤ b → b ≤ 21 * v + 20 → σ' 2 b = σ 2 b ∧ σ' 20 b = σ 20 b ∧ σ' 21 b = σ 21 b) : VC σ' ν v n ρ eff C := by
  refine ⟨fun p hp => ?_, fun i hi => by rw [g12]; exact h.2.1 i hi, fun i hi he hk => ⟨(h.2.2 i hi he hk).1, (h.2.2 i hi he hk).2.same g⟩⟩
  rw [g14, g15]
  obtain ⟨h1, h2⟩ := h.1 p hp
  refine ⟨h1, fun ht => ⟨(h2 ht).1, (h2 ht).2.1, ?_⟩⟩
  obtain ⟨e1, e2, e3⟩ := gt (21 * v + 1 + p) (by omega) (by omega)
  have := (h2 ht).2.2
  unfold CX at *
  rw [e1, e2, e3]
  exact this
theorem VC.tx {σ σ' : SG} {ν : NU} {v n p : Nat} {ρ : RH} {eff : Nat → Bool} {C : CS} {t : TXT} (h : VC σ ν v n ρ eff C) (hv : v < 2) (hp : p < 20) (hx : CX σ' (21 * v + 1 + p) t) (g : lgC (21 * v + 1 + p) σ σ') : VC σ' ν v n ρ eff (cTx C p t) := by
  have gd : frD σ σ' := (frV.of (v := v) g (by omega) (by omega)).d
  have r : ∀ a b, a ≠ 2 → a ≠ 20 → a ≠ 21 → σ' a b = σ a b := fun a b h1 h2 h3 => g a b (fun z => h1 z.1) (fun z => h2 z.1) (fun z => h3 z.1)
  refine ⟨fun q hq => ?_, fun i hi => by rw [r 12 v (by decide) (by decide) (by decide)]; exact h.2.1 i hi, fun i hi he hk => ⟨(h.2.2 i hi he hk).1, (h.2.2 i hi he hk).2.same gd⟩⟩
  rw [r 14 v (by decide) (by decide) (by decide), r 15 v (by decide) (by decide) (by decide)]
  obtain ⟨h1, h2⟩ := h.1 q hq
  refine ⟨h1, fun ht => ⟨(h2 ht).1, (h2 ht).2.1, ?_⟩⟩
  show CX σ' (21 * v + 1 + q) (va_up C.2.2.2.1 p t q)
  by_cases e : q = p
  · rw [e, va_up_self]; exact hx
  · rw [va_up_ne _ _ e]; exact (h2 ht).2.2.kept g (by omega)
theorem s_labelOf {σ : SG} {ν : NU} {v p : Nat} {post : Int32 → Prop} (hv : v < 2) (hp : p < 20) (k : post (σ 14 v p)) : wpX5_labelOf σ ν v (nI p) post := by
  have hc : (nI p).toNatClampNeg = p := cl_n (by omega)
  unfold wpX5_labelOf
  rw [ti_n (by omega), if_neg (by omega), hc]
  refine ⟨hv, ?_⟩
  rw [if_pos (by omega)]
  exact ⟨vi_n hp (by decide), k⟩
theorem s_labelOf_m {σ : SG} {ν : NU} {v : Nat} {post : Int32 → Prop} (k : post (-1)) : wpX5_labelOf σ ν v (-1) post := by
  unfold wpX5_labelOf
  rw [if_pos (by decide)]
  exact k
theorem s_outerOf {σ : SG} {ν : NU} {v p : Nat} {post : Int32 → Prop} (hv : v < 2) (hp : p < 20) (k : post (σ 15 v p)) : wpX5_outerOf σ ν v (nI p) post := by
  have hc : (nI p).toNatClampNeg = p := cl_n (by omega)
  unfold wpX5_outerOf
  rw [ti_n (by omega), if_neg (by omega), hc]
  refine ⟨hv, ?_⟩
  rw [if_pos (by omega)]
  exact ⟨vi_n hp (by decide), k⟩
theorem s_outerOf_any {σ : SG} {ν : NU} {v : Nat} {a : Int32} {post : Int32 → Prop} (hv : v < 2) (k : ∀ x, post x) : wpX5_outerOf σ ν v a post := by
  unfold wpX5_outerOf
  split
  · exact k _
  · next h =>
    refine ⟨hv, ?_⟩
    split
    · next h2 =>
      refine ⟨?_, k _⟩
      have e9 : (a.toNatClampNeg : Int) = a.toInt := Int.toNat_of_nonneg (by omega)
      have : a = nI a.toNatClampNeg := ti_inj (by rw [ti_n (by omega), e9])
      rw [this]
      exact vi_n (by omega) (by decide)
    · exact k _
theorem okl_m1 {x : Int32} (h : okl x) : x ≠ -1 := by
  obtain ⟨m, h1, h2, -, rfl⟩ := h
  exact nI_m1 (by omega)
theorem s_isThere {σ : SG} {ν : NU} {v n np p : Nat} {ρ ρ0 : RH} {J : List Nat} {eff : Nat → Bool} {C : CS} {post : Int32 → Prop} (hv : v < 2) (hV : VC σ ν v n ρ eff C) (hG : GD n np ρ0 J C) (hp : p < 20) (k : post (bI (C.1 p = true))) : wpX5_isThere σ ν v (nI p) post := by
  refine ⟨hv, s_labelOf hv hp ?_⟩
  obtain ⟨h1, h2⟩ := hV.1 p hp
  cases ht : C.1 p with
  | false =>
    rw [h1 ht, if_pos ti_m1]
    rw [ht, show bI (false = true) = 0 from bI_f (by decide)] at k
    exact k
  | true =>
    have := okl_m1 (hG.2.2.1 p hp ht)
    rw [(h2 ht).1, if_neg (fun q => this (ti_eq.mp (q.trans ti_m1.symm)))]
    rw [ht, show bI (true = true) = 1 from bI_t rfl] at k
    exact k
theorem s_isThere_m {σ : SG} {ν : NU} {v : Nat} {post : Int32 → Prop} (hv : v < 2) (k : post 0) : wpX5_isThere σ ν v (-1) post := by
  refine ⟨hv, s_labelOf_m ?_⟩
  rw [if_pos ti_m1]
  exact k
theorem s_mayHold {σ : SG} {ν : NU} {v n np p : Nat} {ρ ρ0 : RH} {J : List Nat} {eff : Nat → Bool} {C : CS} {o lab : Int32} {post : Int32 → Prop} (hv : v < 2) (hV : VC σ ν v n ρ eff C) (hG : GD n np ρ0 J C) (hp : p < 20) (ho : o = -1 ∨ ∃ q, q < 20 ∧ o = nI q) (hl : lab ≠ -1) (k : post (bI ((pl9 C o && !any9 (fh9 C o lab (nI p)) 20) = true))) : wpX5_mayHold σ ν v o lab (nI p) post := by
  have loop : pl9 C o = true → ∃ f, wX5_mayHold_18 v o lab (nI p) post f σ ν ((0 : Int32)) := by
    intro hpl
    rw [hpl, Bool.true_and] at k
    refine ⟨21, ?_⟩
    have key : ∀ d j, j + d = 20 → any9 (fh9 C o lab (nI p)) j = false → wX5_mayHold_18 v o lab (nI p) post (d + 1) σ ν (nI j) := by
      intro d
      induction d with
      | zero =>
        intro j hj ha
        have hj20 : j = 20 := by omega
        subst hj20
        unfold wX5_mayHold_18
        rw [ti_n (by omega), if_neg (by omega)]
        rw [ha, show bI ((!false) = true) = 1 from bI_t rfl] at k
        exact k
      | succ d ih =>
        intro j hj ha
        have hj20 : j < 20 := by omega
        have hc : (nI j).toNatClampNeg = j := cl_n (by omega)
        have hs : any9 (fh9 C o lab (nI p)) (j + 1) = (any9 (fh9 C o lab (nI p)) j || fh9 C o lab (nI p) j) := rfl
        have hno : fh9 C o lab (nI p) j = false → wX5_mayHold_18 v o lab (nI p) post (d + 1) σ ν (nI (j + 1)) := fun q => ih (j + 1) (by omega) (by rw [hs, ha, q]; rfl)
        unfold wX5_mayHold_18
        rw [ti_n (by omega), ti_n (by omega), if_pos (by omega), hc, li1, nI_add]
        by_cases e : j = p
        · rw [if_pos (by omega)]
          exact hno (by simp [fh9, e])
        · have e' : ¬ nI j = nI p := fun z => e (nI_inj (by omega) (by omega) z)
          rw [if_neg (by omega)]
          refine ⟨hv, vi_n hj20 (by decide), ?_⟩
          obtain ⟨h1, h2⟩ := hV.1 j hj20
          cases ht : C.1 j with
          | false =>
            rw [h1 ht, if_neg (fun q => hl (ti_eq.mp q).symm)]
            exact hno (by simp [fh9, ht])
          | true =>
            rw [(h2 ht).1, (h2 ht).2.1]
            by_cases c1 : C.2.1 j = lab
            · rw [if_pos (ti_eq.mpr c1)]
              refine ⟨vi_n hj20 (by decide), ?_⟩
              by_cases c2 : C.2.2.1 j = o
              · rw [if_pos (ti_eq.mpr c2)]
                have hy : any9 (fh9 C o lab (nI p)) 20 = true := any9_iff.mpr ⟨j, hj20, by simp [fh9, e', ht, c1, c2]⟩
                rw [hy, show bI ((!true) = true) = 0 from bI_f (by decide)] at k
                exact k
              · rw [if_neg (fun q => c2 (ti_eq.mp q))]
                exact hno (by simp [fh9, c2])
            · rw [if_neg (fun q => c1 (ti_eq.mp q))]
              exact hno (by simp [fh9, c1])
    exact key 20 0 rfl rfl
  unfold wpX5_mayHold
  rcases ho with rfl | ⟨q, hq, rfl⟩
  · rw [if_pos ti_m1]
    exact loop (by simp [pl9])
  · have hc : (nI q).toNatClampNeg = q := cl_n (by omega)
    have hm : nI q ≠ -1 := nI_m1 (by omega)
    rw [if_neg (fun z => hm (ti_eq.mp (z.trans ti_m1.symm)))]
    refine ⟨hv, s_isThere hv hV hG hq ?_⟩
    cases ht : C.1 q with
    | false =>
      rw [show bI (false = true) = 0 from bI_f (by decide), if_pos z0I]
      have : pl9 C (nI q) = false := by simp [pl9, hc, hm, ht]
      rw [this, Bool.false_and, show bI (false = true) = 0 from bI_f (by decide)] at k
      exact k
    | true =>
      rw [show bI (true = true) = 1 from bI_t rfl, if_neg z1I]
      exact loop (by simp [pl9, hc, ht])
/-- whichever it is -/
theorem s_within_any {σ : SG} {ν : NU} {v : Nat} {q : Int32} {post : Int32 → Prop} (hv : v < 2) (k0 : post 0) (k1 : post 1) (a : Int32) : wpX5_isWithin σ ν v a q post := by
  refine ⟨21, ?_⟩
  have key : ∀ d j, j + d = 20 → ∀ x, wX5_isWithin_5 v a q post (d + 1) σ ν x (nI j) := by
    intro d
    induction d with
    | zero =>
      intro j hj x
      unfold wX5_isWithin_5
      rw [ti_n (by omega), if_neg (by omega)]
      exact k0
    | succ d ih =>
      intro j hj x
      unfold wX5_isWithin_5
      rw [ti_n (by omega), if_pos (by omega), li1, nI_add]
      split
      · exact k0
      · split
        · exact k1
        · exact ⟨hv, s_outerOf_any hv (fun y => ih (j + 1) (by omega) y)⟩
  exact key 20 0 rfl a
theorem s_withinC {σ : SG} {ν : NU} {v q : Nat} {C : CS} {a : Int32} {post : Int32 → Prop} (hv : v < 2) (hO : ∀ p, p < 20 → C.1 p = true → σ 15 v p = C.2.2.1 p) (hq : q < 20) (ha : chT C 20 a) (k : post (bI (win9 C.2.2.1 20 a (nI q) = true))) : wpX5_isWithin σ ν v a (nI q) post := by
  have hqm : nI q ≠ -1 := nI_m1 (by omega)
  refine ⟨21, ?_⟩
  have key : ∀ d j, j + d = 20 → ∀ x, chT C d x → post (bI (win9 C.2.2.1 d x (nI q) = true)) → wX5_isWithin_5 v a (nI q) post (d + 1) σ ν x (nI j) := by
    intro d
    induction d with
    | zero =>
      intro j hj x hx hk
      have hx : x = -1 := hx
      subst hx
      unfold wX5_isWithin_5
      rw [ti_n (by omega), if_neg (by omega)]
      rw [show bI (win9 C.2.2.1 0 (-1) (nI q) = true) = 0 from bI_f (by simp [win9, Ne.symm hqm])] at hk
      exact hk
    | succ d ih =>
      intro j hj x hx hk
      unfold wX5_isWithin_5
      rw [ti_n (by omega), if_pos (by omega), li1, nI_add]
      rcases hx with rfl | ⟨p, hp, rfl, ht, hr⟩
      · rw [if_pos ti_m1]
        rw [show bI (win9 C.2.2.1 (d + 1) (-1) (nI q) = true) = 0 from bI_f (by simp [win9, Ne.symm hqm])] at hk
        exact hk
      · have hc : (nI p).toNatClampNeg = p := cl_n (by omega)
        have hm : nI p ≠ -1 := nI_m1 (by omega)
        rw [if_neg (fun t => hm (ti_eq.mp (t.trans ti_m1.symm)))]
        by_cases e : nI p = nI q
        · rw [if_pos (ti_eq.mpr e)]
          rw [show bI (win9 C.2.2.1 (d + 1) (nI p) (nI q) = true) = 1 from bI_t (by simp [win9, e])] at hk
          exact hk
        · rw [if_neg (fun t => e (ti_eq.mp t))]
          refine ⟨hv, s_outerOf hv hp ?_⟩
          rw [hO p hp ht]
          have e9 : win9 C.2.2.1 (d + 1) (nI p) (nI q) = win9 C.2.2.1 d (C.2.2.1 p) (nI q) := by simp [win9, e, hm, hc]
          rw [e9] at hk
          exact ih (j + 1) (by omega) _ hr hk
  exact key 20 0 rfl a ha k
