/-! The class's view is the code that the reference's view is; its list is the code in its order. -/
def frB (v : Nat) (σ σ' : SG) : Prop := ∀ a b c, ¬ (a = 1 ∧ b = v ∧ c = 9) → ¬ ((a = 2 ∨ a = 20 ∨ a = 21) ∧ 21 * v ≤ b ∧ b ≤ 21 * v + 20) → ¬ (a = 7 ∧ b = 1 + v) → ¬ ((a = 11 ∨ a = 12 ∨ a = 14 ∨ a = 15 ∨ a = 18) ∧ b = v) → σ' a b c = σ a b c
def frM (v : Nat) (ν ν' : NU) : Prop := ∀ a b, ¬ ((a = 7 ∨ a = 8) ∧ b = 1 + v) → ¬ (a = 13 ∧ b = v) → ν' a b = ν a b
/-- what the rows hold is there -/
def BD9 (v : Nat) (ν : NU) : Prop := (∀ i, ν 8 (1 + v) i ≤ ν 99 0 0) ∧ ∀ i, ν 13 v i ≤ 2 * ν 99 0 0
theorem frB.rf {v : Nat} {σ : SG} : frB v σ σ := fun _ _ _ _ _ _ _ => rfl
theorem frB.tr {v : Nat} {a b c : SG} (h1 : frB v a b) (h2 : frB v b c) : frB v a c := fun x y z p q r s => (h2 x y z p q r s).trans (h1 x y z p q r s)
theorem frM.rf {v : Nat} {ν : NU} : frM v ν ν := fun _ _ _ _ => rfl
theorem frM.tr {v : Nat} {a b c : NU} (h1 : frM v a b) (h2 : frM v b c) : frM v a c := fun x y p q => (h2 x y p q).trans (h1 x y p q)
theorem frB.d {v : Nat} {σ σ' : SG} (g : frB v σ σ') : frD σ σ' := fun a b h => by
  funext c
  exact g a b c (fun z => by omega) (fun z => by omega) (fun z => by omega) (fun z => by omega)
theorem frV.b {v : Nat} {σ σ' : SG} (g : frV v σ σ') : frB v σ σ' := fun a b c _ h2 _ h4 => by rw [g a b (fun z => h4 ⟨by omega, z.2⟩) h2]
theorem frN.m {v : Nat} {ν ν' : NU} (g : frN v ν ν') : frM v ν ν' := fun a b _ h => g.1 a b h
theorem frM.n99 {v : Nat} {ν ν' : NU} (g : frM v ν ν') : ν' 99 = ν 99 := by funext b; exact g 99 b (fun z => by omega) (fun z => by omega)
theorem frM.n3 {v : Nat} {ν ν' : NU} (g : frM v ν ν') : ν' 3 = ν 3 := by funext b; exact g 3 b (fun z => by omega) (fun z => by omega)
theorem clo_of {v : Nat} {ν ν' : NU} (h : clo ν) (g : frM v ν ν') (hb : BD9 v ν') : clo ν' := by
  obtain ⟨h1, h2, h3, h4⟩ := h
  have e99 := g.n99
  refine ⟨fun o i => ?_, fun w i => ?_, ?_, fun i hi => ?_⟩
  · by_cases c : o = 1 + v
    · rw [c]; exact hb.1 i
    · rw [g 8 o (fun z => c z.2) (fun z => by omega), e99]; exact h1 o i
  · by_cases c : w = v
    · rw [c]; exact hb.2 i
    · rw [g 13 w (fun z => by omega) (fun z => c z.2), e99]; exact h2 w i
  · rw [g 0 0 (fun z => by omega) (fun z => by omega), e99]; exact h3
  · rw [g.n3, e99]
    rw [e99] at hi
    exact h4 i hi
def VL9 (σ : SG) (ν : NU) (v : Nat) : Prop := ∃ m : Nat, σ 7 (1 + v) 2 = nI m ∧ m ≤ ν 7 (1 + v) 1 ∧ m ≤ 40 ∧ ν 7 (1 + v) 1 ≤ 60 ∧ ν 7 (1 + v) 1 ≠ 1
theorem LS9.vl {σ : SG} {ν : NU} {v : Nat} {T : List Nat} (h : LS9 σ ν (1 + v) T) : VL9 σ ν v := ⟨T.length, h.1, h.2.1.1, h.2.1.2.2.2.1, h.2.1.2.1, h.2.1.2.2.1⟩
theorem s_clearC {σ : SG} {ν : NU} {v : Nat} {post : SG → NU → Prop} (hv : v < 2) (hL : VL9 σ ν v) (hB : BD9 v ν)
    (k : ∀ σ' ν', frB v σ σ' → frM v ν ν' → BD9 v ν' → LS9 σ' ν' (1 + v) [] → σ' 1 v 9 = 0 → (∀ i, i < 40 → σ' 11 v i = -1 ∧ σ' 12 v i = 0 ∧ ν' 13 v i = 0) → (∀ p, p < 20 → σ' 14 v p = -1 ∧ σ' 15 v p = -1) → post σ' ν') : wpX5_clear σ ν v post := by
  obtain ⟨m, l1, l2, l3, l4, l5⟩ := hL
  refine ⟨hv, by omega, m, l1, l2, by omega, l4, fun σ1 ν1 e1 e2 t5 e5 => ?_⟩
  have gB1 : frB v σ t5 := fun a b c h1 _ h3 _ => by
    rw [e5]
    have : ¬ (a = 1 ∧ b = v ∧ c = 9) := h1
    simp only [u3, if_neg this]
    rw [e1, u3_oth h3, u3_oth h3]
  have gM1 : frM v ν ν1 := fun a b h1 _ => by rw [e2]; exact r3_oth (fun z => h1 ⟨Or.inr z.1, z.2⟩)
  have n99 := gM1.n99
  have n8 : ∀ j, ν1 8 (1 + v) j ≤ ν 99 0 0 := fun j => by
    rw [e2, r3_row]
    split
    · exact Nat.zero_le _
    · exact hB.1 j
  have n13 : ∀ j, ν1 13 v j ≤ 2 * ν 99 0 0 := fun j => by rw [e2, r3_oth (fun z => by omega)]; exact hB.2 j
  have n7 : ν1 7 = ν 7 := by funext b; rw [e2, r3_oth (fun z => by omega)]
  have s7 : t5 7 (1 + v) 2 = 0 := by rw [e5, u3_oth (fun z => by omega), e1, u3_at, if_pos rfl]
  have s9 : t5 1 v 9 = 0 := by rw [e5, u3_at, if_pos rfl]
  refine ⟨41, ?_⟩
  have lab : ∀ d j, j + d = 20 → ∀ (σ2 : SG) (ν2 : NU), frB v σ σ2 → frM v ν ν2 → BD9 v ν2 → LS9 σ2 ν2 (1 + v) [] → σ2 1 v 9 = 0 → (∀ i, i < 40 → σ2 11 v i = -1 ∧ σ2 12 v i = 0 ∧ ν2 13 v i = 0) → (∀ p, p < j → σ2 14 v p = -1 ∧ σ2 15 v p = -1) → wX5_clear_49 v post (d + 1) σ2 ν2 (nI j) := by
    intro d
    induction d with
    | zero =>
      intro j hj σ2 ν2 a1 a2 a3 a4 a5 a6 a7
      unfold wX5_clear_49
      rw [ti_n (by omega), if_neg (by omega)]
      exact k σ2 ν2 a1 a2 a3 a4 a5 a6 (fun p hp => a7 p (by omega))
    | succ d ih =>
      intro j hj σ2 ν2 a1 a2 a3 a4 a5 a6 a7
      have hc : (nI j).toNatClampNeg = j := cl_n (by omega)
      unfold wX5_clear_49
      rw [ti_n (by omega), if_pos (by omega), hc, nI_1]
      refine ⟨hv, vi_n (by omega) (by decide), fun t1 f1 => ⟨vi_n (by omega) (by decide), fun t2 f2 => ?_⟩⟩
      have go : ∀ a b, ¬ ((a = 14 ∨ a = 15) ∧ b = v) → t2 a b = σ2 a b := fun a b z => by rw [f2, u3_oth (fun q => z ⟨Or.inr q.1, q.2⟩), f1, u3_oth (fun q => z ⟨Or.inl q.1, q.2⟩)]
      refine ih (j + 1) (by omega) t2 ν2 (a1.tr (fun a b c _ _ _ h4 => by rw [go a b (fun z => h4 ⟨by omega, z.2⟩)])) a2 a3 (by unfold LS9 at *; rw [go 7 _ (fun z => by omega)]; exact a4) (by rw [go 1 v (fun z => by omega)]; exact a5) (fun i hi => by rw [go 11 v (fun z => by omega), go 12 v (fun z => by omega)]; exact a6 i hi) (fun p hp => ?_)
      have r14 : t2 14 v p = if p = j then -1 else σ2 14 v p := by rw [f2, u3_oth (fun z => by omega), f1, u3_at]
      have r15 : t2 15 v p = if p = j then -1 else σ2 15 v p := by rw [f2, u3_at, f1, u3_oth (fun z => by omega)]
      rw [r14, r15]
      by_cases q : p = j
      · rw [if_pos q, if_pos q]; exact ⟨rfl, rfl⟩
      · rw [if_neg q, if_neg q]; exact a7 p (by omega)
  have ins : ∀ d j, j + d = 40 → ∀ (σ2 : SG) (ν2 : NU), frB v σ σ2 → frM v ν ν2 → BD9 v ν2 → LS9 σ2 ν2 (1 + v) [] → σ2 1 v 9 = 0 → (∀ i, i < j → σ2 11 v i = -1 ∧ σ2 12 v i = 0 ∧ ν2 13 v i = 0) → wX5_clear_14 v post (d + 1) σ2 ν2 (nI j) := by
    intro d
    induction d with
    | zero =>
      intro j hj σ2 ν2 a1 a2 a3 a4 a5 a6
      unfold wX5_clear_14
      rw [ti_n (by omega), if_neg (by omega)]
      exact ⟨21, lab 20 0 rfl σ2 ν2 a1 a2 a3 a4 a5 (fun i hi => a6 i (by omega)) (fun p hp => absurd hp (Nat.not_lt_zero p))⟩
    | succ d ih =>
      intro j hj σ2 ν2 a1 a2 a3 a4 a5 a6
      have hc : (nI j).toNatClampNeg = j := cl_n (by omega)
      unfold wX5_clear_14
      rw [ti_n (by omega), if_pos (by omega), hc, nI_1]
      refine ⟨hv, vi_n (by omega) (by decide), fun t1 f1 => ⟨vi_n (by omega) (by decide), fun t2 f2 => ⟨vi_n (by omega) (by decide), fun w3 f3 => ?_⟩⟩⟩
      have go : ∀ a b, ¬ ((a = 11 ∨ a = 12) ∧ b = v) → t2 a b = σ2 a b := fun a b z => by rw [f2, u3_oth (fun q => z ⟨Or.inr q.1, q.2⟩), f1, u3_oth (fun q => z ⟨Or.inl q.1, q.2⟩)]
      have gn : ∀ a b, ¬ (a = 13 ∧ b = v) → w3 a b = ν2 a b := fun a b z => by rw [f3, u3_oth z]
      have r13 : ∀ i, w3 13 v i = if i = j then 0 else ν2 13 v i := fun i => by rw [f3]; simp [u3]
      have w99 : w3 99 = ν2 99 := by funext b; exact gn 99 b (fun z => by omega)
      refine ih (j + 1) (by omega) t2 w3 (a1.tr (fun a b c _ _ _ h4 => by rw [go a b (fun z => h4 ⟨by omega, z.2⟩)])) (a2.tr (fun a b _ h => gn a b h)) ⟨fun i => by rw [gn 8 _ (fun z => by omega), w99]; exact a3.1 i, fun i => by rw [r13, w99]; split; exact Nat.zero_le _; exact a3.2 i⟩ ?_ (by rw [go 1 v (fun z => by omega)]; exact a5) (fun i hi => ?_)
      · unfold LS9 okc at *
        rw [go 7 _ (fun z => by omega), gn 7 _ (fun z => by omega), gn 8 _ (fun z => by omega), w99]
        exact a4
      · have r11 : t2 11 v i = if i = j then -1 else σ2 11 v i := by rw [f2, u3_oth (fun z => by omega), f1, u3_at]
        have r12 : t2 12 v i = if i = j then 0 else σ2 12 v i := by rw [f2, u3_at, f1, u3_oth (fun z => by omega)]
        rw [r11, r12, r13]
        by_cases q : i = j
        · rw [if_pos q, if_pos q, if_pos q]; exact ⟨rfl, rfl, rfl⟩
        · rw [if_neg q, if_neg q, if_neg q]; exact a6 i (by omega)
  refine ins 40 0 rfl t5 ν1 gB1 gM1 ⟨fun i => by rw [n99]; exact n8 i, fun i => by rw [n99]; exact n13 i⟩ ⟨s7, ⟨Nat.zero_le _, ?_, ?_, Nat.zero_le _, fun i hi => absurd hi (Nat.not_lt_zero i)⟩, fun i hi => absurd hi (Nat.not_lt_zero i)⟩ s9 (fun i hi => absurd hi (Nat.not_lt_zero i))
  · rw [n7]; exact l4
  · rw [n7]; exact l5
/-- the list is laid -/
def LD9 (σ : SG) (v : Nat) (L : List Nat) : Prop := σ 1 v 9 = nI L.length ∧ ∀ k (h : k < L.length), σ 18 v k = nI L[k]
/-- a view that is built: T are those in effect in their order -/
def VB9 (σ : SG) (ν : NU) (v n : Nat) (ρ : RH) (kn : Int32) (eff : Nat → Bool) (T : List Nat) (C : CS) : Prop :=
  VC σ ν v n ρ eff C ∧ LS9 σ ν (1 + v) T ∧ (∀ i, i < n → σ 11 v i = cm9 ρ kn i) ∧ LD9 σ v (ls9 C)
theorem s_innerBehind {σ : SG} {ν : NU} {v n np : Nat} {ρ ρ0 : RH} {J : List Nat} {eff : Nat → Bool} {C : CS} {o b : Int32} {post : Int32 → Prop} (hv : v < 2) (hV : VC σ ν v n ρ eff C) (hG : GD n np ρ0 J C) (k : post (oI (nx9 C o b.toInt))) : wpX5_innerBehind σ ν v o b post := by
  refine ⟨21, ?_⟩
  have key : ∀ d j, j + d = 20 → ∀ x4 : Int32, (∀ c, nxs C o b.toInt j = some c → x4 = nI (kyN (lbN C c))) → wX5_innerBehind_8 v o b post (d + 1) σ ν (oI (nxs C o b.toInt j)) x4 (nI j) := by
    intro d
    induction d with
    | zero =>
      intro j hj x4 hx
      have hj20 : j = 20 := by omega
      subst hj20
      unfold wX5_innerBehind_8
      rw [ti_n (by omega), if_neg (by omega)]
      exact k
    | succ d ih =>
      intro j hj x4 hx
      have hj20 : j < 20 := by omega
      have hc : (nI j).toNatClampNeg = j := cl_n (by omega)
      have hvj : vp_in (nI j) 20 := vi_n hj20 (by decide)
      have hno : chl C o b.toInt j = false → wX5_innerBehind_8 v o b post (d + 1) σ ν (oI (nxs C o b.toInt j)) x4 (nI (j + 1)) := fun q => by
        have := ih (j + 1) (by omega) x4 (fun c hc => hx c (by simp only [nxs, q] at hc; exact hc))
        simp only [nxs, q] at this
        exact this
      obtain ⟨h1, h2⟩ := hV.1 j hj20
      unfold wX5_innerBehind_8
      rw [ti_n (by omega), if_pos (by omega), hc, nI_1]
      refine ⟨hv, hvj, ?_⟩
      cases ht : C.1 j with
      | false =>
        rw [h1 ht]
        unfold wpX5_rank
        split <;> (refine ⟨hvj, ?_⟩; rw [if_pos ti_m1]; exact hno (by simp [chl, ht]))
      | true =>
        obtain ⟨r1, r2, -⟩ := h2 ht
        have hok := hG.2.2.1 j hj20 ht
        obtain ⟨l1, l2, l3, -⟩ := okl_lb hok
        have l4 := ck_ti hok
        rw [r1, l1]
        refine s_rank l3 ⟨hvj, ?_⟩
        rw [ti_n (by omega), if_neg (by omega)]
        refine ⟨hvj, ?_⟩
        rw [r2, l4]
        by_cases e : C.2.2.1 j = o
        · rw [if_pos (ti_eq.mpr e)]
          by_cases e2 : ck C j ≤ b.toInt
          · rw [if_pos e2]
            exact hno (by simp only [chl, decide_eq_false (show ¬ b.toInt < ck C j by omega), Bool.and_false])
          · rw [if_neg e2]
            have hch : chl C o b.toInt j = true := chl_iff.mpr ⟨ht, e, by omega⟩
            unfold jX5_innerBehind_67
            rw [nI_1]
            cases hx2 : nxs C o b.toInt j with
            | none =>
              rw [oI_none, if_pos ti_m1]
              have := ih (j + 1) (by omega) (nI (kyN (lbN C j))) (fun c hc => by simp only [nxs, hch, if_true, hx2] at hc; cases hc; rfl)
              simp only [nxs, hch, if_true, hx2] at this
              exact this
            | some m =>
              obtain ⟨m1, m2, -⟩ := nxs_some hx2
              have mt := (chl_iff.mp m2).1
              have n4 := ck_ti (hG.2.2.1 m (by omega) mt)
              rw [oI_some, ti_n (by omega), if_neg (by omega), hx m hx2, n4]
              by_cases e3 : ck C j < ck C m
              · rw [if_pos e3]
                have := ih (j + 1) (by omega) (nI (kyN (lbN C j))) (fun c hc => by simp only [nxs, hch, if_true, hx2, e3] at hc; cases hc; rfl)
                simp only [nxs, hch, if_true, hx2, e3] at this
                exact this
              · rw [if_neg e3]
                have := ih (j + 1) (by omega) (nI (kyN (lbN C m))) (fun c hc => by simp only [nxs, hch, if_true, hx2, e3, if_false] at hc; cases hc; rfl)
                simp only [nxs, hch, if_true, hx2, e3, if_false] at this
                exact this
        · rw [if_neg (fun q => e (ti_eq.mp q))]
          exact hno (by simp [chl, e])
  exact key 20 0 rfl (-1) (fun c hc => by cases hc)
theorem s_listInOrder {σ : SG} {ν : NU} {v n np : Nat} {ρ ρ0 : RH} {J : List Nat} {eff : Nat → Bool} {C : CS} {post : SG → Prop} (hv : v < 2) (hV : VC σ ν v n ρ eff C) (hG : GD n np ρ0 J C) (h9 : σ 1 v 9 = 0)
    (k : ∀ σ', (∀ a b c, ¬ (a = 1 ∧ b = v ∧ c = 9) → ¬ (a = 18 ∧ b = v) → σ' a b c = σ a b c) → LD9 σ' v (ls9 C) → post σ') : wpX5_listInOrder σ ν v post := by
  obtain ⟨hst, hlen⟩ := ls9_stp hG
  refine ⟨42, ?_⟩
  have key : ∀ (d j : Nat) (o : Int32) (b : Int32) (pre : List Nat) (σ1 : SG), j + d = 41 → plc C o → stp C o b.toInt ≤ d → pre ++ wkf C o b.toInt = ls9 C → LD9 σ1 v pre → (∀ a b c, ¬ (a = 1 ∧ b = v ∧ c = 9) → ¬ (a = 18 ∧ b = v) → σ1 a b c = σ a b c) → wX5_listInOrder_6 v post (d + 1) σ1 ν o b (nI j) := by
    intro d
    induction d with
    | zero => intro j o b pre σ1 _ _ hs; unfold stp at hs; omega
    | succ d ih =>
      intro j o b pre σ1 hj ho hs hp hL hf
      have row : ∀ a, a ≠ 1 → a ≠ 18 → σ1 a = σ a := fun a h1 h2 => by funext b c; exact hf a b c (fun z => h1 z.1) (fun z => h2 z.1)
      have hV1 : VC σ1 ν v n ρ eff C := hV.same (fun a b h => by rw [row a (by omega) (by omega)]) (by rw [row 14 (by decide) (by decide)]) (by rw [row 15 (by decide) (by decide)]) (by rw [row 12 (by decide) (by decide)]) (fun b _ _ => by rw [row 2 (by decide) (by decide), row 20 (by decide) (by decide), row 21 (by decide) (by decide)]; exact ⟨rfl, rfl, rfl⟩)
      unfold wX5_listInOrder_6
      rw [ti_n (by omega), if_pos (by omega), nI_1]
      refine ⟨hv, s_innerBehind hv hV1 hG ?_⟩
      cases e : nx9 C o b.toInt with
      | some c =>
        obtain ⟨hc20, hct, hco⟩ := nx_plc e
        rw [wkf_some hG ho e] at hp
        have hpl : pre.length < 20 := by
          have := congrArg List.length hp
          rw [List.length_append, List.length_cons] at this
          omega
        rw [oI_some, ti_n (by omega), if_neg (by omega), hL.1, ti_n (by omega), if_pos (by omega), cl_n (by omega)]
        refine ⟨vi_n hpl (by decide), fun t12 f12 t14 f14 => ?_⟩
        have e9 : t12 1 v 9 = nI pre.length := by rw [f12, u3_oth (fun z => by omega)]; exact hL.1
        rw [e9, nI_1] at f14
        have hst2 := stp_some hG ho e
        refine ih (j + 1) (nI c) (-1) (pre ++ [c]) t14 (by omega) (Or.inr ⟨c, hc20, rfl, hct⟩) (by rw [ti_m1]; omega) (by rw [ti_m1, List.append_assoc]; exact hp) ⟨?_, fun q hq => ?_⟩ (fun a b c h1 h2 => ?_)
        · rw [f14, u3_at, if_pos rfl, List.length_append]; rfl
        · rw [f14, u3_oth (fun z => by omega), f12, u3_at]
          rw [List.length_append] at hq
          have hq : q < pre.length + 1 := hq
          by_cases z : q = pre.length
          · subst z
            rw [if_pos rfl, List.getElem_append_right (Nat.le_refl _)]
            simp
          · rw [if_neg z, List.getElem_append_left (by omega)]
            exact hL.2 q (by omega)
        · rw [f14]
          simp only [u3, if_neg h1]
          rw [f12, u3_oth h2]
          exact hf a b c h1 h2
      | none =>
        rw [oI_none, if_pos ti_m1]
        unfold jX5_listInOrder_67
        rcases ho with rfl | ⟨p, hp20, rfl, ht⟩
        · rw [if_pos ti_m1]
          rw [wkf_end e, List.append_nil] at hp
          rw [hp] at hL
          exact k σ1 hf hL
        · have hok := hG.2.2.1 p hp20 ht
          obtain ⟨l1, l2, l3, -⟩ := okl_lb hok
          have l4 := ck_ti hok
          obtain ⟨r1, r2, -⟩ := (hV1.1 p hp20).2 ht
          rw [ti_n (by omega), if_neg (by omega)]
          refine ⟨hv, s_labelOf hv hp20 ?_⟩
          rw [r1, l1]
          refine s_rank l3 (s_outerOf hv hp20 ?_)
          rw [r2, nI_1]
          have hst2 := stp_none hG hp20 ht e
          rw [wkf_none hG hp20 ht e] at hp
          exact ih (j + 1) _ _ pre σ1 (by omega) (plc_par hG.1 hp20 ht) (by rw [l4]; omega) (by rw [l4]; exact hp) hL hf
  exact key 41 0 (-1) (-1) [] σ rfl (Or.inl rfl) (by rw [ti_m1]; exact hst) (by rw [ti_m1]; rfl) ⟨h9, fun q hq => absurd hq (Nat.not_lt_zero q)⟩ (fun _ _ _ _ _ => rfl)
