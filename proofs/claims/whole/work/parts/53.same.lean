/-! What stands on the data's rows alone; the class's print. -/
theorem bg9_lo {ρ ρ' : RH} {kn : Int32} (g : lgd ρ ρ') : ∀ (f i : Nat), bg9 ρ' kn f i = bg9 ρ kn f i := by
  intro f
  induction f with
  | zero => intro i; rfl
  | succ f ih =>
    intro i
    show (if ρ' 22 i = 2 then bg9 ρ' kn f (ρ' 23 i).toNatClampNeg else if ρ' 22 i = 0 then ρ' 23 i else if kn9 (ρ' 26 i) kn = true then ρ' 27 i else -1) = _
    rw [g 22 (by omega), g 23 (by omega), g 26 (by omega), g 27 (by omega), ih]
    rfl
theorem cm9_lo {ρ ρ' : RH} {kn : Int32} (g : lgd ρ ρ') (i : Nat) : cm9 ρ' kn i = cm9 ρ kn i := by
  unfold cm9
  rw [g 2 (by omega), g 14 (by omega), bg9_lo g]
theorem ef9_lo {ρ ρ' : RH} {d kn te : Int32} (g : lgd ρ ρ') : ef9 ρ' d kn te = ef9 ρ d kn te := by
  funext i
  unfold ef9 ov9 sk9 su9
  rw [cm9_lo g, g 24 (by omega), g 25 (by omega), g 28 (by omega), g 29 (by omega), g 30 (by omega), g 31 (by omega), g 32 (by omega)]
theorem run9_lo {np : Nat} {ρ ρ' : RH} {eff : Nat → Bool} (g : lgd ρ ρ') : ∀ (T : List Nat) (C : CS), run9 np ρ' eff T C = run9 np ρ eff T C
  | [], _ => rfl
  | i :: T, C => by
    show run9 np ρ' eff T (step9 np ρ' eff C i) = run9 np ρ eff T (step9 np ρ eff C i)
    rw [step9_same g, run9_lo g T]
theorem bi9_lo {ρ ρ' : RH} {kn : Int32} (g : lgd ρ ρ') : bi9 ρ' kn = bi9 ρ kn := by
  funext i
  unfold bi9
  rw [cm9_lo g]
theorem or9_lo {n : Nat} {ρ ρ' : RH} {d kn te : Int32} (g : lgd ρ ρ') : or9 ρ' n d kn te = or9 ρ n d kn te := by
  unfold or9
  rw [bi9_lo g, ef9_lo g]
theorem vw9_lo {n np : Nat} {ρ ρ' : RH} {d kn te : Int32} (g : lgd ρ ρ') : vw9 n np ρ' d kn te = vw9 n np ρ d kn te := by
  unfold vw9
  rw [run9_lo g, ef9_lo g, or9_lo g, aw9_same g]
theorem CI.lo {σ : SG} {ν : NU} {ρ ρ' : RH} {i : Nat} (g : lgd ρ ρ') (h : CI σ ν ρ i) : CI σ ν ρ' i := by
  unfold CI at *
  rw [sw9_same g, aw9_same g, g 2 (by omega), g 13 (by omega), g 14 (by omega), g 15 (by omega), g 16 (by omega), g 17 (by omega), g 22 (by omega), g 23 (by omega), g 24 (by omega), g 25 (by omega), g 26 (by omega), g 27 (by omega), g 28 (by omega), g 29 (by omega), g 30 (by omega), g 31 (by omega), g 32 (by omega)]
  exact h
theorem CDT.lo {σ : SG} {ν : NU} {ρ ρ' : RH} {n : Nat} (g : lgd ρ ρ') (h : CDT σ ν ρ n) : CDT σ ν ρ' n := ⟨h.1, fun i hi => (h.2 i hi).lo g⟩
theorem VC.lo {σ : SG} {ν : NU} {ρ ρ' : RH} {v n : Nat} {eff : Nat → Bool} {C : CS} (g : lgd ρ ρ') (h : VC σ ν v n ρ eff C) : VC σ ν v n ρ' eff C := by
  unfold VC at *
  rw [g 13 (by omega)]
  exact h
theorem VB.lo {σ : SG} {ν : NU} {ρ ρ' : RH} {v n : Nat} {kn : Int32} {eff : Nat → Bool} {T : List Nat} {C : CS} (g : lgd ρ ρ') (h : VB σ ν v n ρ kn eff T C) : VB σ ν v n ρ' kn eff T C :=
  ⟨h.1.lo g, h.2.1, fun i hi => by rw [cm9_lo g]; exact h.2.2.1 i hi, h.2.2.2⟩
/-- a view of the data: what it is in the class -/
def VW (σ : SG) (ν : NU) (v n np : Nat) (ρ : RH) (d kn te : Int32) : Prop := VB σ ν v n ρ kn (ef9 ρ d kn te) (or9 ρ n d kn te) (vw9 n np ρ d kn te)
theorem VW.lo {σ : SG} {ν : NU} {ρ ρ' : RH} {v n np : Nat} {d kn te : Int32} (g : lgd ρ ρ') (h : VW σ ν v n np ρ d kn te) : VW σ ν v n np ρ' d kn te := by
  have := VB.lo g h
  unfold VW
  rw [ef9_lo g, or9_lo g, vw9_lo g]
  exact this
theorem s_countOf {σ : SG} {ν : NU} {v n np p : Nat} {ρ ρ0 : RH} {J : List Nat} {eff : Nat → Bool} {C : CS} {post : Int32 → Prop} (hv : v < 2) (hV : VC σ ν v n ρ eff C) (hG : GD n np ρ0 J C) (hp : p < 20) (k : post (if C.1 p = true then nI (C.2.2.2.1 p).length else -1)) : wpX5_countOf σ ν v (nI p) post := by
  refine ⟨hv, s_isThere hv hV hG hp ?_⟩
  have hcp : (nI p).toNatClampNeg = p := cl_n (by omega)
  cases ht : C.1 p with
  | false =>
    rw [show bI (false = true) = 0 from bI_f (by decide), if_pos z0I]
    rw [ht, if_neg (by decide)] at k
    exact k
  | true =>
    rw [show bI (true = true) = 1 from bI_t rfl, if_neg z1I]
    rw [ht, if_pos rfl] at k
    refine ⟨vi_n hp (by decide), ?_⟩
    rw [hcp, ((hV.1 p hp).2 ht).2.2.2.1]
    exact k
theorem s_readAtV {σ : SG} {ν : NU} {v n np p k : Nat} {ρ ρ0 : RH} {J : List Nat} {eff : Nat → Bool} {C : CS} {post : Int32 → Prop} (hv : v < 2) (hV : VC σ ν v n ρ eff C) (hG : GD n np ρ0 J C) (hp : p < 20) (ht : C.1 p = true) (hk : k < 2147483648) (kk : post (match (C.2.2.2.1 p)[k]? with | none => -1 | some x => x.1)) : wpX5_readAt σ ν v (nI p) (nI k) post := by
  have hcp : (nI p).toNatClampNeg = p := cl_n (by omega)
  refine ⟨hv, s_isThere hv hV hG hp ?_⟩
  rw [ht, show bI (true = true) = 1 from bI_t rfl, if_neg z1I, hcp]
  exact ⟨vi_n hp (by decide), s_readAt (by omega) ((hV.1 p hp).2 ht).2.2 hk kk⟩
theorem s_sourceAtV {σ : SG} {ν : NU} {v n np p k : Nat} {ρ ρ0 : RH} {J : List Nat} {eff : Nat → Bool} {C : CS} {post : Int32 → Prop} (hv : v < 2) (hV : VC σ ν v n ρ eff C) (hG : GD n np ρ0 J C) (hp : p < 20) (ht : C.1 p = true) (hk : k < 2147483648) (kk : post (match (C.2.2.2.1 p)[k]? with | none => -1 | some x => x.2)) : wpX5_sourceAt σ ν v (nI p) (nI k) post := by
  have hcp : (nI p).toNatClampNeg = p := cl_n (by omega)
  refine ⟨hv, s_isThere hv hV hG hp ?_⟩
  rw [ht, show bI (true = true) = 1 from bI_t rfl, if_neg z1I, hcp]
  exact ⟨vi_n hp (by decide), s_sourceAt (by omega) ((hV.1 p hp).2 ht).2.2 hk kk⟩
theorem s_foldC {σ : SG} {ν : NU} {v n np : Nat} {ρ ρ0 : RH} {J : List Nat} {eff : Nat → Bool} {C : CS} {post : Int64 → Prop} (hv : v < 2) (hV : VC σ ν v n ρ eff C) (hL : LD σ v (ls9 C)) (hG : GD n np ρ0 J C) (k : post (pl8 C (ls9 C) 11)) : wpX5_fold σ ν v post := by
  obtain ⟨-, hlen⟩ := ls9_stp hG
  have hall := (ls9_len hG).2
  refine ⟨(ls9 C).length + 1, ?_⟩
  have outer : ∀ (rest pre : List Nat) (x : Int64), ls9 C = pre ++ rest → pl8 C rest x = pl8 C (ls9 C) 11 → wX5_fold_6 v post (rest.length + 1) σ ν x (nI pre.length) := by
    intro rest
    induction rest with
    | nil =>
      intro pre x hT hx
      have hl : pre.length = (ls9 C).length := by rw [hT, List.append_nil]
      unfold wX5_fold_6
      refine ⟨hv, ?_⟩
      rw [hL.1, hl, if_neg (by omega)]
      rw [← hx] at k
      exact k
    | cons c rest ih =>
      intro pre x hT hx
      have hl : pre.length < (ls9 C).length := by rw [hT, List.length_append, List.length_cons]; omega
      have hget : (ls9 C)[pre.length] = c := by
        have : (ls9 C)[pre.length]? = some c := by rw [hT, List.getElem?_append_right (Nat.le_refl _), Nat.sub_self]; rfl
        rw [List.getElem?_eq_getElem hl] at this
        exact Option.some.inj this
      obtain ⟨hc20, hct⟩ := hall c (by rw [hT]; exact List.mem_append_right _ List.mem_cons_self)
      have hcx := ((hV.1 c hc20).2 hct).2.2
      have h12 := hcx.1
      unfold wX5_fold_6
      refine ⟨hv, ?_⟩
      rw [hL.1, ti_n (by omega), ti_n (by omega), if_pos (by omega), if_pos (by omega), cl_n (by omega), hL.2 pre.length hl, hget]
      refine ⟨vi_n (by omega) (by decide), s_countOf hv hV hG hc20 (s_labelOf hv hc20 ?_)⟩
      rw [if_pos hct, ((hV.1 c hc20).2 hct).1]
      refine ⟨(C.2.2.2.1 c).length + 1, ?_⟩
      have inner : ∀ d j, j + d = (C.2.2.2.1 c).length → ∀ y : Int64, y = pw9 ((C.2.2.2.1 c).take j) ((((31 : Int64)) * ((((31 : Int64)) * ((((31 : Int64)) * x) + (nI c).toInt64)) + (C.2.1 c).toInt64)) + (nI (C.2.2.2.1 c).length).toInt64) → wX5_fold_76 v (wX5_fold_6 v post (rest.length + 1)) post (d + 1) σ ν y (nI pre.length) (nI c) (nI (C.2.2.2.1 c).length) (nI j) := by
        intro d
        induction d with
        | zero =>
          intro j hj y hy
          unfold wX5_fold_76
          rw [ti_n (by omega), ti_n (by omega), if_neg (by omega), li1, nI_add]
          rw [List.take_of_length_le (by omega)] at hy
          have := ih (pre ++ [c]) y (by rw [hT, List.append_assoc]; rfl) (by rw [← hx, hy]; rfl)
          rw [List.length_append] at this
          exact this
        | succ d ih2 =>
          intro j hj y hy
          have hjl : j < (C.2.2.2.1 c).length := by omega
          unfold wX5_fold_76
          rw [ti_n (by omega), ti_n (by omega), if_pos (by omega), if_pos (by omega)]
          refine ⟨hv, s_readAtV hv hV hG hc20 hct (by omega) (s_sourceAtV hv hV hG hc20 hct (by omega) ?_)⟩
          rw [List.getElem?_eq_getElem hjl, li1, nI_add]
          refine ih2 (j + 1) (by omega) _ ?_
          rw [List.take_succ_eq_append_getElem hjl, pw9_snoc, hy]
      exact inner _ 0 (by omega) _ rfl
  exact outer (ls9 C) [] 11 rfl rfl
