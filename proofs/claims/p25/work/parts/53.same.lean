/-! What stands on the data's rows alone; the class's print. -/
/-- the data of the first n instructions are as they were -/
def lgn (n : Nat) (ρ ρ' : RH) : Prop := (∀ j, 11 ≤ j → j < 33 → ρ' j = ρ j) ∧ ∀ i, i < n → ρ' 2 (ρ 14 i).toNatClampNeg = ρ 2 (ρ 14 i).toNatClampNeg
theorem lgd.n {n : Nat} {ρ ρ' : RH} (g : lgd ρ ρ') : lgn n ρ ρ' := ⟨fun j _ h => g j (by omega), fun i _ => by rw [g 2 (by omega)]⟩
theorem IDT.ln {np n : Nat} {ρ ρ' : RH} {i : Nat} (g : lgn n ρ ρ') (h : IDT np ρ i) : IDT np ρ' i := by
  have g := g.1
  unfold IDT pv9 at *
  rw [g 13 (by omega) (by omega), g 14 (by omega) (by omega), g 15 (by omega) (by omega), g 16 (by omega) (by omega), g 17 (by omega) (by omega), g 18 (by omega) (by omega), g 20 (by omega) (by omega), g 21 (by omega) (by omega), g 22 (by omega) (by omega), g 23 (by omega) (by omega), g 26 (by omega) (by omega), g 27 (by omega) (by omega)]
  exact h
theorem DAT.ln {n np : Nat} {ρ ρ' : RH} (g : lgn n ρ ρ') (h : DAT n np ρ) : DAT n np ρ' := by
  refine ⟨h.1, h.2.1, by rw [g.1 11 (by omega) (by omega)]; exact h.2.2.1, by rw [g.1 12 (by omega) (by omega)]; exact h.2.2.2.1, fun i hi => (h.2.2.2.2.1 i hi).ln g, ?_, fun w i hw hi => ?_⟩
  · unfold pv9
    rw [g.1 13 (by omega) (by omega), g.1 15 (by omega) (by omega)]
    exact h.2.2.2.2.2.1
  · rw [g.1 14 (by omega) (by omega), g.2 w (by omega), g.2 i hi]
    exact h.2.2.2.2.2.2 w i hw hi
theorem bg9_ln {n : Nat} {ρ ρ' : RH} {kn : Int32} (g : lgn n ρ ρ') : ∀ (f i : Nat), bg9 ρ' kn f i = bg9 ρ kn f i := by
  have g := g.1
  intro f
  induction f with
  | zero => intro i; rfl
  | succ f ih =>
    intro i
    show (if ρ' 22 i = 2 then bg9 ρ' kn f (ρ' 23 i).toNatClampNeg else if ρ' 22 i = 0 then ρ' 23 i else if kn9 (ρ' 26 i) kn = true then ρ' 27 i else -1) = _
    rw [g 22 (by omega) (by omega), g 23 (by omega) (by omega), g 26 (by omega) (by omega), g 27 (by omega) (by omega), ih]
    rfl
theorem cm9_ln {n i : Nat} {ρ ρ' : RH} {kn : Int32} (g : lgn n ρ ρ') (hi : i < n) : cm9 ρ' kn i = cm9 ρ kn i := by
  unfold cm9
  rw [g.1 14 (by omega) (by omega), g.2 i hi, bg9_ln g]
theorem ef9_ln {n i : Nat} {ρ ρ' : RH} {d kn te : Int32} (g : lgn n ρ ρ') (hi : i < n) : ef9 ρ' d kn te i = ef9 ρ d kn te i := by
  have g1 := g.1
  unfold ef9 ov9 sk9 su9
  rw [cm9_ln g hi, g1 24 (by omega) (by omega), g1 25 (by omega) (by omega), g1 28 (by omega) (by omega), g1 29 (by omega) (by omega), g1 30 (by omega) (by omega), g1 31 (by omega) (by omega), g1 32 (by omega) (by omega)]
theorem sw9_ln {n : Nat} {ρ ρ' : RH} (g : lgn n ρ ρ') : sw9 ρ' = sw9 ρ := by funext i; unfold sw9; rw [g.1 18 (by omega) (by omega), g.1 19 (by omega) (by omega)]
theorem aw9_ln {n : Nat} {ρ ρ' : RH} (g : lgn n ρ ρ') : aw9 ρ' = aw9 ρ := by funext i; unfold aw9; rw [g.1 20 (by omega) (by omega), g.1 21 (by omega) (by omega)]
theorem pv9_ln {n : Nat} {ρ ρ' : RH} (g : lgn n ρ ρ') : pv9 ρ' = pv9 ρ := by funext i; unfold pv9; rw [g.1 15 (by omega) (by omega)]
theorem step9_ln {n np i : Nat} {ρ ρ' : RH} {eff eff' : Nat → Bool} {C : CS} (hD : DAT n np ρ) (g : lgn n ρ ρ') (he : ∀ j, j < n → eff' j = eff j) (hi : i < n) : step9 np ρ' eff' C i = step9 np ρ eff C i := by
  obtain ⟨-, -, -, -, h7, -⟩ := hD.2.2.2.2.1 i hi
  have e : do9 np ρ' C eff' i (pv9 ρ i) (sw9 ρ i) (aw9 ρ i) = do9 np ρ C eff i (pv9 ρ i) (sw9 ρ i) (aw9 ρ i) := by
    unfold do9
    rw [g.1 13 (by omega) (by omega), g.1 16 (by omega) (by omega), g.1 17 (by omega) (by omega)]
    by_cases k7 : ρ 13 i = 7
    · rw [he _ (by have := h7 k7; omega)]
    · simp only [if_neg k7]
  unfold step9
  rw [pv9_ln g, sw9_ln g, aw9_ln g, e]
theorem run9_ln {n np : Nat} {ρ ρ' : RH} {eff eff' : Nat → Bool} (hD : DAT n np ρ) (g : lgn n ρ ρ') (he : ∀ j, j < n → eff' j = eff j) : ∀ (T : List Nat) (C : CS), (∀ j ∈ T, j < n) → run9 np ρ' eff' T C = run9 np ρ eff T C
  | [], _, _ => rfl
  | i :: T, C, h => by
    show run9 np ρ' eff' T (step9 np ρ' eff' C i) = run9 np ρ eff T (step9 np ρ eff C i)
    rw [step9_ln hD g he (h i List.mem_cons_self), run9_ln hD g he T _ (fun j hj => h j (List.mem_cons_of_mem _ hj))]
theorem or9_ln {n : Nat} {ρ ρ' : RH} {d kn te : Int32} (g : lgn n ρ ρ') : or9 ρ' n d kn te = or9 ρ n d kn te :=
  tn9_congr (fun i hi => ⟨by unfold bi9; rw [cm9_ln g hi], ef9_ln g hi⟩)
theorem vw9_ln {n np : Nat} {ρ ρ' : RH} {d kn te : Int32} (hD : DAT n np ρ) (g : lgn n ρ ρ') : vw9 n np ρ' d kn te = vw9 n np ρ d kn te := by
  unfold vw9
  rw [or9_ln g, aw9_ln g]
  exact run9_ln (eff := ef9 ρ d kn te) (eff' := ef9 ρ' d kn te) hD g (fun j hj => ef9_ln g hj) (or9 ρ n d kn te) _ (fun j hj => (tn9_mem.mp hj).1)
theorem CI.ln {σ : SG} {ν : NU} {ρ ρ' : RH} {n i : Nat} (g : lgn n ρ ρ') (hi : i < n) (h : CI σ ν ρ i) : CI σ ν ρ' i := by
  have g1 := g.1
  unfold CI at *
  rw [sw9_ln g, aw9_ln g, g1 14 (by omega) (by omega), g.2 i hi, g1 13 (by omega) (by omega), g1 15 (by omega) (by omega), g1 16 (by omega) (by omega), g1 17 (by omega) (by omega), g1 22 (by omega) (by omega), g1 23 (by omega) (by omega), g1 24 (by omega) (by omega), g1 25 (by omega) (by omega), g1 26 (by omega) (by omega), g1 27 (by omega) (by omega), g1 28 (by omega) (by omega), g1 29 (by omega) (by omega), g1 30 (by omega) (by omega), g1 31 (by omega) (by omega), g1 32 (by omega) (by omega)]
  exact h
theorem CDT.ln {σ : SG} {ν : NU} {ρ ρ' : RH} {n : Nat} (g : lgn n ρ ρ') (h : CDT σ ν ρ n) : CDT σ ν ρ' n := ⟨h.1, fun i hi => (h.2 i hi).ln g hi⟩
/-- a view of the data: what it is in the class -/
def VW9 (σ : SG) (ν : NU) (v n np : Nat) (ρ : RH) (d kn te : Int32) : Prop := VB9 σ ν v n ρ kn (ef9 ρ d kn te) (or9 ρ n d kn te) (vw9 n np ρ d kn te)
theorem VW9.ln {σ : SG} {ν : NU} {ρ ρ' : RH} {v n np : Nat} {d kn te : Int32} (hD : DAT n np ρ) (g : lgn n ρ ρ') (h : VW9 σ ν v n np ρ d kn te) : VW9 σ ν v n np ρ' d kn te := by
  unfold VW9 at *
  rw [or9_ln g, vw9_ln hD g]
  obtain ⟨⟨h1, h2, h3⟩, h4, h5, h6⟩ := h
  refine ⟨⟨h1, h2, fun i hi he hk => ?_⟩, h4, fun i hi => by rw [cm9_ln g hi]; exact h5 i hi, h6⟩
  rw [ef9_ln g hi] at he
  rw [g.1 13 (by omega) (by omega)] at hk
  exact h3 i hi he hk
/-- the class's rows of the view are as they were -/
theorem VB9.sg {σ σ' : SG} {ν ν' : NU} {v n : Nat} {ρ : RH} {kn : Int32} {eff : Nat → Bool} {T : List Nat} {C : CS} (h : VB9 σ ν v n ρ kn eff T C) (hph : ∀ i, i < n → eff i = true → (ρ 13 i).toInt ≤ 2 → (if ν' 13 v i = 0 then 2 * i + 1 else ν' 13 v i - 1) < 2 * n ∧ PH σ' (if ν' 13 v i = 0 then 2 * i + 1 else ν' 13 v i - 1) (C.2.2.2.2.2 i))
    (g1 : σ' 1 v 9 = σ 1 v 9) (g14 : σ' 14 v = σ 14 v) (g15 : σ' 15 v = σ 15 v) (g12 : σ' 12 v = σ 12 v) (g11 : σ' 11 v = σ 11 v) (g18 : σ' 18 v = σ 18 v) (g7 : σ' 7 (1 + v) = σ 7 (1 + v)) (gt : ∀ b, 21 * v ≤ b → b ≤ 21 * v + 20 → σ' 2 b = σ 2 b ∧ σ' 20 b = σ 20 b ∧ σ' 21 b = σ 21 b)
    (n7 : ν' 7 (1 + v) = ν 7 (1 + v)) (n8 : ν' 8 (1 + v) = ν 8 (1 + v)) (n99 : ν 99 0 0 ≤ ν' 99 0 0) : VB9 σ' ν' v n ρ kn eff T C := by
  obtain ⟨⟨h1, h2, h3⟩, ⟨h4, ⟨h5, h6, h7, h8, h9⟩, h10⟩, h11, h12, h13⟩ := h
  refine ⟨⟨fun p hp => ?_, fun i hi => by rw [g12]; exact h2 i hi, hph⟩, ⟨by rw [g7]; exact h4, ⟨by rw [n7]; exact h5, by rw [n7]; exact h6, by rw [n7]; exact h7, h8, fun i hi => by rw [n8]; exact Nat.le_trans (h9 i hi) n99⟩, fun k hk => by rw [n8]; exact h10 k hk⟩, fun i hi => by rw [g11]; exact h11 i hi, by rw [g1]; exact h12, fun k hk => by rw [g18]; exact h13 k hk⟩
  rw [g14, g15]
  obtain ⟨a, b⟩ := h1 p hp
  refine ⟨a, fun ht => ⟨(b ht).1, (b ht).2.1, ?_⟩⟩
  obtain ⟨e1, e2, e3⟩ := gt (21 * v + 1 + p) (by omega) (by omega)
  have := (b ht).2.2
  unfold CX at *
  rw [e1, e2, e3]
  exact this
theorem s_countOf {σ : SG} {ν : NU} {v n np p : Nat} {ρ ρ0 : RH} {J : List Nat} {eff : Nat → Bool} {C : CS} {post : Int32 → Prop} (hv : v < 2) (hV : VC σ ν v n ρ eff C) (hG : GD n np ρ0 J C) (hp : p < 20) (k : post (if C.1 p = true then nI (C.2.2.2.1 p).length else -1)) : wpX5_countOf σ ν v (nI p) post := by
  refine ⟨hv, s_isThere hv hV hG hp ?_⟩
  have hcp : (nI p).toNatClampNeg = p := cl_n (by omega)
  cases ht : C.1 p with
  | false =>
    rw [show bI (false = true) = 0 from bI_f (by decide), if_pos z0I]
    rw [ht, if_neg (by decide)] at k
    exact k
  | true =>
    rw [show bI (true = true) = 1 from bI_t rfl, if_neg z1I]
    rw [ht, if_pos rfl] at k
    refine ⟨vi_n hp (by decide), ?_⟩
    rw [hcp, ((hV.1 p hp).2 ht).2.2.2.1]
    exact k
theorem s_readAtV {σ : SG} {ν : NU} {v n np p k : Nat} {ρ ρ0 : RH} {J : List Nat} {eff : Nat → Bool} {C : CS} {post : Int32 → Prop} (hv : v < 2) (hV : VC σ ν v n ρ eff C) (hG : GD n np ρ0 J C) (hp : p < 20) (ht : C.1 p = true) (hk : k < 2147483648) (kk : post (match (C.2.2.2.1 p)[k]? with | none => -1 | some x => x.1)) : wpX5_readAt σ ν v (nI p) (nI k) post := by
  have hcp : (nI p).toNatClampNeg = p := cl_n (by omega)
  refine ⟨hv, s_isThere hv hV hG hp ?_⟩
  rw [ht, show bI (true = true) = 1 from bI_t rfl, if_neg z1I, hcp]
  exact ⟨vi_n hp (by decide), s_readAt (by omega) ((hV.1 p hp).2 ht).2.2 hk kk⟩
theorem s_sourceAtV {σ : SG} {ν : NU} {v n np p k : Nat} {ρ ρ0 : RH} {J : List Nat} {eff : Nat → Bool} {C : CS} {post : Int32 → Prop} (hv : v < 2) (hV : VC σ ν v n ρ eff C) (hG : GD n np ρ0 J C) (hp : p < 20) (ht : C.1 p = true) (hk : k < 2147483648) (kk : post (match (C.2.2.2.1 p)[k]? with | none => -1 | some x => x.2)) : wpX5_sourceAt σ ν v (nI p) (nI k) post := by
  have hcp : (nI p).toNatClampNeg = p := cl_n (by omega)
  refine ⟨hv, s_isThere hv hV hG hp ?_⟩
  rw [ht, show bI (true = true) = 1 from bI_t rfl, if_neg z1I, hcp]
  exact ⟨vi_n hp (by decide), s_sourceAt (by omega) ((hV.1 p hp).2 ht).2.2 hk kk⟩
theorem s_foldC {σ : SG} {ν : NU} {v n np : Nat} {ρ ρ0 : RH} {J : List Nat} {eff : Nat → Bool} {C : CS} {post : Int64 → Prop} (hv : v < 2) (hV : VC σ ν v n ρ eff C) (hL : LD9 σ v (ls9 C)) (hG : GD n np ρ0 J C) (k : post (pl8 C (ls9 C) 11)) : wpX5_fold σ ν v post := by
  obtain ⟨-, hlen⟩ := ls9_stp hG
  have hall := (ls9_len hG).2
  refine ⟨(ls9 C).length + 1, ?_⟩
  have outer : ∀ (rest pre : List Nat) (x : Int64), ls9 C = pre ++ rest → pl8 C rest x = pl8 C (ls9 C) 11 → wX5_fold_6 v post (rest.length + 1) σ ν x (nI pre.length) := by
    intro rest
    induction rest with
    | nil =>
      intro pre x hT hx
      have hl : pre.length = (ls9 C).length := by rw [hT, List.append_nil]
      unfold wX5_fold_6
      refine ⟨hv, ?_⟩
      rw [hL.1, hl, if_neg (by omega)]
      rw [← hx] at k
      exact k
    | cons c rest ih =>
      intro pre x hT hx
      have hl : pre.length < (ls9 C).length := by rw [hT, List.length_append, List.length_cons]; omega
      have hget : (ls9 C)[pre.length] = c := by
        have : (ls9 C)[pre.length]? = some c := by rw [hT, List.getElem?_append_right (Nat.le_refl _), Nat.sub_self]; rfl
        rw [List.getElem?_eq_getElem hl] at this
        exact Option.some.inj this
      obtain ⟨hc20, hct⟩ := hall c (by rw [hT]; exact List.mem_append_right _ List.mem_cons_self)
      have hcx := ((hV.1 c hc20).2 hct).2.2
      have h12 := hcx.1
      unfold wX5_fold_6
      refine ⟨hv, ?_⟩
      rw [hL.1, ti_n (by omega), ti_n (by omega), if_pos (by omega), if_pos (by omega), cl_n (by omega), hL.2 pre.length hl, hget]
      refine ⟨vi_n (by omega) (by decide), s_countOf hv hV hG hc20 (s_labelOf hv hc20 ?_)⟩
      rw [if_pos hct, ((hV.1 c hc20).2 hct).1]
      refine ⟨(C.2.2.2.1 c).length + 1, ?_⟩
      have inner : ∀ d j, j + d = (C.2.2.2.1 c).length → ∀ y : Int64, y = pw9 ((C.2.2.2.1 c).take j) ((((31 : Int64)) * ((((31 : Int64)) * ((((31 : Int64)) * x) + (nI c).toInt64)) + (C.2.1 c).toInt64)) + (nI (C.2.2.2.1 c).length).toInt64) → wX5_fold_76 v (wX5_fold_6 v post (rest.length + 1)) post (d + 1) σ ν y (nI pre.length) (nI c) (nI (C.2.2.2.1 c).length) (nI j) := by
        intro d
        induction d with
        | zero =>
          intro j hj y hy
          unfold wX5_fold_76
          rw [ti_n (by omega), ti_n (by omega), if_neg (by omega), li1, nI_add]
          rw [List.take_of_length_le (by omega)] at hy
          have := ih (pre ++ [c]) y (by rw [hT, List.append_assoc]; rfl) (by rw [← hx, hy]; rfl)
          rw [List.length_append] at this
          exact this
        | succ d ih2 =>
          intro j hj y hy
          have hjl : j < (C.2.2.2.1 c).length := by omega
          unfold wX5_fold_76
          rw [ti_n (by omega), ti_n (by omega), if_pos (by omega), if_pos (by omega)]
          refine ⟨hv, s_readAtV hv hV hG hc20 hct (by omega) (s_sourceAtV hv hV hG hc20 hct (by omega) ?_)⟩
          rw [List.getElem?_eq_getElem hjl, li1, nI_add]
          refine ih2 (j + 1) (by omega) _ ?_
          rw [List.take_succ_eq_append_getElem hjl, pw9_snoc, hy]
      exact inner _ 0 (by omega) _ rfl
  exact outer (ls9 C) [] 11 rfl rfl
