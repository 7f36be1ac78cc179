/-! The class alone: what each question answers, in the words of the code of laws. -/
def pa9 (C : CS) (m : Nat) : Int32 := if C.1 m = true then C.2.2.1 m else -1
def wc9 (C : CS) (m : Nat) : Int32 := if C.1 m = true then nI (C.2.2.2.1 m).length else -1
def wat9 (C : CS) (m j : Nat) : Int32 := if C.1 m = true then (match (C.2.2.2.1 m)[j]? with | none => -1 | some x => x.1) else -1
theorem y_label {σ : SG} {ν : NU} {γ : RH} {n np : Nat} (h : SIM σ ν γ n np) {p : Int32} {post : Int32 → Prop} {px : String → Prop} (kn : ¬ (0 ≤ p.toInt ∧ p.toInt < np) → px IOB) (ky : ∀ k, k < np → p = nI k → post (lb9 (cv9 n np γ) k)) : wpX6_label σ ν p post px := by
  obtain ⟨⟨hD, hC, -, h7, -, -, h5⟩, hV⟩ := id h
  have h20 := hD.2.1
  refine c_needP h7 h20 kn (fun c => ?_)
  obtain ⟨k, hk, rfl⟩ := in_nI c.1 c.2
  exact c_lb9 (by decide) hV.1 (by omega) (ky k hk rfl)
theorem y_parent {σ : SG} {ν : NU} {γ : RH} {n np : Nat} (h : SIM σ ν γ n np) {p : Int32} {post : Int32 → Prop} {px : String → Prop} (kn : ¬ (0 ≤ p.toInt ∧ p.toInt < np) → px IOB) (ky : ∀ k, k < np → p = nI k → post (pa9 (cv9 n np γ) k)) : wpX6_parent σ ν p post px := by
  obtain ⟨⟨hD, hC, -, h7, -, -, h5⟩, hV⟩ := id h
  have hG := h.gd
  have h20 := hD.2.1
  refine c_needP h7 h20 kn (fun c => ?_)
  obtain ⟨k, hk, rfl⟩ := in_nI c.1 c.2
  refine s_isThere (by decide) hV.1 hG (by omega) ?_
  have ky := ky k hk rfl
  unfold pa9 at ky
  obtain ⟨a, b⟩ := hV.1.1 k (by omega)
  by_cases ht : (cv9 n np γ).1 k = true
  · rw [if_pos ht] at ky
    rw [bI_t ht, if_neg z1I]
    exact s_outerOf (by decide) (by omega) (by rw [(b ht).2.1]; exact ky)
  · rw [if_neg ht] at ky
    rw [bI_f ht, if_pos z0I]
    exact ky
theorem y_words {σ : SG} {ν : NU} {γ : RH} {n np : Nat} (h : SIM σ ν γ n np) {p : Int32} {post : Int32 → Prop} {px : String → Prop} (kn : ¬ (0 ≤ p.toInt ∧ p.toInt < np) → px IOB) (ky : ∀ k, k < np → p = nI k → post (wc9 (cv9 n np γ) k)) : wpX6_words σ ν p post px := by
  obtain ⟨⟨hD, hC, -, h7, -, -, h5⟩, hV⟩ := id h
  have hG := h.gd
  have h20 := hD.2.1
  refine c_needP h7 h20 kn (fun c => ?_)
  obtain ⟨k, hk, rfl⟩ := in_nI c.1 c.2
  exact s_countOf (by decide) hV.1 hG (by omega) (ky k hk rfl)
theorem y_wordAt {σ : SG} {ν : NU} {γ : RH} {n np : Nat} (h : SIM σ ν γ n np) {p q : Int32} {post : Int32 → Prop} {px : String → Prop} (kn : ¬ hw9 np (cv9 n np γ) p q → px IOB) (ky : ∀ (k j : Nat), k < np → p = nI k → (cv9 n np γ).1 k = true → ∀ (hj : j < ((cv9 n np γ).2.2.2.1 k).length), q = nI j → post (((cv9 n np γ).2.2.2.1 k)[j]).1) : wpX6_wordAt σ ν p q post px := by
  obtain ⟨⟨hD, hC, -, h7, -, -, h5⟩, hV⟩ := id h
  have hG := h.gd
  have h20 := hD.2.1
  refine c_needWord h7 h20 hV.1 hG kn (fun k j hk e1 ht hj e2 => ?_)
  have hj : j < ((cv9 n np γ).2.2.2.1 k).length := hj
  have hl : ((cv9 n np γ).2.2.2.1 k).length ≤ 12 := ((hV.1.1 k (by omega)).2 ht).2.2.1
  have ky := ky k j hk e1 ht hj e2
  rw [e1, e2]
  exact s_readAtV (by decide) hV.1 hG (by omega) ht (by omega) (by rw [at_some hj]; exact ky)
theorem y_origin {σ : SG} {ν : NU} {γ : RH} {n np : Nat} (h : SIM σ ν γ n np) {p q : Int32} {post : Int32 → Prop} {px : String → Prop} (kn : ¬ hw9 np (cv9 n np γ) p q → px IOB) (ky : ∀ (k j : Nat), k < np → p = nI k → (cv9 n np γ).1 k = true → ∀ (hj : j < ((cv9 n np γ).2.2.2.1 k).length), q = nI j → post (((cv9 n np γ).2.2.2.1 k)[j]).2) : wpX6_origin σ ν p q post px := by
  obtain ⟨⟨hD, hC, -, h7, -, -, h5⟩, hV⟩ := id h
  have hG := h.gd
  have h20 := hD.2.1
  refine c_needWord h7 h20 hV.1 hG kn (fun k j hk e1 ht hj e2 => ?_)
  have hj : j < ((cv9 n np γ).2.2.2.1 k).length := hj
  have hl : ((cv9 n np γ).2.2.2.1 k).length ≤ 12 := ((hV.1.1 k (by omega)).2 ht).2.2.1
  have ky := ky k j hk e1 ht hj e2
  rw [e1, e2]
  exact s_sourceAtV (by decide) hV.1 hG (by omega) ht (by omega) (by rw [at_some hj]; exact ky)
theorem y_state {σ : SG} {ν : NU} {γ : RH} {n np : Nat} (h : SIM σ ν γ n np) {p : Int32} {post : Int32 → Prop} {px : String → Prop} (kn : ¬ (0 ≤ p.toInt ∧ p.toInt < n) → px IOB) (ky : ∀ k, k < n → p = nI k → post ((cv9 n np γ).2.2.2.2.1 k)) : wpX6_state σ ν p post px := by
  obtain ⟨⟨hD, hC, ⟨-, -, hL, -⟩, h7, -, -, h5⟩, hV⟩ := id h
  have h40 := hD.1
  refine c_needI hL hC.1 h40 kn (fun k hk e => ?_)
  have ky := ky k hk e
  rw [e]
  exact s_stateOf (by decide) (by omega) (by rw [hV.1.2.1 k hk]; exact ky)
theorem y_commences {σ : SG} {ν : NU} {γ : RH} {n np : Nat} (h : SIM σ ν γ n np) {p : Int32} {post : Int32 → Prop} {px : String → Prop} (kn : ¬ (0 ≤ p.toInt ∧ p.toInt < n) → px IOB) (ky : ∀ k, k < n → p = nI k → post (cm9 γ (γ 34 0) k)) : wpX6_commences σ ν p post px := by
  obtain ⟨⟨hD, hC, ⟨-, -, hL, -⟩, h7, -, -, h5⟩, hV⟩ := id h
  have h40 := hD.1
  refine c_needI hL hC.1 h40 kn (fun k hk e => ?_)
  have ky := ky k hk e
  rw [e]
  exact s_beginningOf (by decide) (by omega) (by rw [hV.2.2.1 k hk]; exact ky)
theorem y_provisionAt {σ : SG} {ν : NU} {γ : RH} {n np : Nat} (h : SIM σ ν γ n np) {p : Int32} {post : Int32 → Prop} {px : String → Prop} (kn : p.toInt < 0 → px IOB) (ky : ∀ k, k < 2147483648 → p = nI k → post (oI (ls9 (cv9 n np γ))[k]?)) : wpX6_provisionAt σ ν p post px := by
  obtain ⟨⟨hD, hC, -, h7, -, -, h5⟩, hV⟩ := id h
  have hG := h.gd
  obtain ⟨-, hl⟩ := ls9_stp hG
  have hLD : LD9 σ 0 (ls9 (cv9 n np γ)) := hV.2.2.2
  unfold wpX6_provisionAt
  by_cases c : p.toInt < 0
  · rw [if_pos c]
    exact kn c
  · obtain ⟨k, hk, rfl⟩ := nn_nI c
    have hkc : (nI k).toNatClampNeg = k := cl_n hk
    have ky := ky k hk rfl
    unfold wpX5_listedAt
    rw [if_neg c, if_neg c]
    refine ⟨by decide, ?_⟩
    rw [hLD.1, ti_n hk, ti_n (by omega), hkc]
    by_cases c2 : k < (ls9 (cv9 n np γ)).length
    · rw [List.getElem?_eq_getElem c2] at ky
      rw [if_pos (by omega), if_pos (by omega), hLD.2 k c2]
      exact ⟨vi_n (by omega) (by decide), ky⟩
    · rw [List.getElem?_eq_none (by omega)] at ky
      rw [if_neg (by omega)]
      exact ky
theorem y_wordAnew {σ : SG} {ν : NU} {γ : RH} {n np : Nat} (h : SIM σ ν γ n np) {p q : Int32} {post : Int32 → SG → Prop} {px : String → SG → Prop} (kn : ¬ (0 ≤ p.toInt ∧ p.toInt < np) → px IOB σ) (kq : q.toInt < 0 → px IOB σ) (ky : ∀ (k j : Nat), k < np → p = nI k → j < 2147483648 → q = nI j → ∀ σ', SIM σ' ν γ n np → post (wat9 (cv9 n np γ) k j) σ') : wpX6_wordAnew σ ν p q post px := by
  obtain ⟨⟨hD, hC, -, h7, -, -, h5⟩, hV⟩ := id h
  have hG := h.gd
  have h20 := hD.2.1
  refine c_needP h7 h20 kn (fun c1 => ?_)
  by_cases c2 : q.toInt < 0
  · rw [if_pos c2]; exact kq c2
  rw [if_neg c2]
  obtain ⟨k, hk, rfl⟩ := in_nI c1.1 c1.2
  obtain ⟨j, hj, rfl⟩ := nn_nI c2
  have ky := ky k j hk rfl hj rfl
  unfold wat9 at ky
  refine s_findAnew (v := 0) (T := or9 γ n (γ 33 0) (γ 34 0) (γ 35 0)) (eff := ef9 γ (γ 33 0) (γ 34 0) (γ 35 0)) (kn := γ 34 0) (by decide) hD hC (fun x hx => tn9_mem.mp hx) tn9_nodup hV hG (by omega) hj (fun ht => ?_) (fun ht σ' g => ?_)
  · have ky := ky σ h
    rw [if_neg (by rw [show (cv9 n np γ).1 k = false from ht]; decide)] at ky
    exact ky
  · have ky := ky σ' (h.anew g)
    rw [if_pos (show (cv9 n np γ).1 k = true from ht)] at ky
    exact ky
/-- what a reference refers to -/
def rf9 (n np : Nat) (γ : RH) (m i : Nat) : Int32 := if m < 100 then -1 else if m < 120 then lb9 (cv9 n np γ) (m - 100) else lb9 (vw9 n np γ (cm9 γ (γ 34 0) i) (γ 34 0) (γ 35 0)) (m - 120)
set_option maxHeartbeats 1000000 in
set_option maxRecDepth 100000 in
theorem y_refers {σ : SG} {ν : NU} {γ : RH} {n np : Nat} (h : SIM σ ν γ n np) {p q : Int32} {post : Int32 → SG → NU → Prop} {px : String → Prop} (kn : ¬ hw9 np (cv9 n np γ) p q → px IOB) (ky : ∀ (k j : Nat), k < np → p = nI k → (cv9 n np γ).1 k = true → ∀ (hj : j < ((cv9 n np γ).2.2.2.1 k).length), q = nI j → ∀ m i, m < 140 → i < n → (((cv9 n np γ).2.2.2.1 k)[j]) = (nI m, nI i) → ∀ σ' ν', SIM σ' ν' γ n np → post (rf9 n np γ m i) σ' ν') : wpX6_refers σ ν p q post px := by
  obtain ⟨⟨hD, hC, hH, h7, -, -, h5⟩, hV⟩ := id h
  have hG := h.gd
  have h20 := hD.2.1
  have h40 := hD.1
  refine c_needWord h7 h20 hV.1 hG kn (fun k j hk ek ht hj ej => ?_)
  subst ek ej
  have hj : j < ((cv9 n np γ).2.2.2.1 k).length := hj
  have hl : ((cv9 n np γ).2.2.2.1 k).length ≤ 12 := ((hV.1.1 k (by omega)).2 ht).2.2.1
  obtain ⟨hw, i, hiT, hi⟩ := hG.2.2.2.2.1 k (by omega) ht _ (List.getElem_mem hj)
  obtain ⟨m, hm, hwm⟩ := in_nI (N := 140) hw.1 (by have := hw.2; omega)
  obtain ⟨hin, hie⟩ := tn9_mem.mp hiT
  have hcm : okd (cm9 γ (γ 34 0) i) := (cm9_ok hD hin).resolve_left (ef9_cm hie).1
  have ky := ky k j hk rfl ht hj rfl m i hm hin (Prod.ext hwm hi)
  unfold rf9 at ky
  have rd : ∀ {post : Int32 → Prop}, post (nI m) → wpX5_readAt σ ν 0 (nI k) (nI j) post := fun hp => s_readAtV (by decide) hV.1 hG (by omega) ht (by omega) (by rw [at_some hj]; rw [← hwm] at hp; exact hp)
  refine rd ?_
  by_cases c1 : m < 100
  · rw [if_pos c1] at ky
    rw [ti_n (by omega), if_pos (by omega)]
    exact ky σ ν h
  rw [if_neg c1] at ky
  by_cases c2 : m < 120
  · have e100 : nI m - (100 : Int32) = nI (m - 100) := by rw [li100, pk_sub (by omega)]
    rw [if_pos c2] at ky
    rw [ti_n (by omega), if_neg (by omega), if_pos (by omega), e100]
    exact c_lb9 (by decide) hV.1 (by omega) (ky σ ν h)
  · have e120 : nI m - (120 : Int32) = nI (m - 120) := by rw [li120, pk_sub (by omega)]
    rw [if_neg c2] at ky
    rw [ti_n (by omega), if_neg (by omega), if_neg (by omega), e120]
    refine s_sourceAtV (by decide) hV.1 hG (by omega) ht (by omega) ?_
    rw [at_some hj]
    show wpX5_beginningOf σ ν 0 (((cv9 n np γ).2.2.2.1 k)[j]).2 _
    rw [hi]
    refine s_beginningOf (by decide) (by omega) ⟨by decide, fun t2 e2 t4 e4 t6 e6 => ?_⟩
    rw [hV.2.2.1 i hin] at e2
    have go : ∀ a b, ¬ (a = 1 ∧ b = 1) → t6 a b = σ a b := fun a b z => by rw [e6, u3_oth z, e4, u3_oth z, e2, u3_oth z]
    have e4' : t4 = u3 t2 1 1 11 (σ 1 0 11) := by rw [e4]
    have e6' : t6 = u3 t4 1 1 12 (σ 1 0 12) := by rw [e6]
    have h6 := h.turn1 go
    obtain ⟨⟨hD6, hC6, ⟨-, -, hL6, hc6, -, hv6⟩, -⟩, -⟩ := id h6
    refine s_build (v := 1) (d := cm9 γ (γ 34 0) i) (kn := γ 34 0) (te := γ 35 0) (by decide) hD6 hC6 hL6 ?_ ?_ ?_ hcm.2 hv6 (hc6.bd 1) (fun σ' ν' g gm bd vb => ?_)
    · rw [e6']
      simp only [u3, e4', e2]
      rfl
    · rw [e6']
      simp only [u3, e4', e2]
      exact h5.2.2.1
    · rw [e6']
      simp only [u3]
      exact h5.2.2.2
    · exact c_lb9 (by decide) vb.1 (by omega) (ky σ' ν' (h6.frz g gm bd vb.2.1.vl))
theorem y_conflicts {σ : SG} {ν : NU} {γ : RH} {n np : Nat} (h : SIM σ ν γ n np) {post : Int32 → Prop} (ky : post (nI (pcl (cf9 γ (γ 34 0) (cv9 n np γ)) (or9 γ n (γ 33 0) (γ 34 0) (γ 35 0))))) : wpX6_conflicts σ ν post := by
  obtain ⟨⟨hD, hC, hH, h7, -, -, h5⟩, hV⟩ := id h
  exact s_countConflicts (by decide) hD hC hV (fun x hx => (tn9_mem.mp hx).1) ky
theorem y_print {σ : SG} {ν : NU} {γ : RH} {n np : Nat} (h : SIM σ ν γ n np) {post : Int64 → Prop} (ky : post (pl8 (cv9 n np γ) (ls9 (cv9 n np γ)) 11)) : wpX6_print σ ν post := by
  obtain ⟨⟨hD, hC, hH, h7, -, -, h5⟩, hV⟩ := id h
  have hG := h.gd
  exact s_foldC (by decide) hV.1 hV.2.2.2 hG ky
