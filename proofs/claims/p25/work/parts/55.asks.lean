/-! Each question: both throw alike, and answer alike. -/
/-- a pure question of the class -/
def ZP (xl : List String) (wc : (Int32 → Prop) → (String → Prop) → Prop) (wr : (Int32 → RH → Prop) → Prop) (ρ : RH) : Prop :=
  ∃ k r : Int32, wc (fun r' => k = 0 ∧ r' = r) (fun E => xk9 xl E k) ∧ wr (fun b ρ' => ρ' 48 0 = k ∧ (k = 0 → b = r) ∧ lgd ρ ρ')
theorem xk9_0 {E : String} {xl : List String} : xk9 (E :: xl) E 1 := ⟨0, rfl, by decide, rfl⟩
theorem xk9_1 {E F : String} {xl : List String} : xk9 (F :: E :: xl) E 2 := ⟨1, rfl, by decide, rfl⟩
theorem xk9_2 {E F G : String} {xl : List String} : xk9 (F :: G :: E :: xl) E 3 := ⟨2, rfl, by decide, rfl⟩
theorem i1n0 : (1 : Int32) ≠ 0 := by decide
theorem i2n0 : (2 : Int32) ≠ 0 := by decide
theorem i3n0 : (3 : Int32) ≠ 0 := by decide
theorem SIM.gd {σ : SG} {ν : NU} {ρ : RH} {n np : Nat} (h : SIM σ ν ρ n np) : GD n np ρ (or9 ρ n (ρ 33 0) (ρ 34 0) (ρ 35 0)) (cv9 n np ρ) := GD_vw h.1.1
theorem z_label {σ : SG} {ν : NU} {ρ : RH} {n np : Nat} (h : SIM σ ν ρ n np) (p : Int32) : ZP [IOB] (wpX6_label σ ν p) (wpX7_label ρ p) ρ := by
  obtain ⟨⟨hD, hC, -, h7, -, -, h5⟩, hV⟩ := id h
  have hG := h.gd
  have h20 := hD.2.1
  by_cases c : 0 ≤ p.toInt ∧ p.toInt < np
  · obtain ⟨k, hk, rfl⟩ := in_nI c.1 c.2
    have hkc : (nI k).toNatClampNeg = k := cl_n (by omega)
    refine ⟨0, if (cv9 n np ρ).1 k = true then (cv9 n np ρ).2.1 k else -1, ?_, ?_⟩
    · refine c_needP h7 h20 (fun q => absurd c q) (fun _ => s_labelOf (by decide) (by omega) ⟨rfl, ?_⟩)
      obtain ⟨a, b⟩ := hV.1.1 k (by omega)
      by_cases ht : (cv9 n np ρ).1 k = true
      · rw [if_pos ht]; exact (b ht).1
      · rw [if_neg ht]; exact a (by simpa using ht)
    · refine s_asks hD h5.1 (fun q => absurd c q) (fun k' hk' e ρ' r1 r2 r3 => ?_)
      have : k = k' := nI_inj (by omega) (by omega) e
      subst this
      have hv : vp_in (nI k) 20 := vi_n (by omega) (by decide)
      rw [if_neg z1I]
      refine ⟨hv, ?_⟩
      rw [hkc, (r1.1.1 k (by omega)).1]
      by_cases ht : (cv9 n np ρ).1 k = true
      · rw [bI_t ht, if_neg z1I]
        exact ⟨hv, r3, fun _ => by rw [if_pos ht]; exact ((r1.1.1 k (by omega)).2 ht).1, r2⟩
      · rw [bI_f ht, if_pos z0I]
        exact ⟨r3, fun _ => by rw [if_neg ht], r2⟩
  · refine ⟨1, 0, c_needP h7 h20 (fun _ => xk9_0) (fun q => absurd q c), s_asks hD h5.1 (fun _ ρ' r2 r3 => ?_) (fun k hk e => ?_)⟩
    · rw [if_pos z0I]
      exact ⟨r3, fun q => absurd q i1n0, r2⟩
    · exact absurd ⟨by rw [e, ti_n (by omega)]; omega, by rw [e, ti_n (by omega)]; omega⟩ c
theorem z_parent {σ : SG} {ν : NU} {ρ : RH} {n np : Nat} (h : SIM σ ν ρ n np) (p : Int32) : ZP [IOB] (wpX6_parent σ ν p) (wpX7_parent ρ p) ρ := by
  obtain ⟨⟨hD, hC, -, h7, -, -, h5⟩, hV⟩ := id h
  have hG := h.gd
  have h20 := hD.2.1
  by_cases c : 0 ≤ p.toInt ∧ p.toInt < np
  · obtain ⟨k, hk, rfl⟩ := in_nI c.1 c.2
    have hkc : (nI k).toNatClampNeg = k := cl_n (by omega)
    refine ⟨0, if (cv9 n np ρ).1 k = true then (cv9 n np ρ).2.2.1 k else -1, ?_, ?_⟩
    · refine c_needP h7 h20 (fun q => absurd c q) (fun _ => s_isThere (by decide) hV.1 hG (by omega) ?_)
      obtain ⟨a, b⟩ := hV.1.1 k (by omega)
      by_cases ht : (cv9 n np ρ).1 k = true
      · rw [bI_t ht, if_neg z1I]
        exact s_outerOf (by decide) (by omega) ⟨rfl, by rw [if_pos ht]; exact (b ht).2.1⟩
      · rw [bI_f ht, if_pos z0I]
        exact ⟨rfl, by rw [if_neg ht]⟩
    · refine s_asks hD h5.1 (fun q => absurd c q) (fun k' hk' e ρ' r1 r2 r3 => ?_)
      have : k = k' := nI_inj (by omega) (by omega) e
      subst this
      have hv : vp_in (nI k) 20 := vi_n (by omega) (by decide)
      rw [if_neg z1I]
      refine ⟨hv, ?_⟩
      rw [hkc, (r1.1.1 k (by omega)).1]
      by_cases ht : (cv9 n np ρ).1 k = true
      · rw [bI_t ht, if_neg z1I]
        exact ⟨hv, r3, fun _ => by rw [if_pos ht]; exact ((r1.1.1 k (by omega)).2 ht).2.1, r2⟩
      · rw [bI_f ht, if_pos z0I]
        exact ⟨r3, fun _ => by rw [if_neg ht], r2⟩
  · refine ⟨1, 0, c_needP h7 h20 (fun _ => xk9_0) (fun q => absurd q c), s_asks hD h5.1 (fun _ ρ' r2 r3 => ?_) (fun k hk e => ?_)⟩
    · rw [if_pos z0I]
      exact ⟨r3, fun q => absurd q i1n0, r2⟩
    · exact absurd ⟨by rw [e, ti_n (by omega)]; omega, by rw [e, ti_n (by omega)]; omega⟩ c
theorem z_words {σ : SG} {ν : NU} {ρ : RH} {n np : Nat} (h : SIM σ ν ρ n np) (p : Int32) : ZP [IOB] (wpX6_words σ ν p) (wpX7_words ρ p) ρ := by
  obtain ⟨⟨hD, hC, -, h7, -, -, h5⟩, hV⟩ := id h
  have hG := h.gd
  have h20 := hD.2.1
  by_cases c : 0 ≤ p.toInt ∧ p.toInt < np
  · obtain ⟨k, hk, rfl⟩ := in_nI c.1 c.2
    have hkc : (nI k).toNatClampNeg = k := cl_n (by omega)
    refine ⟨0, if (cv9 n np ρ).1 k = true then nI ((cv9 n np ρ).2.2.2.1 k).length else -1, ?_, ?_⟩
    · exact c_needP h7 h20 (fun q => absurd c q) (fun _ => s_countOf (by decide) hV.1 hG (by omega) ⟨rfl, rfl⟩)
    · refine s_asks hD h5.1 (fun q => absurd c q) (fun k' hk' e ρ' r1 r2 r3 => ?_)
      have : k = k' := nI_inj (by omega) (by omega) e
      subst this
      have hv : vp_in (nI k) 20 := vi_n (by omega) (by decide)
      rw [if_neg z1I]
      refine ⟨hv, ?_⟩
      rw [hkc, (r1.1.1 k (by omega)).1]
      by_cases ht : (cv9 n np ρ).1 k = true
      · rw [bI_t ht, if_neg z1I]
        exact ⟨hv, r3, fun _ => by rw [if_pos ht]; exact ((r1.1.1 k (by omega)).2 ht).2.2.2.1, r2⟩
      · rw [bI_f ht, if_pos z0I]
        exact ⟨r3, fun _ => by rw [if_neg ht], r2⟩
  · refine ⟨1, 0, c_needP h7 h20 (fun _ => xk9_0) (fun q => absurd q c), s_asks hD h5.1 (fun _ ρ' r2 r3 => ?_) (fun k hk e => ?_)⟩
    · rw [if_pos z0I]
      exact ⟨r3, fun q => absurd q i1n0, r2⟩
    · exact absurd ⟨by rw [e, ti_n (by omega)]; omega, by rw [e, ti_n (by omega)]; omega⟩ c
theorem at_some {l : TXT} {j : Nat} (hj : j < l.length) : l[j]? = some l[j] := List.getElem?_eq_getElem hj
theorem z_wordAt {σ : SG} {ν : NU} {ρ : RH} {n np : Nat} (h : SIM σ ν ρ n np) (p q : Int32) : ZP [IOB] (wpX6_wordAt σ ν p q) (wpX7_wordAt ρ p q) ρ := by
  obtain ⟨⟨hD, hC, -, h7, -, -, h5⟩, hV⟩ := id h
  have hG := h.gd
  have h20 := hD.2.1
  by_cases c : hw9 np (cv9 n np ρ) p q
  · obtain ⟨k, j, hk, rfl, ht, hj, rfl⟩ := c
    have hl : ((cv9 n np ρ).2.2.2.1 k).length ≤ 12 := ((hV.1.1 k (by omega)).2 ht).2.2.1
    refine ⟨0, (((cv9 n np ρ).2.2.2.1 k)[j]).1, ?_, ?_⟩
    · refine c_needWord h7 h20 hV.1 hG (fun z => absurd ⟨k, j, hk, rfl, ht, hj, rfl⟩ z) (fun k' j' _ _ _ _ _ => s_readAtV (by decide) hV.1 hG (by omega) ht (by omega) ⟨rfl, ?_⟩)
      rw [at_some hj]
    · refine s_asksPlace hD h5.1 (fun z => absurd ⟨k, j, hk, rfl, ht, hj, rfl⟩ z) (fun k' j' hk' e1 ht' hj' e2 ρ' r1 r2 r3 => ?_)
      rw [if_neg z1I, li12, pk_mul, nI_add, cl_n (by omega)]
      exact ⟨vi_n (by omega) (by decide), r3, fun _ => (((r1.1.1 k (by omega)).2 ht).2.2.2.2 j hj).1, r2⟩
  · refine ⟨1, 0, c_needWord h7 h20 hV.1 hG (fun _ => xk9_0) (fun k j a1 a2 a3 a4 a5 => absurd ⟨k, j, a1, a2, a3, a4, a5⟩ c), s_asksPlace hD h5.1 (fun _ ρ' r2 r3 => ?_) (fun k j a1 a2 a3 a4 a5 => absurd ⟨k, j, a1, a2, a3, a4, a5⟩ c)⟩
    rw [if_pos z0I]
    exact ⟨r3, fun q => absurd q i1n0, r2⟩
theorem z_origin {σ : SG} {ν : NU} {ρ : RH} {n np : Nat} (h : SIM σ ν ρ n np) (p q : Int32) : ZP [IOB] (wpX6_origin σ ν p q) (wpX7_origin ρ p q) ρ := by
  obtain ⟨⟨hD, hC, -, h7, -, -, h5⟩, hV⟩ := id h
  have hG := h.gd
  have h20 := hD.2.1
  by_cases c : hw9 np (cv9 n np ρ) p q
  · obtain ⟨k, j, hk, rfl, ht, hj, rfl⟩ := c
    have hl : ((cv9 n np ρ).2.2.2.1 k).length ≤ 12 := ((hV.1.1 k (by omega)).2 ht).2.2.1
    refine ⟨0, (((cv9 n np ρ).2.2.2.1 k)[j]).2, ?_, ?_⟩
    · refine c_needWord h7 h20 hV.1 hG (fun z => absurd ⟨k, j, hk, rfl, ht, hj, rfl⟩ z) (fun k' j' _ _ _ _ _ => s_sourceAtV (by decide) hV.1 hG (by omega) ht (by omega) ⟨rfl, ?_⟩)
      rw [at_some hj]
    · refine s_asksPlace hD h5.1 (fun z => absurd ⟨k, j, hk, rfl, ht, hj, rfl⟩ z) (fun k' j' hk' e1 ht' hj' e2 ρ' r1 r2 r3 => ?_)
      rw [if_neg z1I, li12, pk_mul, nI_add, cl_n (by omega)]
      exact ⟨vi_n (by omega) (by decide), r3, fun _ => (((r1.1.1 k (by omega)).2 ht).2.2.2.2 j hj).2, r2⟩
  · refine ⟨1, 0, c_needWord h7 h20 hV.1 hG (fun _ => xk9_0) (fun k j a1 a2 a3 a4 a5 => absurd ⟨k, j, a1, a2, a3, a4, a5⟩ c), s_asksPlace hD h5.1 (fun _ ρ' r2 r3 => ?_) (fun k j a1 a2 a3 a4 a5 => absurd ⟨k, j, a1, a2, a3, a4, a5⟩ c)⟩
    rw [if_pos z0I]
    exact ⟨r3, fun q => absurd q i1n0, r2⟩
theorem z_state {σ : SG} {ν : NU} {ρ : RH} {n np : Nat} (h : SIM σ ν ρ n np) (p : Int32) : ZP [IOB] (wpX6_state σ ν p) (wpX7_state ρ p) ρ := by
  obtain ⟨⟨hD, hC, ⟨-, -, hL, -⟩, h7, -, -, h5⟩, hV⟩ := id h
  have h40 := hD.1
  by_cases c : 0 ≤ p.toInt ∧ p.toInt < n
  · obtain ⟨k, hk, rfl⟩ := in_nI c.1 c.2
    have hkc : (nI k).toNatClampNeg = k := cl_n (by omega)
    refine ⟨0, (cv9 n np ρ).2.2.2.2.1 k, ?_, ?_⟩
    · exact c_needI hL hC.1 h40 (fun q => absurd c q) (fun k' hk' e => s_stateOf (by decide) (by omega) ⟨rfl, hV.1.2.1 k hk⟩)
    · unfold wpX7_state
      refine s_laysR hD h5.1 (fun ρ1 h1 g1 _ => s_isInstructionR h1.2.2.2.1 h40 ?_)
      rw [bI_t c, if_neg z1I]
      unfold jX7_state_18
      refine s_goes (fun t et => ?_)
      rw [bI_t rfl, if_neg z1I]
      subst et
      refine ⟨vi_n (by omega) (by decide), by rw [u2_at, if_pos rfl], fun _ => ?_, g1.tr lgd_48⟩
      rw [hkc, u2_oth (by decide)]
      exact (h1.1.2 k hk).1
  · refine ⟨1, 0, c_needI hL hC.1 h40 (fun _ => xk9_0) (fun k hk e => absurd ⟨by rw [e, ti_n (by omega)]; omega, by rw [e, ti_n (by omega)]; omega⟩ c), ?_⟩
    unfold wpX7_state
    refine s_laysR hD h5.1 (fun ρ1 h1 g1 _ => s_isInstructionR h1.2.2.2.1 h40 ?_)
    rw [bI_f c, if_pos z0I]
    unfold jX7_state_18
    refine s_goes (fun t et => ?_)
    rw [bI_f i1n0, if_pos z0I]
    subst et
    exact ⟨by rw [u2_at, if_pos rfl], fun q => absurd q i1n0, g1.tr lgd_48⟩
theorem z_commences {σ : SG} {ν : NU} {ρ : RH} {n np : Nat} (h : SIM σ ν ρ n np) (p : Int32) : ZP [IOB] (wpX6_commences σ ν p) (wpX7_commences ρ p) ρ := by
  obtain ⟨⟨hD, hC, ⟨-, -, hL, -⟩, h7, -, -, h5⟩, hV⟩ := id h
  have h40 := hD.1
  by_cases c : 0 ≤ p.toInt ∧ p.toInt < n
  · obtain ⟨k, hk, rfl⟩ := in_nI c.1 c.2
    refine ⟨0, cm9 ρ (ρ 34 0) k, ?_, ?_⟩
    · exact c_needI hL hC.1 h40 (fun q => absurd c q) (fun k' hk' e => s_beginningOf (by decide) (by omega) ⟨rfl, hV.2.2.1 k hk⟩)
    · unfold wpX7_commences
      refine s_isInstructionR hD.2.2.1 h40 ?_
      rw [bI_t c, if_neg z1I]
      unfold jX7_commences_14
      refine s_goes (fun t et => ?_)
      rw [bI_t rfl, if_neg z1I]
      subst et
      refine s_commencesBy (hD.same lgd_48).wd h40 hk ?_
      rw [u2_oth (by decide), cm9_ln (lgd_48.n (n := n)) hk]
      exact ⟨by rw [u2_at, if_pos rfl], fun _ => rfl, lgd_48⟩
  · refine ⟨1, 0, c_needI hL hC.1 h40 (fun _ => xk9_0) (fun k hk e => absurd ⟨by rw [e, ti_n (by omega)]; omega, by rw [e, ti_n (by omega)]; omega⟩ c), ?_⟩
    unfold wpX7_commences
    refine s_isInstructionR hD.2.2.1 h40 ?_
    rw [bI_f c, if_pos z0I]
    unfold jX7_commences_14
    refine s_goes (fun t et => ?_)
    rw [bI_f i1n0, if_pos z0I]
    subst et
    exact ⟨by rw [u2_at, if_pos rfl], fun q => absurd q i1n0, lgd_48⟩
theorem z_provisionAt {σ : SG} {ν : NU} {ρ : RH} {n np : Nat} (h : SIM σ ν ρ n np) (p : Int32) : ZP [IOB] (wpX6_provisionAt σ ν p) (wpX7_provisionAt ρ p) ρ := by
  obtain ⟨⟨hD, hC, -, h7, -, -, h5⟩, hV⟩ := id h
  have hG := h.gd
  obtain ⟨-, hl⟩ := ls9_stp hG
  have hLD : LD9 σ 0 (ls9 (cv9 n np ρ)) := hV.2.2.2
  by_cases c : p.toInt < 0
  · refine ⟨1, 0, ?_, ?_⟩
    · unfold wpX6_provisionAt
      rw [if_pos c]
      exact xk9_0
    · unfold wpX7_provisionAt
      rw [if_pos c]
      unfold jX7_provisionAt_10
      refine s_goes (fun t et => ?_)
      rw [bI_f i1n0, if_pos z0I]
      subst et
      exact ⟨by rw [u2_at, if_pos rfl], fun q => absurd q i1n0, lgd_48⟩
  · obtain ⟨k, hk, rfl⟩ := nn_nI c
    have hkc : (nI k).toNatClampNeg = k := cl_n hk
    refine ⟨0, oI (ls9 (cv9 n np ρ))[k]?, ?_, ?_⟩
    · unfold wpX6_provisionAt wpX5_listedAt
      rw [if_neg c, if_neg c]
      refine ⟨by decide, ?_⟩
      rw [hLD.1, ti_n hk, ti_n (by omega), hkc]
      by_cases c2 : k < (ls9 (cv9 n np ρ)).length
      · rw [if_pos (by omega), if_pos (by omega), hLD.2 k c2, List.getElem?_eq_getElem c2]
        exact ⟨vi_n (by omega) (by decide), rfl, rfl⟩
      · rw [if_neg (by omega), List.getElem?_eq_none (by omega)]
        exact ⟨rfl, rfl⟩
    · unfold wpX7_provisionAt
      rw [if_neg c]
      unfold jX7_provisionAt_10
      refine s_goes (fun t et => ?_)
      rw [bI_t rfl, if_neg z1I]
      subst et
      have hD1 := hD.same (lgd_48 (ρ := ρ) (i := 0) (x := 0))
      refine s_laysR hD1 (by rw [u2_oth (by decide)]; exact h5.1) (fun ρ1 h1 g1 g48 => ?_)
      have e : cv9 n np (u2 ρ 48 0 0) = cv9 n np ρ := by
        show vw9 n np _ _ _ _ = _
        rw [u2_oth (by decide), u2_oth (by decide), u2_oth (by decide)]
        exact vw9_ln hD (lgd_48.n)
      rw [e] at h1
      refine s_provisionAt h1 hG c ?_
      rw [hkc]
      exact ⟨by rw [g48, u2_at, if_pos rfl], fun _ => rfl, lgd_48.tr g1⟩
