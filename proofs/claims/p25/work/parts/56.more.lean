/-! The questions that write in the class, the counts, the print, look. -/
def ZS (xl : List String) (wc : (Int32 → SG → NU → Prop) → (String → SG → NU → Prop) → Prop) (wr : (Int32 → RH → Prop) → Prop) : Prop :=
  ∃ (k r : Int32) (P : SG → NU → Prop) (R : RH → Prop), wc (fun r' σ' ν' => k = 0 ∧ r' = r ∧ P σ' ν') (fun E σ' ν' => xk9 xl E k ∧ P σ' ν') ∧ wr (fun b ρ' => ρ' 48 0 = k ∧ (k = 0 → b = r) ∧ R ρ') ∧ ∀ σ' ν' ρ', P σ' ν' → R ρ' → ∃ n' np', SIM σ' ν' ρ' n' np'
theorem SIM.anew {σ σ' : SG} {ν : NU} {ρ : RH} {n np : Nat} (h : SIM σ ν ρ n np) (g : lgC (21 * 0) σ σ') : SIM σ' ν ρ n np := by
  obtain ⟨h1, h2⟩ := h
  have hv := VB9.anew (v := 0) h2 g
  obtain ⟨-, -, ⟨-, -, -, a4, -, -⟩, -⟩ := id h1
  exact ⟨h1.b (v := 0) (by decide) (lgC.b (v := 0) g (by omega) (by omega)) frM.rf (a4.bd 0) hv.2.1.vl, hv⟩
theorem z_wordAnew {σ : SG} {ν : NU} {ρ : RH} {n np : Nat} (h : SIM σ ν ρ n np) (p q : Int32) : ZS [IOB] (fun post px => wpX6_wordAnew σ ν p q (fun r s => post r s ν) (fun E s => px E s ν)) (wpX7_wordAnew ρ p q) := by
  obtain ⟨⟨hD, hC, -, h7, -, -, h5⟩, hV⟩ := id h
  have hG := h.gd
  have h20 := hD.2.1
  have bad : ¬ ((0 ≤ p.toInt ∧ p.toInt < np) ∧ ¬ q.toInt < 0) → ZS [IOB] (fun post px => wpX6_wordAnew σ ν p q (fun r s => post r s ν) (fun E s => px E s ν)) (wpX7_wordAnew ρ p q) := fun c => by
    refine ⟨1, 0, fun s m => SIM s m ρ n np, fun ρ' => lgd ρ ρ', ?_, ?_, fun σ' ν' ρ' a b => ⟨n, np, a.lo b⟩⟩
    · refine c_needP h7 h20 (fun _ => ⟨xk9_0, h⟩) (fun z => ?_)
      have : q.toInt < 0 := Decidable.byContradiction (fun y => c ⟨z, y⟩)
      rw [if_pos this]
      exact ⟨xk9_0, h⟩
    · unfold wpX7_wordAnew
      refine s_laysR hD h5.1 (fun ρ1 h1 g1 _ => s_isProvisionR h1.2.1 h1.2.2.1 ?_)
      have fin : jX7_wordAnew_22 p q (fun b ρ' => ρ' 48 0 = 1 ∧ ((1 : Int32) = 0 → b = 0) ∧ lgd ρ ρ') ρ1 0 1 := by
        unfold jX7_wordAnew_22
        refine s_goes (fun t et => ?_)
        rw [bI_f i1n0, if_pos z0I]
        subst et
        exact ⟨by rw [u2_at, if_pos rfl], fun q => absurd q i1n0, g1.tr lgd_48⟩
      by_cases z : 0 ≤ p.toInt ∧ p.toInt < np
      · rw [bI_t z, if_neg z1I]
        have : q.toInt < 0 := Decidable.byContradiction (fun y => c ⟨z, y⟩)
        rw [if_pos this]
        exact fin
      · rw [bI_f z, if_pos z0I]
        exact fin
  by_cases c : ¬ ((0 ≤ p.toInt ∧ p.toInt < np) ∧ ¬ q.toInt < 0)
  · exact bad c
  have c := Decidable.byContradiction c
  obtain ⟨c1, c2⟩ := c
  obtain ⟨k, hk, rfl⟩ := in_nI c1.1 c1.2
  obtain ⟨j, hj, rfl⟩ := nn_nI c2
  have hkc : (nI k).toNatClampNeg = k := cl_n (by omega)
  refine ⟨0, if (cv9 n np ρ).1 k = true then (match ((cv9 n np ρ).2.2.2.1 k)[j]? with | none => -1 | some x => x.1) else -1, fun s m => SIM s m ρ n np, fun ρ' => lgd ρ ρ', ?_, ?_, fun σ' ν' ρ' a b => ⟨n, np, a.lo b⟩⟩
  · refine c_needP h7 h20 (fun z => absurd c1 z) (fun _ => ?_)
    rw [if_neg c2]
    refine s_findAnew (v := 0) (T := or9 ρ n (ρ 33 0) (ρ 34 0) (ρ 35 0)) (eff := ef9 ρ (ρ 33 0) (ρ 34 0) (ρ 35 0)) (kn := ρ 34 0) (by decide) hD hC (fun x hx => tn9_mem.mp hx) tn9_nodup hV hG (by omega) hj (fun ht => ⟨rfl, ?_, h⟩) (fun ht σ' g => ⟨rfl, ?_, h.anew g⟩)
    · rw [if_neg (by rw [show (cv9 n np ρ).1 k = false from ht]; decide)]
    · rw [if_pos (show (cv9 n np ρ).1 k = true from ht)]
      rfl
  · unfold wpX7_wordAnew
    refine s_laysR hD h5.1 (fun ρ1 h1 g1 _ => s_isProvisionR h1.2.1 h1.2.2.1 ?_)
    rw [bI_t c1, if_neg z1I, if_neg c2]
    unfold jX7_wordAnew_22
    refine s_goes (fun t et => ?_)
    rw [bI_t rfl, if_neg z1I]
    subst et
    refine s_hasPlace h1.u48 hk ?_
    by_cases z : (cv9 n np ρ).1 k = true ∧ 0 ≤ (nI j).toInt ∧ (nI j).toInt < ((cv9 n np ρ).2.2.2.1 k).length
    · rw [bI_t z, if_neg z1I]
      have hx := ((h1.1.1 k (by omega)).2 z.1).2.2
      have hl : ((cv9 n np ρ).2.2.2.1 k).length ≤ 12 := hx.1
      have hjl : j < ((cv9 n np ρ).2.2.2.1 k).length := by have := z.2.2; rw [ti_n hj] at this; omega
      rw [li12, pk_mul, nI_add, cl_n (by omega), if_pos z.1, at_some hjl, u2_oth (show (41 : Nat) ≠ 48 by decide)]
      exact ⟨vi_n (by omega) (by decide), by rw [u2_at, if_pos rfl], fun _ => (hx.2.2 j hjl).1, g1.tr lgd_48⟩
    · rw [bI_f z, if_pos z0I]
      refine ⟨by rw [u2_at, if_pos rfl], fun _ => ?_, g1.tr lgd_48⟩
      by_cases ht : (cv9 n np ρ).1 k = true
      · rw [if_pos ht]
        have : ¬ j < ((cv9 n np ρ).2.2.2.1 k).length := fun y => z ⟨ht, by rw [ti_n hj]; omega, by rw [ti_n hj]; omega⟩
        rw [List.getElem?_eq_none (by omega)]
      · rw [if_neg ht]
/-- the label of a provision that may not be there -/
def lb9 (C : CS) (m : Nat) : Int32 := if C.1 m = true then C.2.1 m else -1
theorem c_lb9 {σ : SG} {ν : NU} {v n m : Nat} {ρ : RH} {eff : Nat → Bool} {C : CS} {post : Int32 → Prop} (hv : v < 2) (hV : VC σ ν v n ρ eff C) (hm : m < 20) (k : post (lb9 C m)) : wpX5_labelOf σ ν v (nI m) post := by
  refine s_labelOf hv hm ?_
  obtain ⟨a, b⟩ := hV.1 m hm
  unfold lb9 at k
  by_cases ht : C.1 m = true
  · rw [if_pos ht] at k; rw [(b ht).1]; exact k
  · rw [if_neg ht] at k; rw [a (by simpa using ht)]; exact k
theorem r_lb9 {n np m : Nat} {ρ : RH} {C : CS} {p1 p2 : Int32} {post : Int32 → RH → Prop} (h : RV n np ρ C) (hm : m < 20) (k : post (lb9 C m) ρ) : jX7_refers_87 p1 p2 post ρ (nI m) := by
  have hc : (nI m).toNatClampNeg = m := cl_n (by omega)
  have hv : vp_in (nI m) 20 := vi_n hm (by decide)
  have h20 := h.2.2.1
  unfold jX7_refers_87
  unfold lb9 at k
  rw [h.2.1, ti_n (by omega), ti_n (by omega), hc]
  by_cases c : m < np
  · rw [if_pos (by omega)]
    refine ⟨hv, ?_⟩
    rw [(h.1.1 m hm).1]
    by_cases ht : C.1 m = true
    · rw [bI_t ht, if_neg z1I]
      rw [if_pos ht] at k
      refine ⟨hv, ?_⟩
      rw [((h.1.1 m hm).2 ht).1]
      exact k
    · rw [bI_f ht, if_pos z0I]
      rw [if_neg ht] at k
      exact k
  · rw [if_neg (by omega)]
    rw [if_neg (by rw [h.off (by omega) hm]; decide)] at k
    exact k
theorem SIM.turn1 {σ σ' : SG} {ν : NU} {ρ : RH} {n np : Nat} (h : SIM σ ν ρ n np) (g : ∀ a b, ¬ (a = 1 ∧ b = 1) → σ' a b = σ a b) : SIM σ' ν ρ n np := by
  obtain ⟨h1, h2⟩ := h
  obtain ⟨-, -, ⟨-, -, -, a4, a5, a6⟩, -⟩ := id h1
  refine ⟨h1.keep (fun a b h => g a b (fun z => by omega)) (g 0 0 (fun z => by omega)) (g 7 0 (fun z => by omega)) (fun c _ => by rw [g 1 0 (fun z => by omega)]) rfl rfl rfl rfl rfl a4 (a5.same (g 7 1 (fun z => by omega)) rfl) (a6.same (g 7 2 (fun z => by omega)) rfl), ?_⟩
  refine VB9.sg h2 (fun i hi he hk => ⟨(h2.1.2.2 i hi he hk).1, (h2.1.2.2 i hi he hk).2.same (fun a b h => g a b (fun z => by omega))⟩) (by rw [g 1 0 (fun z => by omega)]) (g 14 0 (fun z => by omega)) (g 15 0 (fun z => by omega)) (g 12 0 (fun z => by omega)) (g 11 0 (fun z => by omega)) (g 18 0 (fun z => by omega)) (g 7 1 (fun z => by omega)) (fun b _ _ => ⟨g 2 b (fun z => by omega), g 20 b (fun z => by omega), g 21 b (fun z => by omega)⟩) rfl rfl (Nat.le_refl _)
/-- the frozen view was built -/
theorem SIM.frz {σ σ' : SG} {ν ν' : NU} {ρ : RH} {n np : Nat} (h : SIM σ ν ρ n np) (g : frB 1 σ σ') (gm : frM 1 ν ν') (bd : BD9 1 ν') (vl : VL9 σ' ν' 1) : SIM σ' ν' ρ n np := by
  obtain ⟨h1, h2⟩ := h
  have gr : ∀ a b, ¬ (a = 1 ∧ b = 1) → ¬ ((a = 2 ∨ a = 20 ∨ a = 21) ∧ 21 ≤ b ∧ b ≤ 41) → ¬ (a = 7 ∧ b = 2) → ¬ ((a = 11 ∨ a = 12 ∨ a = 14 ∨ a = 15 ∨ a = 18) ∧ b = 1) → σ' a b = σ a b := fun a b q1 q2 q3 q4 => by
    funext c
    exact g a b c (fun z => q1 ⟨z.1, z.2.1⟩) (fun z => q2 ⟨z.1, by omega, by omega⟩) (fun z => q3 ⟨z.1, by omega⟩) q4
  refine ⟨h1.b (v := 1) (by decide) g gm bd vl, ?_⟩
  refine VB9.sg h2 (fun i hi he hk => ?_) (by rw [gr 1 0 (fun z => by omega) (fun z => by omega) (fun z => by omega) (fun z => by omega)]) (gr 14 0 (fun z => by omega) (fun z => by omega) (fun z => by omega) (fun z => by omega)) (gr 15 0 (fun z => by omega) (fun z => by omega) (fun z => by omega) (fun z => by omega)) (gr 12 0 (fun z => by omega) (fun z => by omega) (fun z => by omega) (fun z => by omega)) (gr 11 0 (fun z => by omega) (fun z => by omega) (fun z => by omega) (fun z => by omega)) (gr 18 0 (fun z => by omega) (fun z => by omega) (fun z => by omega) (fun z => by omega)) (gr 7 1 (fun z => by omega) (fun z => by omega) (fun z => by omega) (fun z => by omega)) (fun b q1 q2 => ⟨gr 2 b (fun z => by omega) (fun z => by omega) (fun z => by omega) (fun z => by omega), gr 20 b (fun z => by omega) (fun z => by omega) (fun z => by omega) (fun z => by omega), gr 21 b (fun z => by omega) (fun z => by omega) (fun z => by omega) (fun z => by omega)⟩) (gm 7 1 (fun z => by omega) (fun z => by omega)) (gm 8 1 (fun z => by omega) (fun z => by omega)) (by rw [gm.n99]; exact Nat.le_refl _)
  rw [gm 13 0 (fun z => by omega) (fun z => by omega)]
  exact ⟨(h2.1.2.2 i hi he hk).1, (h2.1.2.2 i hi he hk).2.same g.d⟩
theorem li100 : (100 : Int32) = nI 100 := rfl
theorem li120 : (120 : Int32) = nI 120 := rfl
set_option maxHeartbeats 1000000 in
set_option maxRecDepth 100000 in
theorem z_refers {σ : SG} {ν : NU} {ρ : RH} {n np : Nat} (h : SIM σ ν ρ n np) (p q : Int32) : ZS [IOB] (fun post px => wpX6_refers σ ν p q post (fun E => px E σ ν)) (wpX7_refers ρ p q) := by
  obtain ⟨⟨hD, hC, hH, h7, -, -, h5⟩, hV⟩ := id h
  have hG := h.gd
  have h20 := hD.2.1
  have h40 := hD.1
  by_cases c : ¬ hw9 np (cv9 n np ρ) p q
  · refine ⟨1, 0, fun s m => SIM s m ρ n np, fun ρ' => lgd ρ ρ', c_needWord h7 h20 hV.1 hG (fun _ => ⟨xk9_0, h⟩) (fun k j a1 a2 a3 a4 a5 => absurd ⟨k, j, a1, a2, a3, a4, a5⟩ c), s_asksPlace hD h5.1 (fun _ ρ' r2 r3 => ?_) (fun k j a1 a2 a3 a4 a5 => absurd ⟨k, j, a1, a2, a3, a4, a5⟩ c), fun σ' ν' ρ' a b => ⟨n, np, a.lo b⟩⟩
    rw [if_pos z0I]
    exact ⟨r3, fun q => absurd q i1n0, r2⟩
  have c := Classical.byContradiction c
  obtain ⟨k, j, hk, rfl, ht, hj, rfl⟩ := c
  have hl : ((cv9 n np ρ).2.2.2.1 k).length ≤ 12 := ((hV.1.1 k (by omega)).2 ht).2.2.1
  -- the word, where it comes from
  obtain ⟨hw, i, hiT, hi⟩ := hG.2.2.2.2.1 k (by omega) ht _ (List.getElem_mem hj)
  obtain ⟨m, hm, hwm⟩ := in_nI (N := 140) hw.1 (by have := hw.2; omega)
  obtain ⟨hin, hie⟩ := tn9_mem.mp hiT
  have hcm : okd (cm9 ρ (ρ 34 0) i) := (cm9_ok hD hin).resolve_left (ef9_cm hie).1
  have rd : ∀ {post : Int32 → Prop}, post (nI m) → wpX5_readAt σ ν 0 (nI k) (nI j) post := fun hp => s_readAtV (by decide) hV.1 hG (by omega) ht (by omega) (by rw [at_some hj]; rw [← hwm] at hp; exact hp)
  -- the reference's word
  have rw9 : ∀ ρ', RV n np ρ' (cv9 n np ρ) → ρ' 41 (((12 : Int32) * nI k) + nI j).toNatClampNeg = nI m ∧ ρ' 42 (((12 : Int32) * nI k) + nI j).toNatClampNeg = nI i := fun ρ' r1 => by
    rw [li12, pk_mul, nI_add, cl_n (by omega)]
    have := ((r1.1.1 k (by omega)).2 ht).2.2.2.2 j hj
    rw [this.1, this.2, hwm, hi]
    exact ⟨rfl, rfl⟩
  have vp9 : vp_in (((12 : Int32) * nI k) + nI j) 240 := by
    rw [li12, pk_mul, nI_add]
    exact vi_n (by omega) (by decide)
  by_cases c1 : m < 100
  · refine ⟨0, -1, fun s m => SIM s m ρ n np, fun ρ' => lgd ρ ρ', ?_, ?_, fun σ' ν' ρ' a b => ⟨n, np, a.lo b⟩⟩
    · refine c_needWord h7 h20 hV.1 hG (fun z => absurd ⟨k, j, hk, rfl, ht, hj, rfl⟩ z) (fun k' j' _ _ _ _ _ => rd ?_)
      rw [ti_n (by omega), if_pos (by omega)]
      exact ⟨rfl, rfl, h⟩
    · refine s_asksPlace hD h5.1 (fun z => absurd ⟨k, j, hk, rfl, ht, hj, rfl⟩ z) (fun k' j' hk' e1 ht' hj' e2 ρ' r1 r2 r3 => ?_)
      rw [if_neg z1I]
      refine ⟨vp9, ?_⟩
      rw [(rw9 ρ' r1).1, ti_n (by omega), if_pos (by omega)]
      exact ⟨r3, fun _ => rfl, r2⟩
  by_cases c2 : m < 120
  · have e100 : nI m - (100 : Int32) = nI (m - 100) := by rw [li100, pk_sub (by omega)]
    refine ⟨0, lb9 (cv9 n np ρ) (m - 100), fun s m => SIM s m ρ n np, fun ρ' => lgd ρ ρ', ?_, ?_, fun σ' ν' ρ' a b => ⟨n, np, a.lo b⟩⟩
    · refine c_needWord h7 h20 hV.1 hG (fun z => absurd ⟨k, j, hk, rfl, ht, hj, rfl⟩ z) (fun k' j' _ _ _ _ _ => rd ?_)
      rw [ti_n (by omega), if_neg (by omega), if_pos (by omega), e100]
      exact c_lb9 (by decide) hV.1 (by omega) ⟨rfl, rfl, h⟩
    · refine s_asksPlace hD h5.1 (fun z => absurd ⟨k, j, hk, rfl, ht, hj, rfl⟩ z) (fun k' j' hk' e1 ht' hj' e2 ρ' r1 r2 r3 => ?_)
      rw [if_neg z1I]
      refine ⟨vp9, ?_⟩
      rw [(rw9 ρ' r1).1, ti_n (by omega), if_neg (by omega), if_pos (by omega), e100]
      unfold jX7_refers_48
      rw [ti_n (by omega), if_pos (by omega)]
      exact r_lb9 r1 (by omega) ⟨r3, fun _ => rfl, r2⟩
  · have e120 : nI m - (120 : Int32) = nI (m - 120) := by rw [li120, pk_sub (by omega)]
    refine ⟨0, lb9 (vw9 n np ρ (cm9 ρ (ρ 34 0) i) (ρ 34 0) (ρ 35 0)) (m - 120), fun s m => SIM s m ρ n np, fun ρ' => lgd ρ ρ', ?_, ?_, fun σ' ν' ρ' a b => ⟨n, np, a.lo b⟩⟩
    · refine c_needWord h7 h20 hV.1 hG (fun z => absurd ⟨k, j, hk, rfl, ht, hj, rfl⟩ z) (fun k' j' _ _ _ _ _ => rd ?_)
      rw [ti_n (by omega), if_neg (by omega), if_neg (by omega), e120]
      refine s_sourceAtV (by decide) hV.1 hG (by omega) ht (by omega) ?_
      rw [at_some hj]
      show wpX5_beginningOf σ ν 0 (((cv9 n np ρ).2.2.2.1 k)[j]).2 _
      rw [hi]
      refine s_beginningOf (by decide) (by omega) ⟨by decide, fun t2 e2 t4 e4 t6 e6 => ?_⟩
      rw [hV.2.2.1 i hin] at e2
      have go : ∀ a b, ¬ (a = 1 ∧ b = 1) → t6 a b = σ a b := fun a b z => by rw [e6, u3_oth z, e4, u3_oth z, e2, u3_oth z]
      have e4' : t4 = u3 t2 1 1 11 (σ 1 0 11) := by rw [e4]
      have e6' : t6 = u3 t4 1 1 12 (σ 1 0 12) := by rw [e6]
      have h6 := h.turn1 go
      obtain ⟨⟨hD6, hC6, ⟨-, -, hL6, hc6, -, hv6⟩, -⟩, -⟩ := id h6
      refine s_build (v := 1) (d := cm9 ρ (ρ 34 0) i) (kn := ρ 34 0) (te := ρ 35 0) (by decide) hD6 hC6 hL6 ?_ ?_ ?_ hcm.2 hv6 (hc6.bd 1) (fun σ' ν' g gm bd vb => ?_)
      · rw [e6']
        simp only [u3, e4', e2]
        rfl
      · rw [e6']
        simp only [u3, e4', e2]
        exact h5.2.2.1
      · rw [e6']
        simp only [u3]
        exact h5.2.2.2
      · refine c_lb9 (by decide) vb.1 (by omega) ?_
        exact ⟨rfl, rfl, h6.frz g gm bd vb.2.1.vl⟩
    · refine s_asksPlace hD h5.1 (fun z => absurd ⟨k, j, hk, rfl, ht, hj, rfl⟩ z) (fun k' j' hk' e1 ht' hj' e2 ρ' r1 r2 r3 => ?_)
      have hD' := hD.same r2
      rw [if_neg z1I]
      refine ⟨vp9, ?_⟩
      rw [(rw9 ρ' r1).1, ti_n (by omega), if_neg (by omega), if_neg (by omega), e120]
      unfold jX7_refers_48
      rw [ti_n (by omega), if_neg (by omega)]
      refine ⟨vp9, ?_⟩
      rw [(rw9 ρ' r1).2, r2 34 (by omega), r2 35 (by omega)]
      refine s_commencesBy hD'.wd h40 hin ?_
      rw [cm9_ln (r2.n (n := n)) hin]
      refine s_views hD' hcm.2 (fun ρ2 q1 q2 => ?_)
      rw [vw9_ln hD r2.n] at q1
      have hG2 := GD_vw (d := cm9 ρ (ρ 34 0) i) (kn := ρ 34 0) (te := ρ 35 0) hD
      refine r_lb9 (n := n) (np := np) ⟨q1, by rw [q2 12 (by omega)]; exact hD'.2.2.2.1, h20, by rw [q2 11 (by omega)]; exact hD'.2.2.1, h40, hG2.1, hG2.2.2.1⟩ (by omega) ⟨by rw [q2 48 (by omega)]; exact r3, fun _ => rfl, r2.tr q2.lo⟩
