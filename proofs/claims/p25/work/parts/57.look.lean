/-! Counts, the print, and look. -/
theorem pc9_congr {f g : Nat → Nat → Bool} : ∀ {n : Nat}, (∀ i j, i < n → j < n → f i j = g i j) → pc9 f n = pc9 g n
  | 0, _ => rfl
  | n + 1, h => by
    show pc9 f n + cn9 (f n) n = pc9 g n + cn9 (g n) n
    rw [pc9_congr (fun i j hi hj => h i j (by omega) (by omega)), cn9_congr (fun k hk => h n k (by omega) (by omega))]
theorem z_conflicts {σ : SG} {ν : NU} {ρ : RH} {n np : Nat} (h : SIM σ ν ρ n np) : ∃ r : Int32, wpX6_conflicts σ ν (fun r' => r' = r) ∧ wpX7_conflicts ρ (fun b ρ' => b = r ∧ lgd ρ ρ') := by
  obtain ⟨⟨hD, hC, hH, h7, -, -, h5⟩, hV⟩ := id h
  have hG := h.gd
  have hTn : ∀ x ∈ or9 ρ n (ρ 33 0) (ρ 34 0) (ρ 35 0), x < n := fun x hx => (tn9_mem.mp hx).1
  refine ⟨nI (pcl (cf9 ρ (ρ 34 0) (cv9 n np ρ)) (or9 ρ n (ρ 33 0) (ρ 34 0) (ρ 35 0))), s_countConflicts (by decide) hD hC hV hTn rfl, ?_⟩
  intro t1 e1
  subst e1
  have hD1 := hD.same (lgd_48 (ρ := ρ) (i := 0) (x := 0))
  refine s_laysR hD1 (by rw [u2_oth (by decide)]; exact h5.1) (fun ρ1 h1 g1 _ => ?_)
  have e : cv9 n np (u2 ρ 48 0 0) = cv9 n np ρ := by
    show vw9 n np _ _ _ _ = _
    rw [u2_oth (by decide), u2_oth (by decide), u2_oth (by decide)]
    exact vw9_ln hD (lgd_48.n)
  rw [e] at h1
  have g2 : lgd ρ ρ1 := lgd_48.tr g1
  refine s_conflictsR (np := np) (C := cv9 n np ρ) (kn := ρ 34 0) (hD.same g2) h1.1 (congrFun (g2 34 (by omega)) 0) ⟨?_, g2⟩
  congr 1
  have ec : pc9 (cf9 ρ1 (ρ 34 0) (cv9 n np ρ)) n = pc9 (cf9 ρ (ρ 34 0) (cv9 n np ρ)) n := pc9_congr (fun i j hi hj => by
    unfold cf9
    rw [g2 13 (by omega), g2 14 (by omega), g2 15 (by omega), cm9_ln (g2.n (n := n)) hi, cm9_ln (g2.n (n := n)) hj])
  rw [ec]
  refine (pcl_done cf9_symm hTn tn9_nodup (fun x y hxy => ?_)).symm
  obtain ⟨a, b, -⟩ := cf9_iff.mp hxy
  have inT : ∀ z, (cv9 n np ρ).2.2.2.2.1 z = 1 → z ∈ or9 ρ n (ρ 33 0) (ρ 34 0) (ρ 35 0) := fun z hz => by
    by_cases q : z ∈ or9 ρ n (ρ 33 0) (ρ 34 0) (ρ 35 0)
    · exact q
    · have := (run_keep (k := z) (eff := ef9 ρ (ρ 33 0) (ρ 34 0) (ρ 35 0)) hD (or9 ρ n (ρ 33 0) (ρ 34 0) (ρ 35 0)) (c09 (aw9 ρ)) hTn q).1
      have h0 : (cv9 n np ρ).2.2.2.2.1 z = 0 := this
      rw [h0] at hz
      exact absurd hz (by decide)
  exact ⟨inT x a, inT y b⟩
theorem z_print {σ : SG} {ν : NU} {ρ : RH} {n np : Nat} (h : SIM σ ν ρ n np) : ∃ r : Int64, wpX6_print σ ν (fun r' => r' = r) ∧ wpX7_print ρ (fun b ρ' => b = r ∧ lgd ρ ρ') := by
  obtain ⟨⟨hD, hC, hH, h7, -, -, h5⟩, hV⟩ := id h
  have hG := h.gd
  refine ⟨pl8 (cv9 n np ρ) (ls9 (cv9 n np ρ)) 11, s_foldC (by decide) hV.1 hV.2.2.2 hG rfl, ?_⟩
  intro t1 e1
  subst e1
  have hD1 := hD.same (lgd_48 (ρ := ρ) (i := 0) (x := 0))
  refine s_laysR hD1 (by rw [u2_oth (by decide)]; exact h5.1) (fun ρ1 h1 g1 _ => ?_)
  have e : cv9 n np (u2 ρ 48 0 0) = cv9 n np ρ := by
    show vw9 n np _ _ _ _ = _
    rw [u2_oth (by decide), u2_oth (by decide), u2_oth (by decide)]
    exact vw9_ln hD (lgd_48.n)
  rw [e] at h1
  exact s_print h1 hG ⟨rfl, lgd_48.tr g1⟩
/-- rows of the view set: what else stands on the data -/
theorem SIMD.view {σ σ' : SG} {ν : NU} {ρ ρ' : RH} {n np : Nat} (h : SIMD σ ν ρ n np) (g : ∀ a b, ¬ (a = 1 ∧ b = 0) → σ' a b = σ a b) (gr : ∀ j, j < 33 → ρ' j = ρ j) (hv : VDY σ' ρ') : SIMD σ' ν ρ' n np := by
  obtain ⟨h1, h2, ⟨a1, a2, a3, a4, a5, a6⟩, h4, h5, h6, -⟩ := h
  have gl : lgn n ρ ρ' := ⟨fun j _ hj => gr j hj, fun i _ => by rw [gr 2 (by omega)]⟩
  have gd : frD σ σ' := fun a b hh => g a b (fun z => by omega)
  refine ⟨h1.ln gl, (h2.same gd rfl rfl).ln gl, ⟨a1, a2, a3.same (g 7 0 (fun z => by omega)) rfl rfl rfl, a4, a5.same (g 7 1 (fun z => by omega)) rfl, a6.same (g 7 2 (fun z => by omega)) rfl⟩, by rw [g 0 0 (fun z => by omega)]; exact h4, ?_, ?_, hv⟩
  · unfold ADY at *
    rw [g 0 0 (fun z => by omega), gr 0 (by omega), gr 1 (by omega), gr 2 (by omega), gr 14 (by omega)]
    exact h5
  · unfold NXT at *
    rw [gr 3 (by omega), gr 4 (by omega), gr 5 (by omega), gr 6 (by omega), gr 7 (by omega), gr 8 (by omega), gr 9 (by omega), gr 10 (by omega), g 5 _ (fun z => by omega), g 6 (3 * n) (fun z => by omega), g 6 (3 * n + 1) (fun z => by omega), g 6 (3 * n + 2) (fun z => by omega)]
    obtain ⟨b1, b2, b3, b4, b5, b6, b7⟩ := h6
    exact ⟨b1, b2, b3, b4.same gd, b5, b6.same gd, b7⟩
set_option maxRecDepth 100000 in
theorem z_look {σ : SG} {ν : NU} {ρ : RH} {n np : Nat} (h : SIM σ ν ρ n np) (d kn te : Int32) : ZS [IAE] (fun post px => wpX6_look σ ν d kn te post (fun E => px E σ ν)) (wpX7_look ρ d kn te) := by
  obtain ⟨⟨hD, hC, hH, h7, hA, -, h5⟩, hV⟩ := id h
  have t2 : (2 : Int32).toInt = 2 := by decide
  by_cases c : ¬ (okd d ∧ (0 ≤ kn.toInt ∧ kn.toInt ≤ (ρ 0 0).toInt) ∧ 0 ≤ te.toInt ∧ te.toInt ≤ 2)
  · refine ⟨1, 0, fun s m => SIM s m ρ n np, fun ρ' => lgd ρ ρ', ?_, ?_, fun σ' ν' ρ' a b => ⟨n, np, a.lo b⟩⟩
    · refine c_needDay (fun _ => ⟨xk9_0, h⟩) (fun c1 => ?_)
      by_cases c2 : kn.toInt < 0
      · rw [if_pos c2]; exact ⟨xk9_0, h⟩
      rw [if_neg c2, hA.1]
      by_cases c3 : ¬ kn.toInt ≤ (ρ 0 0).toInt
      · rw [if_neg c3]; exact ⟨xk9_0, h⟩
      have c3 := Decidable.byContradiction c3
      rw [if_pos c3]
      by_cases c4 : te.toInt < 0
      · rw [if_pos c4]; exact ⟨xk9_0, h⟩
      rw [if_neg c4]
      by_cases c5 : te.toInt ≤ 2
      · exact absurd ⟨c1, ⟨by omega, c3⟩, by omega, c5⟩ c
      · rw [if_neg c5]; exact ⟨xk9_0, h⟩
    · have fin : jX7_look_34 d kn te (fun b ρ' => ρ' 48 0 = 1 ∧ ((1 : Int32) = 0 → b = 0) ∧ lgd ρ ρ') ρ 0 1 := by
        unfold jX7_look_34
        refine s_goes (fun t et => ?_)
        rw [bI_f i1n0, if_pos z0I]
        subst et
        exact ⟨by rw [u2_at, if_pos rfl], fun q => absurd q i1n0, lgd_48⟩
      unfold wpX7_look
      refine s_isDayR ?_
      by_cases c1 : 0 ≤ d.toInt ∧ d.toInt ≤ 5000
      · rw [bI_t c1, if_neg z1I]
        refine s_isIn ?_
        rw [z0I]
        by_cases c2 : 0 ≤ kn.toInt ∧ kn.toInt ≤ (ρ 0 0).toInt
        · rw [bI_t c2, if_neg z1I]
          refine s_isIn ?_
          rw [z0I, t2, bI_f (fun c3 => c ⟨c1, c2, c3⟩), if_pos z0I]
          exact fin
        · rw [bI_f c2, if_pos z0I]
          exact fin
      · rw [bI_f c1, if_pos z0I]
        exact fin
  have c := Classical.byContradiction c
  obtain ⟨c1, c2, c3⟩ := c
  -- the rows as they are then
  generalize hρ1 : u2 (u2 (u2 ρ 33 0 d) 34 0 kn) 35 0 te = ρ1
  have r33 : ρ1 33 0 = d := by rw [← hρ1, u2_oth (by decide), u2_oth (by decide), u2_at, if_pos rfl]
  have r34 : ρ1 34 0 = kn := by rw [← hρ1, u2_oth (by decide), u2_at, if_pos rfl]
  have r35 : ρ1 35 0 = te := by rw [← hρ1, u2_at, if_pos rfl]
  have rlo : ∀ j, j < 33 → ρ1 j = ρ j := fun j hj => by rw [← hρ1, u2_oth (by omega), u2_oth (by omega), u2_oth (by omega)]
  have gl : lgn n ρ ρ1 := ⟨fun j _ hj => rlo j hj, fun i _ => by rw [rlo 2 (by omega)]⟩
  have hD1 := hD.ln gl
  have hG1 := GD_vw (d := ρ1 33 0) (kn := ρ1 34 0) (te := ρ1 35 0) hD1
  refine ⟨0, nI (cn9 (cv9 n np ρ1).1 20), fun s m => SIM s m ρ1 n np, fun ρ' => lgd ρ1 ρ', ?_, ?_, fun σ' ν' ρ' a b => ⟨n, np, a.lo b⟩⟩
  · refine c_needDay (fun z => absurd c1 z) (fun _ => ?_)
    rw [if_neg (by omega), hA.1, if_pos c2.2, if_neg (by omega), if_pos c3.2]
    refine ⟨by decide, fun t2 e2 t4 e4 t6 e6 => ?_⟩
    have go : ∀ a b, ¬ (a = 1 ∧ b = 0) → t6 a b = σ a b := fun a b z => by rw [e6, u3_oth z, e4, u3_oth z, e2, u3_oth z]
    have hv6 : VDY t6 ρ1 := by
      refine ⟨by rw [r33]; exact c1, ?_, ?_, ?_⟩
      · rw [e6, u3_at, if_neg (by decide), e4, u3_at, if_neg (by decide), e2, u3_at, if_pos rfl, r33]
      · rw [e6, u3_at, if_neg (by decide), e4, u3_at, if_pos rfl, r34]
      · rw [e6, u3_at, if_pos rfl, r35]
    refine s_buildS (h.1.view go rlo hv6) (fun σ' ν' hs _ _ => ⟨rfl, ?_, hs⟩)
    have hl : LD9 σ' 0 (ls9 (cv9 n np ρ1)) := hs.2.2.2.2
    rw [hl.1, (ls9_len hG1).1]
  · unfold wpX7_look
    refine s_isDayR ?_
    rw [bI_t (show 0 ≤ d.toInt ∧ d.toInt ≤ 5000 from c1), if_neg z1I]
    refine s_isIn ?_
    rw [z0I, bI_t c2, if_neg z1I]
    refine s_isIn ?_
    rw [z0I, t2, bI_t c3, if_neg z1I]
    unfold jX7_look_34
    refine s_goes (fun t et => ?_)
    rw [bI_t rfl, if_neg z1I]
    intro t6 e6 t8 e8 t10 e10
    have gt : lgd ρ1 t10 := fun j hj => by
      rw [← hρ1, e10, e8, e6, et]
      by_cases q35 : j = 35
      · subst q35
        funext k
        rw [u2_at, u2_at, u2_oth (by decide), u2_oth (by decide), u2_oth (by decide), u2_oth (by decide), u2_oth (by decide)]
      · rw [u2_oth q35, u2_oth q35]
        by_cases q34 : j = 34
        · subst q34
          funext k
          rw [u2_at, u2_at, u2_oth (by decide), u2_oth (by decide), u2_oth (by decide)]
        · rw [u2_oth q34, u2_oth q34]
          by_cases q33 : j = 33
          · subst q33
            funext k
            rw [u2_at, u2_at, u2_oth (by decide)]
          · rw [u2_oth q33, u2_oth q33, u2_oth (by omega)]
    have h48 : t10 48 0 = 0 := by rw [e10, u2_oth (by decide), e8, u2_oth (by decide), e6, u2_oth (by decide), et, u2_at, if_pos rfl]
    have e33 := gt 33 (by omega)
    have e34 := gt 34 (by omega)
    have e35 := gt 35 (by omega)
    refine s_laysR (hD1.same gt) (by rw [e33, r33]; exact c1) (fun ρ2 h2 g2 g48 => ?_)
    have ec : cv9 n np t10 = cv9 n np ρ1 := by
      show vw9 n np t10 _ _ _ = _
      rw [e33, e34, e35]
      exact vw9_ln hD1 gt.n
    rw [ec] at h2
    refine s_there h2 ⟨by rw [g48]; exact h48, fun _ => rfl, gt.tr g2⟩
