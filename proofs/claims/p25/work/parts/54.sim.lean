/-! Class and reference side by side: what holds between two calls. -/
def ADY (σ : SG) (ρ : RH) (n : Nat) : Prop := σ 0 0 4 = ρ 0 0 ∧ okd (ρ 0 0) ∧ ∃ a : Nat, a ≤ 10 ∧ ρ 1 0 = nI a ∧ σ 0 0 5 = nI a ∧ σ 0 0 6 = (if a = 0 then -1 else ρ 2 (a - 1)) ∧ (∀ i, i < n → ∃ b, b < a ∧ ρ 14 i = nI b) ∧ (∀ b c, b ≤ c → c < a → (ρ 2 b).toInt ≤ (ρ 2 c).toInt) ∧ ∀ b, b < a → (ρ 2 b).toInt ≤ (ρ 0 0).toInt
def NXT (σ : SG) (ν : NU) (ρ : RH) (n : Nat) : Prop :=
  (σ 5 (ν 3 n 7) 0 = ρ 3 0 ∧ σ 5 (ν 3 n 7) 1 = ρ 4 0 ∧ σ 5 (ν 3 n 7) 2 = ρ 5 0 ∧ σ 5 (ν 3 n 7) 3 = ρ 6 0) ∧ ((∃ h : Nat, h ≤ 2 ∧ ρ 3 0 = nI h) ∧ (ρ 3 0 = 0 → okd (ρ 4 0)) ∧ (ρ 3 0 = 2 → ∃ w, w < n ∧ ρ 4 0 = nI w)) ∧
  (∃ m : Nat, m ≤ 4 ∧ ρ 7 0 = nI m) ∧ PH σ (2 * n) (wds (ρ 7 0) (ρ 8)) ∧ (∃ m : Nat, m ≤ 4 ∧ ρ 9 0 = nI m) ∧ PH σ (2 * n + 1) (wds (ρ 9 0) (ρ 10)) ∧ (∀ k, k < 4 → okw (ρ 10 k)) ∧ σ 6 (3 * n) 0 = -1 ∧ σ 6 (3 * n + 1) 0 = -1 ∧ σ 6 (3 * n + 2) 0 = -1
def HPC (σ : SG) (ν : NU) (n : Nat) : Prop := ν 99 0 0 = n + 1 ∧ ν 0 0 3 = n ∧ LI9 σ ν n ∧ clo ν ∧ VL9 σ ν 0 ∧ VL9 σ ν 1
def VDY (σ : SG) (ρ : RH) : Prop := okd (ρ 33 0) ∧ σ 1 0 10 = ρ 33 0 ∧ σ 1 0 11 = ρ 34 0 ∧ σ 1 0 12 = ρ 35 0
def SIMD (σ : SG) (ν : NU) (ρ : RH) (n np : Nat) : Prop := DAT n np ρ ∧ CDT σ ν ρ n ∧ HPC σ ν n ∧ σ 0 0 7 = nI np ∧ ADY σ ρ n ∧ NXT σ ν ρ n ∧ VDY σ ρ
abbrev cv9 (n np : Nat) (ρ : RH) : CS := vw9 n np ρ (ρ 33 0) (ρ 34 0) (ρ 35 0)
def SIM (σ : SG) (ν : NU) (ρ : RH) (n np : Nat) : Prop := SIMD σ ν ρ n np ∧ VW9 σ ν 0 n np ρ (ρ 33 0) (ρ 34 0) (ρ 35 0)
theorem ADY.lo {σ : SG} {ρ ρ' : RH} {n : Nat} (g : lgd ρ ρ') (h : ADY σ ρ n) : ADY σ ρ' n := by
  unfold ADY at *
  rw [g 0 (by omega), g 1 (by omega), g 2 (by omega), g 14 (by omega)]
  exact h
theorem NXT.lo {σ : SG} {ν : NU} {ρ ρ' : RH} {n : Nat} (g : lgd ρ ρ') (h : NXT σ ν ρ n) : NXT σ ν ρ' n := by
  unfold NXT at *
  rw [g 3 (by omega), g 4 (by omega), g 5 (by omega), g 6 (by omega), g 7 (by omega), g 8 (by omega), g 9 (by omega), g 10 (by omega)]
  exact h
theorem VDY.lo {σ : SG} {ρ ρ' : RH} (g : lgd ρ ρ') (h : VDY σ ρ) : VDY σ ρ' := by
  unfold VDY at *
  rw [g 33 (by omega), g 34 (by omega), g 35 (by omega)]
  exact h
theorem SIM.lo {σ : SG} {ν : NU} {ρ ρ' : RH} {n np : Nat} (g : lgd ρ ρ') (h : SIM σ ν ρ n np) : SIM σ ν ρ' n np := by
  obtain ⟨⟨h1, h2, h3, h4, h5, h6, h7⟩, h8⟩ := h
  refine ⟨⟨h1.same g, h2.ln g.n, h3, h4, h5.lo g, h6.lo g, h7.lo g⟩, ?_⟩
  rw [g 33 (by omega), g 34 (by omega), g 35 (by omega)]
  exact h8.ln h1 g.n
/-- nothing of the data was touched in the class -/
theorem SIMD.keep {σ σ' : SG} {ν ν' : NU} {ρ : RH} {n np : Nat} (h : SIMD σ ν ρ n np) (g : frD σ σ') (g0 : σ' 0 0 = σ 0 0) (g7 : σ' 7 0 = σ 7 0) (g1 : ∀ c, c ≠ 9 → σ' 1 0 c = σ 1 0 c) (n3 : ν' 3 = ν 3) (n99 : ν' 99 = ν 99) (n0 : ν' 0 0 = ν 0 0) (n7 : ν' 7 0 = ν 7 0) (n8 : ν' 8 0 = ν 8 0) (hc : clo ν') (v0 : VL9 σ' ν' 0) (v1 : VL9 σ' ν' 1) : SIMD σ' ν' ρ n np := by
  obtain ⟨h1, h2, ⟨a1, a2, a3, -, -, -⟩, h4, h5, h6, h7⟩ := h
  refine ⟨h1, h2.same g n3 n99, ⟨by rw [n99]; exact a1, by rw [n0]; exact a2, a3.same g7 n7 n8 n99, hc, v0, v1⟩, by rw [g0]; exact h4, ?_, ?_, ?_⟩
  · unfold ADY at *
    rw [g0]
    exact h5
  · unfold NXT at *
    rw [n3, g 5 _ (by omega), g 6 (3 * n) (by omega), g 6 (3 * n + 1) (by omega), g 6 (3 * n + 2) (by omega)]
    obtain ⟨b1, b2, b3, b4, b5, b6, b7⟩ := h6
    exact ⟨b1, b2, b3, b4.same g, b5, b6.same g, b7⟩
  · unfold VDY at *
    rw [g1 10 (by decide), g1 11 (by decide), g1 12 (by decide)]
    exact h7
theorem VL9.same {σ σ' : SG} {ν ν' : NU} {v : Nat} (h : VL9 σ ν v) (g7 : σ' 7 (1 + v) = σ 7 (1 + v)) (n7 : ν' 7 (1 + v) = ν 7 (1 + v)) : VL9 σ' ν' v := by
  unfold VL9 at *
  rw [g7, n7]
  exact h
theorem SIMD.b {σ σ' : SG} {ν ν' : NU} {ρ : RH} {n np v : Nat} (h : SIMD σ ν ρ n np) (hv : v < 2) (g : frB v σ σ') (gm : frM v ν ν') (bd : BD9 v ν') (vl : VL9 σ' ν' v) : SIMD σ' ν' ρ n np := by
  obtain ⟨-, -, ⟨-, -, -, a4, a5, a6⟩, -⟩ := id h
  have other : ∀ w, w < 2 → VL9 σ ν w → VL9 σ' ν' w := fun w hw q => by
    by_cases e : w = v
    · rw [e]; exact vl
    · exact q.same (by funext c; exact g 7 (1 + w) c (fun z => by omega) (fun z => by omega) (fun z => by omega) (fun z => by omega)) (gm 7 (1 + w) (fun z => by omega) (fun z => by omega))
  exact h.keep g.d (by funext c; exact g 0 0 c (fun z => by omega) (fun z => by omega) (fun z => by omega) (fun z => by omega)) (by funext c; exact g 7 0 c (fun z => by omega) (fun z => by omega) (fun z => by omega) (fun z => by omega)) (fun c hc => g 1 0 c (fun z => hc z.2.2) (fun z => by omega) (fun z => by omega) (fun z => by omega)) gm.n3 gm.n99 (gm 0 0 (fun z => by omega) (fun z => by omega)) (gm 7 0 (fun z => by omega) (fun z => by omega)) (gm 8 0 (fun z => by omega) (fun z => by omega)) (clo_of a4 gm bd) (other 0 (by decide) a5) (other 1 (by decide) a6)
theorem clo.bd {ν : NU} (h : clo ν) (v : Nat) : BD9 v ν := ⟨fun i => h.1 _ i, fun i => h.2.1 _ i⟩
/-- the class builds its view anew -/
theorem s_buildS {σ : SG} {ν : NU} {ρ : RH} {n np : Nat} {post : SG → NU → Prop} (h : SIMD σ ν ρ n np) (k : ∀ σ' ν', SIM σ' ν' ρ n np → σ' 0 0 = σ 0 0 → σ' 7 0 = σ 7 0 → post σ' ν') : wpX5_build σ ν 0 0 post := by
  obtain ⟨hD, hC, ⟨-, -, a3, a4, a5, a6⟩, -, -, -, ⟨b1, b2, b3, b4⟩⟩ := id h
  refine s_build (by decide) hD hC a3 b2 b3 b4 b1.2 a5 (a4.bd 0) (fun σ' ν' g gm bd vb => k σ' ν' ⟨h.b (by decide) g gm bd vb.2.1.vl, vb⟩ ?_ ?_)
  · funext c; exact g 0 0 c (fun z => by omega) (fun z => by omega) (fun z => by omega) (fun z => by omega)
  · funext c; exact g 7 0 c (fun z => by omega) (fun z => by omega) (fun z => by omega) (fun z => by omega)
/-! the outcomes -/
def xk9 (xl : List String) (E : String) (k : Int32) : Prop := ∃ i, xl[i]? = some E ∧ i < 3 ∧ k = nI (i + 1)
theorem xk9_ne {xl : List String} {E : String} {k : Int32} (h : xk9 xl E k) : k ≠ 0 := by
  obtain ⟨i, -, h3, rfl⟩ := h
  intro e
  have := nI_inj (by omega) (by decide) (show nI (i + 1) = nI 0 from e)
  omega
abbrev IOB : String := "java/lang/IndexOutOfBoundsException"
abbrev IAE : String := "java/lang/IllegalArgumentException"
abbrev ISE : String := "java/lang/IllegalStateException"
theorem in_nI {p : Int32} {N : Nat} (h0 : 0 ≤ p.toInt) (h1 : p.toInt < N) : ∃ k : Nat, k < N ∧ p = nI k := by
  have hr := zb_rng p
  have e9 : (p.toNatClampNeg : Int) = p.toInt := Int.toNat_of_nonneg h0
  exact ⟨p.toNatClampNeg, by omega, ti_inj (by rw [ti_n (by omega), e9])⟩
theorem nn_nI {p : Int32} (h0 : ¬ p.toInt < 0) : ∃ k : Nat, k < 2147483648 ∧ p = nI k := by
  have hr := zb_rng p
  exact in_nI (N := 2147483648) (by omega) (by omega)
theorem m1_ti {n : Nat} (h : n ≤ 1000) : (nI n - 1).toInt = (n : Int) - 1 := by
  rw [li1, zb_sub (by rw [ti_n (by omega), ti_n (by omega)]; omega) (by rw [ti_n (by omega), ti_n (by omega)]; omega), ti_n (by omega), ti_n (by omega)]
  rfl
theorem s_isProvisionR {ρ : RH} {np : Nat} {p : Int32} {post : Int32 → Prop} (hnp : ρ 12 0 = nI np) (h20 : np ≤ 20) (k : post (bI (0 ≤ p.toInt ∧ p.toInt < np))) : wpX7_isProvision ρ p post := by
  unfold wpX7_isProvision
  refine s_isIn ⟨bI_01 _, ?_⟩
  rw [hnp, m1_ti (by omega), z0I]
  by_cases c : 0 ≤ p.toInt ∧ p.toInt < np
  · rw [bI_t c] at k
    rw [bI_t ⟨c.1, by omega⟩]
    exact k
  · rw [bI_f c] at k
    rw [bI_f (fun z => c ⟨z.1, by omega⟩)]
    exact k
theorem s_isInstructionR {ρ : RH} {n : Nat} {p : Int32} {post : Int32 → Prop} (hn : ρ 11 0 = nI n) (h40 : n ≤ 40) (k : post (bI (0 ≤ p.toInt ∧ p.toInt < n))) : wpX7_isInstruction ρ p post := by
  unfold wpX7_isInstruction
  refine s_isIn ⟨bI_01 _, ?_⟩
  rw [hn, m1_ti (by omega), z0I]
  by_cases c : 0 ≤ p.toInt ∧ p.toInt < n
  · rw [bI_t c] at k
    rw [bI_t ⟨c.1, by omega⟩]
    exact k
  · rw [bI_f c] at k
    rw [bI_f (fun z => c ⟨z.1, by omega⟩)]
    exact k
theorem s_isDayR {ρ : RH} {d : Int32} {post : Int32 → Prop} (k : post (bI (0 ≤ d.toInt ∧ d.toInt ≤ 5000))) : wpX7_isDay ρ d post := by
  unfold wpX7_isDay
  refine s_isIn ?_
  rw [z0I, ti_5000]
  exact ⟨bI_01 _, k⟩
theorem s_goes {ρ : RH} {c : Int32} {post : Int32 → RH → Prop} (k : ∀ t, t = u2 ρ 48 0 c → post (bI (c = 0)) t) : wpX7_goes ρ c post := by
  intro t e
  by_cases q : c = 0
  · rw [if_pos (by rw [q]; exact z0I)]
    have := k t e
    rw [bI_t q] at this
    exact this
  · rw [if_neg (fun z => q (ti_eq.mp (z.trans z0I.symm)))]
    have := k t e
    rw [bI_f q] at this
    exact this
theorem lgd_48 {ρ : RH} {i : Nat} {x : Int32} : lgd ρ (u2 ρ 48 i x) := fun j h => u2_oth (by omega)
theorem RSC.rows {n : Nat} {ρ ρ' : RH} {C : CS} (h : RSC n ρ C) (g : ∀ j, 36 ≤ j → j < 45 → ρ' j = ρ j) : RSC n ρ' C := by
  refine ⟨fun p hp => ?_, fun i hi => ?_⟩
  · rw [g 37 (by omega) (by omega), g 38 (by omega) (by omega), g 39 (by omega) (by omega)]
    obtain ⟨h1, h2⟩ := h.1 p hp
    exact ⟨h1, fun ht => ⟨(h2 ht).1, (h2 ht).2.1, (h2 ht).2.2.same (g 40 (by omega) (by omega)) (g 41 (by omega) (by omega)) (g 42 (by omega) (by omega))⟩⟩
  · rw [g 36 (by omega) (by omega)]
    exact ⟨(h.2 i hi).1, (h.2 i hi).2.same (g 43 (by omega) (by omega)) (g 44 (by omega) (by omega))⟩
theorem RV.u48 {n np : Nat} {ρ : RH} {C : CS} {x : Int32} (h : RV n np ρ C) : RV n np (u2 ρ 48 0 x) C := by
  obtain ⟨h1, h2, h3, h4, h5⟩ := h
  exact ⟨h1.rows (fun j _ hj => u2_oth (by omega)), by rw [u2_oth (by omega)]; exact h2, h3, by rw [u2_oth (by omega)]; exact h4, h5⟩
/-- the reference lays its view -/
theorem s_laysR {ρ : RH} {n np : Nat} {post : RH → Prop} (hD : DAT n np ρ) (h5 : okd (ρ 33 0)) (k : ∀ ρ', RV n np ρ' (cv9 n np ρ) → lgd ρ ρ' → ρ' 48 = ρ 48 → post ρ') : wpX7_laysView ρ post := by
  unfold wpX7_laysView
  refine s_views hD h5.2 (fun ρ' h g => ?_)
  have hG := GD_vw (d := ρ 33 0) (kn := ρ 34 0) (te := ρ 35 0) hD
  exact k ρ' ⟨h, by rw [g 12 (by omega)]; exact hD.2.2.2.1, hD.2.1, by rw [g 11 (by omega)]; exact hD.2.2.1, hD.1, hG.1, hG.2.2.1⟩ g.lo (g 48 (by omega))
theorem s_asks {ρ : RH} {n np : Nat} {p : Int32} {post : Int32 → RH → Prop} (hD : DAT n np ρ) (h5 : okd (ρ 33 0)) (kn : ¬ (0 ≤ p.toInt ∧ p.toInt < np) → ∀ ρ', lgd ρ ρ' → ρ' 48 0 = 1 → post 0 ρ') (ky : ∀ k, k < np → p = nI k → ∀ ρ', RV n np ρ' (cv9 n np ρ) → lgd ρ ρ' → ρ' 48 0 = 0 → post 1 ρ') : wpX7_asks ρ p post := by
  unfold wpX7_asks
  refine s_laysR hD h5 (fun ρ1 h1 g1 _ => s_isProvisionR h1.2.1 h1.2.2.1 ?_)
  by_cases c : 0 ≤ p.toInt ∧ p.toInt < np
  · rw [bI_t c, if_neg z1I]
    obtain ⟨k, hk, e⟩ := in_nI c.1 c.2
    refine s_goes (fun t et => ⟨bI_01 _, ?_⟩)
    rw [bI_t rfl]
    subst et
    exact ky k hk e _ h1.u48 (g1.tr lgd_48) (by rw [u2_at, if_pos rfl])
  · rw [bI_f c, if_pos z0I]
    refine s_goes (fun t et => ⟨bI_01 _, ?_⟩)
    rw [bI_f (by decide)]
    subst et
    exact kn c _ (g1.tr lgd_48) (by rw [u2_at, if_pos rfl])
theorem s_hasPlace {ρ : RH} {n np k : Nat} {C : CS} {q : Int32} {post : Int32 → Prop} (h : RV n np ρ C) (hk : k < np) (kk : post (bI (C.1 k = true ∧ 0 ≤ q.toInt ∧ q.toInt < (C.2.2.2.1 k).length))) : wpX7_hasPlace ρ (nI k) q post := by
  have h20 := h.2.2.1
  have hc : (nI k).toNatClampNeg = k := cl_n (by omega)
  have hv : vp_in (nI k) 20 := vi_n (by omega) (by decide)
  unfold wpX7_hasPlace
  refine ⟨hv, ?_⟩
  rw [hc, (h.1.1 k (by omega)).1]
  cases ht : C.1 k with
  | false =>
    rw [show bI (false = true) = 0 from bI_f (by decide), if_pos z0I]
    rw [bI_f (fun z => by rw [ht] at z; exact absurd z.1 (by decide))] at kk
    exact kk
  | true =>
    rw [show bI (true = true) = 1 from bI_t rfl, if_neg z1I]
    have hx := ((h.1.1 k (by omega)).2 ht).2.2
    have hl := hx.1
    refine ⟨hv, s_isIn ?_⟩
    rw [hx.2.1, m1_ti (by omega), z0I]
    by_cases c : 0 ≤ q.toInt ∧ q.toInt < (C.2.2.2.1 k).length
    · rw [bI_t ⟨c.1, by omega⟩, if_neg z1I]
      rw [bI_t ⟨ht, c⟩] at kk
      exact kk
    · rw [bI_f (fun z => c ⟨z.1, by omega⟩), if_pos z0I]
      rw [bI_f (fun z => c z.2)] at kk
      exact kk
/-- there is such a word -/
def hw9 (np : Nat) (C : CS) (p q : Int32) : Prop := ∃ k j : Nat, k < np ∧ p = nI k ∧ C.1 k = true ∧ j < (C.2.2.2.1 k).length ∧ q = nI j
theorem s_asksPlace {ρ : RH} {n np : Nat} {p q : Int32} {post : Int32 → RH → Prop} (hD : DAT n np ρ) (h5 : okd (ρ 33 0)) (kn : ¬ hw9 np (cv9 n np ρ) p q → ∀ ρ', lgd ρ ρ' → ρ' 48 0 = 1 → post 0 ρ') (ky : ∀ k j, k < np → p = nI k → (cv9 n np ρ).1 k = true → j < ((cv9 n np ρ).2.2.2.1 k).length → q = nI j → ∀ ρ', RV n np ρ' (cv9 n np ρ) → lgd ρ ρ' → ρ' 48 0 = 0 → post 1 ρ') : wpX7_asksPlace ρ p q post := by
  have h20 := hD.2.1
  unfold wpX7_asksPlace
  refine s_laysR hD h5 (fun ρ1 h1 g1 _ => s_isProvisionR h1.2.1 h1.2.2.1 ?_)
  by_cases c : 0 ≤ p.toInt ∧ p.toInt < np
  · rw [bI_t c, if_neg z1I]
    obtain ⟨k, hk, e⟩ := in_nI c.1 c.2
    rw [e]
    refine s_hasPlace h1 hk ?_
    by_cases c2 : (cv9 n np ρ).1 k = true ∧ 0 ≤ q.toInt ∧ q.toInt < ((cv9 n np ρ).2.2.2.1 k).length
    · rw [bI_t c2, if_neg z1I]
      obtain ⟨j, hj, e2⟩ := in_nI c2.2.1 c2.2.2
      refine s_goes (fun t et => ⟨bI_01 _, ?_⟩)
      rw [bI_t rfl]
      subst et
      exact ky k j hk e c2.1 hj e2 _ h1.u48 (g1.tr lgd_48) (by rw [u2_at, if_pos rfl])
    · rw [bI_f c2, if_pos z0I]
      refine s_goes (fun t et => ⟨bI_01 _, ?_⟩)
      rw [bI_f (by decide)]
      subst et
      refine kn (fun ⟨k', j, a1, a2, a3, a4, a5⟩ => c2 ?_) _ (g1.tr lgd_48) (by rw [u2_at, if_pos rfl])
      have : k = k' := nI_inj (by omega) (by omega) (e.symm.trans a2)
      subst this
      have hx := ((h1.1.1 k (by omega)).2 a3).2.2.1
      rw [a5, ti_n (by omega)]
      exact ⟨a3, by omega, by omega⟩
  · rw [bI_f c, if_pos z0I]
    refine s_goes (fun t et => ⟨bI_01 _, ?_⟩)
    rw [bI_f (by decide)]
    subst et
    refine kn (fun ⟨k', j, a1, a2, a3, a4, a5⟩ => c ?_) _ (g1.tr lgd_48) (by rw [u2_at, if_pos rfl])
    rw [a2, ti_n (by omega)]
    exact ⟨by omega, by omega⟩
/-! what the class needs -/
theorem c_needP {σ : SG} {ν : NU} {np : Nat} {p : Int32} {post : Prop} {px : String → Prop} (h7 : σ 0 0 7 = nI np) (h20 : np ≤ 20) (kn : ¬ (0 ≤ p.toInt ∧ p.toInt < np) → px IOB) (ky : 0 ≤ p.toInt ∧ p.toInt < np → post) : wpX6_needProvision σ ν p post px := by
  unfold wpX6_needProvision
  rw [h7, ti_n (by omega)]
  by_cases c : p.toInt < 0
  · rw [if_pos c]; exact kn (fun z => by omega)
  · rw [if_neg c]
    by_cases c2 : p.toInt < np
    · rw [if_pos c2]; exact ky ⟨by omega, c2⟩
    · rw [if_neg c2]; exact kn (fun z => c2 z.2)
theorem c_needI {σ : SG} {ν : NU} {n : Nat} {p : Int32} {post : Nat → Prop} {px : String → Prop} (hL : LI9 σ ν n) (h99 : n < ν 99 0 0) (h40 : n ≤ 40) (kn : ¬ (0 ≤ p.toInt ∧ p.toInt < n) → px IOB) (ky : ∀ k, k < n → p = nI k → post k) : wpX6_needInstruction σ ν p post px := by
  unfold wpX6_needInstruction
  by_cases c : p.toInt < 0
  · rw [if_pos c]; exact kn (fun z => by omega)
  · rw [if_neg c]
    refine s_size0 hL ?_
    rw [ti_n (by omega)]
    by_cases c2 : p.toInt < n
    · rw [if_pos c2]
      obtain ⟨k, hk, e⟩ := in_nI (N := n) (by omega) c2
      rw [e]
      exact s_get0 hL hk ⟨by omega, ky k hk e⟩
    · rw [if_neg c2]; exact kn (fun z => c2 z.2)
theorem c_needDay {σ : SG} {ν : NU} {d : Int32} {post : Prop} {px : String → Prop} (kn : ¬ okd d → px IAE) (ky : okd d → post) : wpX6_needDay σ ν d post px := by
  unfold wpX6_needDay
  by_cases c : d.toInt < 0
  · rw [if_pos c]; exact kn (fun z => by have := z.1; omega)
  · rw [if_neg c]
    by_cases c2 : d.toInt ≤ 5000
    · rw [if_pos c2]; exact ky ⟨by omega, c2⟩
    · rw [if_neg c2]; exact kn (fun z => c2 z.2)
theorem c_needWord {σ : SG} {ν : NU} {n np : Nat} {ρ ρ0 : RH} {J : List Nat} {eff : Nat → Bool} {C : CS} {p q : Int32} {post : Prop} {px : String → Prop} (h7 : σ 0 0 7 = nI np) (h20 : np ≤ 20) (hV : VC σ ν 0 n ρ eff C) (hG : GD n np ρ0 J C) (kn : ¬ hw9 np C p q → px IOB) (ky : ∀ k j, k < np → p = nI k → C.1 k = true → j < (C.2.2.2.1 k).length → q = nI j → post) : wpX6_needWord σ ν p q post px := by
  unfold wpX6_needWord
  have nope : ∀ k', p = nI k' → k' < np → ¬ (C.1 k' = true ∧ 0 ≤ q.toInt ∧ q.toInt < (C.2.2.2.1 k').length) → px IOB := fun k' e hk' c => by
    refine kn (fun ⟨k, j, a1, a2, a3, a4, a5⟩ => c ?_)
    have : k = k' := nI_inj (by omega) (by omega) (a2.symm.trans e)
    subst this
    have := ((hV.1 k (by omega)).2 a3).2.2.1
    rw [a5, ti_n (by omega)]
    exact ⟨a3, by omega, by omega⟩
  refine c_needP h7 h20 (fun c => kn (fun ⟨k, j, a1, a2, a3, a4, a5⟩ => c ?_)) (fun c => ?_)
  · rw [a2, ti_n (by omega)]
    exact ⟨by omega, by omega⟩
  · obtain ⟨k, hk, e⟩ := in_nI c.1 c.2
    by_cases c2 : q.toInt < 0
    · rw [if_pos c2]
      exact nope k e hk (fun z => by omega)
    · rw [if_neg c2, e]
      refine s_countOf (by decide) hV hG (by omega) ?_
      by_cases ht : C.1 k = true
      · rw [if_pos ht]
        have hl := ((hV.1 k (by omega)).2 ht).2.2.1
        rw [ti_n (by omega)]
        by_cases c3 : q.toInt < (C.2.2.2.1 k).length
        · rw [if_pos c3]
          obtain ⟨j, hj, e2⟩ := in_nI (N := (C.2.2.2.1 k).length) (by omega) c3
          exact ky k j hk e ht hj e2
        · rw [if_neg c3]
          exact nope k e hk (fun z => c3 z.2.2)
      · rw [if_neg ht, ti_m1, if_neg (by omega)]
        exact nope k e hk (fun z => ht z.1)
