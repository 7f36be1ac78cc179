/-! strike and suspend side by side. -/
set_option maxRecDepth 100000 in
set_option maxHeartbeats 2000000 in
theorem z_strike {σ : SG} {ν : NU} {ρ : RH} {n np : Nat} (h : SIM σ ν ρ n np) (p d : Int32) : ZV [IOB, IAE, ISE] (fun post px => wpX6_strike σ ν p d post (fun E => px E σ ν)) (wpX7_strike ρ p d) := by
  obtain ⟨⟨hD, hC, ⟨b1, b2, b3, b4, b5, b6⟩, h7, hA, hX, h5⟩, hV⟩ := id h
  have h40 := hD.1
  have stay : ∀ σ' ν' ρ', SIM σ' ν' ρ n np → lgd ρ ρ' → ∃ n' np', SIM σ' ν' ρ' n' np' := fun σ' ν' ρ' a b => ⟨n, np, a.lo b⟩
  have R0 : ∀ (post : RH → Prop), (∀ b2 b3 : Bool, (b2 = true ↔ okd d) → (∀ k, k < n → p = nI k → (b3 = true ↔ ρ 28 k = -1)) → wpX7_asksDay ρ p (bI (b2 = true)) (bI (b3 = true)) (fun r4 t5 => if r4.toInt = 0 then post t5 else vp_in p 40 ∧ ∀ t8 : RH, t8 = u2 t5 28 p.toNatClampNeg (t5 0 0) → vp_in p 40 ∧ ∀ t11 : RH, t11 = u2 t8 29 p.toNatClampNeg d → post t11)) → wpX7_strike ρ p d post := by
    intro post k
    unfold wpX7_strike jX7_strike_29
    refine s_isDayR ?_
    obtain ⟨b2, hb2⟩ : ∃ b2 : Bool, b2 = true ↔ okd d := by
      by_cases q : okd d
      · exact ⟨true, fun _ => q, fun _ => rfl⟩
      · exact ⟨false, fun z => (by cases z), fun z => absurd z q⟩
    rw [okd_b hb2]
    refine s_isInstructionR hD.2.2.1 h40 ?_
    by_cases c : 0 ≤ p.toInt ∧ p.toInt < n
    · rw [bI_t c, if_neg z1I]
      obtain ⟨k', hk, rfl⟩ := in_nI c.1 c.2
      have hc : (nI k').toNatClampNeg = k' := cl_n (by omega)
      have hv : vp_in (nI k') 40 := vi_n (by omega) (by decide)
      have un : ∀ k, nI k' = nI k → k < n → k = k' := fun k e hkn => (nI_inj (by omega) (by omega) e).symm
      refine ⟨hv, ?_⟩
      rw [hc]
      rw [hc] at k
      by_cases q2 : ρ 28 k' = -1
      · rw [if_pos (by rw [q2]; exact ti_m1)]
        exact k b2 true hb2 (fun k hk e => by rw [un k e hk]; exact ⟨fun _ => q2, fun _ => rfl⟩)
      · rw [if_neg (fun z => q2 (ti_eq.mp (z.trans ti_m1.symm)))]
        exact k b2 false hb2 (fun k hk e => by rw [un k e hk]; exact ⟨fun z => (by cases z), fun z => absurd z q2⟩)
    · rw [bI_f c, if_pos z0I]
      exact k b2 false hb2 (fun k hk e => absurd ⟨by rw [e, ti_n (by omega)]; omega, by rw [e, ti_n (by omega)]; omega⟩ c)
  have z0 : ∀ {A B : Prop}, A → (if (0 : Int32).toInt = 0 then A else B) := fun a => by rw [if_pos z0I]; exact a
  have z1 : ∀ {A B : Prop}, B → (if (1 : Int32).toInt = 0 then A else B) := fun a => by rw [if_neg z1I]; exact a
  by_cases c1 : ¬ (0 ≤ p.toInt ∧ p.toInt < n)
  · exact ⟨1, fun s m => SIM s m ρ n np, fun ρ' => lgd ρ ρ', c_needI b3 hC.1 h40 (fun _ => ⟨xk9_0, h⟩) (fun k hk e => absurd ⟨by rw [e, ti_n (by omega)]; omega, by rw [e, ti_n (by omega)]; omega⟩ c1), R0 _ (fun b2 b3 _ _ => s_asksDay hD.2.2.1 h40 (fun _ t g e => z0 ⟨e, g⟩) (fun z => absurd z c1) (fun z => absurd z c1) (fun z => absurd z c1)), stay⟩
  have c1 := Decidable.byContradiction c1
  obtain ⟨k, hk, rfl⟩ := in_nI c1.1 c1.2
  have hck : (nI k).toNatClampNeg = k := cl_n (by omega)
  have hci := hC.2 k hk
  have un : ∀ k', nI k = nI k' → k' < n → k' = k := fun k' e hkn => (nI_inj (by omega) (by omega) e).symm
  by_cases c2 : ¬ okd d
  · exact ⟨2, fun s m => SIM s m ρ n np, fun ρ' => lgd ρ ρ', c_needI b3 hC.1 h40 (fun z => absurd c1 z) (fun k' hk' e => c_needDay (fun _ => ⟨xk9_1, h⟩) (fun z => absurd z c2)), R0 _ (fun b2 b3 hb _ => s_asksDay hD.2.2.1 h40 (fun z => absurd c1 z) (fun _ _ t g e => z0 ⟨e, g⟩) (fun _ z => absurd (hb.mp z) c2) (fun _ z => absurd (hb.mp z) c2)), stay⟩
  have c2 := Classical.byContradiction c2
  have C3 : ∀ (post : SG → NU → Prop) (px : String → Prop), (¬ ρ 28 k = -1 → px ISE) → (ρ 28 k = -1 → wpX5_build (u3 (u3 (u3 σ 6 (3 * k + 1) 0 (ρ 0 0)) 6 (3 * k + 1) 1 d) 6 (3 * k + 1) 2 5000) ν 0 0 (fun t8 vv9 => post t8 vv9)) → wpX6_strike σ ν (nI k) d post px := by
    intro post px k1 k2
    refine c_needI b3 hC.1 h40 (fun z => absurd c1 z) (fun k' hk' e => c_needDay (fun z => absurd c2 z) (fun _ => ?_))
    rw [un k' e hk']
    obtain ⟨-, -, q14, -⟩ := hci.ntc
    refine ⟨by omega, s_isGiven (by omega) ?_⟩
    rw [q14]
    by_cases q2 : ρ 28 k = -1
    · rw [bI_f (fun z => z q2), if_pos z0I]
      refine c_give (by omega) ?_
      rw [hA.1]
      exact k2 q2
    · rw [bI_t q2, if_neg z1I]
      exact k1 q2
  by_cases c3 : ¬ ρ 28 k = -1
  · exact ⟨3, fun s m => SIM s m ρ n np, fun ρ' => lgd ρ ρ', C3 _ _ (fun _ => ⟨xk9_2, h⟩) (fun z => absurd z c3), R0 _ (fun b2 b3 hb hb3 => s_asksDay hD.2.2.1 h40 (fun z => absurd c1 z) (fun _ z => absurd (hb.mpr c2) (by rw [z]; decide)) (fun _ _ _ t g e => z0 ⟨e, g⟩) (fun _ _ z => absurd ((hb3 k hk rfl).mp z) c3)), stay⟩
  have c3 := Decidable.byContradiction c3
  refine ⟨0, fun s m => SIM s m (u2 (u2 ρ 28 k (ρ 0 0)) 29 k d) n np, fun ρ' => lgd (u2 (u2 ρ 28 k (ρ 0 0)) 29 k d) ρ', C3 _ _ (fun z => absurd c3 z) (fun _ => ?_), R0 _ (fun b2 b3 hb hb3 => s_asksDay hD.2.2.1 h40 (fun z => absurd c1 z) (fun _ z => absurd (hb.mpr c2) (by rw [z]; decide)) (fun _ _ z => absurd ((hb3 k hk rfl).mpr c3) (by rw [z]; decide)) (fun _ _ _ t g e => z1 ?_)), fun σ' ν' ρ' a b => ⟨n, np, a.lo b⟩⟩
  · generalize hρ : u2 (u2 ρ 28 k (ρ 0 0)) 29 k d = ρ1
    have r28 : ∀ i, ρ1 28 i = if i = k then ρ 0 0 else ρ 28 i := fun i => by rw [← hρ, u2_oth (by decide), u2_at]
    have r29 : ∀ i, ρ1 29 i = if i = k then d else ρ 29 i := fun i => by rw [← hρ, u2_at, u2_oth (by decide)]
    have ro : ∀ j, j ≠ 28 → j ≠ 29 → ρ1 j = ρ j := fun j q r => by rw [← hρ, u2_oth r, u2_oth q]
    refine s_buildS (h.1.note (fun a b z => by rw [u3_oth (fun w => z w.1), u3_oth (fun w => z w.1), u3_oth (fun w => z w.1)]) (fun b hb => by rw [u3_oth (fun w => by omega), u3_oth (fun w => by omega), u3_oth (fun w => by omega)]) (fun j hj => ro j (by omega) (by omega)) (fun i hi hz => ?_) (fun i hi => ?_)) (fun σ1 ν1 hs _ _ => ⟨rfl, hs⟩)
    · rw [ro 27 (by decide) (by decide)]
      rw [ro 26 (by decide) (by decide)] at hz
      obtain ⟨-, -, -, -, -, -, -, -, -, -, -, -, -, i14, -⟩ := hD.2.2.2.2.1 i hi
      exact i14 hz
    · obtain ⟨q1, q2, q3, q4, q5, q6⟩ := (hC.2 i hi).ntc
      unfold NTC
      rw [r28, r29, ro 26 (by decide) (by decide), ro 27 (by decide) (by decide), ro 30 (by decide) (by decide), ro 31 (by decide) (by decide), ro 32 (by decide) (by decide)]
      simp only [give_at]
      by_cases q : i = k
      · subst q
        simp [show ¬ 3 * i = 3 * i + 1 by omega]
        exact ⟨q1, q2, q5, q6⟩
      · simp [q, show ¬ 3 * i = 3 * k by omega, show ¬ 3 * i = 3 * k + 1 by omega, show ¬ 3 * i + 1 = 3 * k + 1 by omega, show ¬ 3 * i + 2 = 3 * k + 1 by omega]
        exact ⟨q1, q2, q3, q4, q5, q6⟩
  · have hv : vp_in (nI k) 40 := vi_n (by omega) (by decide)
    refine ⟨hv, fun t8 e8 => ⟨hv, fun t11 e11 => ?_⟩⟩
    rw [hck] at e8 e11
    rw [g 0 (by decide)] at e8
    refine ⟨by rw [e11, u2_oth (by decide), e8, u2_oth (by decide)]; exact e, fun j hj => ?_⟩
    rw [e11, e8]
    by_cases q : j = 29
    · subst q; funext i; rw [u2_at, u2_at, u2_oth (by decide), u2_oth (by decide), g 29 (by decide)]
    · rw [u2_oth q, u2_oth q]
      by_cases q2 : j = 28
      · subst q2; funext i; rw [u2_at, u2_at, g 28 (by decide)]
      · rw [u2_oth q2, u2_oth q2, g j (by omega)]
set_option maxRecDepth 100000 in
set_option maxHeartbeats 2000000 in
theorem z_suspend {σ : SG} {ν : NU} {ρ : RH} {n np : Nat} (h : SIM σ ν ρ n np) (p d f : Int32) : ZV [IOB, IAE, ISE] (fun post px => wpX6_suspend σ ν p d f post (fun E => px E σ ν)) (wpX7_suspend ρ p d f) := by
  obtain ⟨⟨hD, hC, ⟨b1, b2, b3, b4, b5, b6⟩, h7, hA, hX, h5⟩, hV⟩ := id h
  have h40 := hD.1
  have stay : ∀ σ' ν' ρ', SIM σ' ν' ρ n np → lgd ρ ρ' → ∃ n' np', SIM σ' ν' ρ' n' np' := fun σ' ν' ρ' a b => ⟨n, np, a.lo b⟩
  let okD : Prop := okd d ∧ d.toInt ≤ f.toInt ∧ f.toInt ≤ 5000
  have R0 : ∀ (post : RH → Prop), (∀ b2 b3 : Bool, (b2 = true ↔ okD) → (∀ k, k < n → p = nI k → (b3 = true ↔ ρ 30 k = -1)) → wpX7_asksDay ρ p (bI (b2 = true)) (bI (b3 = true)) (fun r5 t6 => if r5.toInt = 0 then post t6 else vp_in p 40 ∧ ∀ t9 : RH, t9 = u2 t6 30 p.toNatClampNeg (t6 0 0) → vp_in p 40 ∧ ∀ t12 : RH, t12 = u2 t9 31 p.toNatClampNeg d → vp_in p 40 ∧ ∀ t15 : RH, t15 = u2 t12 32 p.toNatClampNeg f → post t15)) → wpX7_suspend ρ p d f post := by
    intro post k
    have r25 : ∀ b2 : Bool, (b2 = true ↔ okD) → jX7_suspend_25 p d f post ρ 0 p (bI (b2 = true)) := by
      intro b2 hb2
      unfold jX7_suspend_25 jX7_suspend_48
      refine s_isInstructionR hD.2.2.1 h40 ?_
      by_cases c : 0 ≤ p.toInt ∧ p.toInt < n
      · rw [bI_t c, if_neg z1I]
        obtain ⟨k', hk, rfl⟩ := in_nI c.1 c.2
        have hc : (nI k').toNatClampNeg = k' := cl_n (by omega)
        have hv : vp_in (nI k') 40 := vi_n (by omega) (by decide)
        have un : ∀ k, nI k' = nI k → k < n → k = k' := fun k e hkn => (nI_inj (by omega) (by omega) e).symm
        refine ⟨hv, ?_⟩
        rw [hc]
        rw [hc] at k
        by_cases q2 : ρ 30 k' = -1
        · rw [if_pos (by rw [q2]; exact ti_m1)]
          exact k b2 true hb2 (fun k hk e => by rw [un k e hk]; exact ⟨fun _ => q2, fun _ => rfl⟩)
        · rw [if_neg (fun z => q2 (ti_eq.mp (z.trans ti_m1.symm)))]
          exact k b2 false hb2 (fun k hk e => by rw [un k e hk]; exact ⟨fun z => (by cases z), fun z => absurd z q2⟩)
      · rw [bI_f c, if_pos z0I]
        exact k b2 false hb2 (fun k hk e => absurd ⟨by rw [e, ti_n (by omega)]; omega, by rw [e, ti_n (by omega)]; omega⟩ c)
    have rf : ¬ okD → jX7_suspend_25 p d f post ρ 0 p 0 := fun z => r25 false ⟨fun q => (by cases q), fun q => absurd q z⟩
    unfold wpX7_suspend
    refine s_isDayR ?_
    by_cases q : 0 ≤ d.toInt ∧ d.toInt ≤ 5000
    · rw [bI_t q, if_neg z1I]
      refine s_isIn ?_
      rw [ti_5000]
      by_cases q2 : d.toInt ≤ f.toInt ∧ f.toInt ≤ 5000
      · rw [bI_t q2, if_neg z1I]
        exact r25 true ⟨fun _ => ⟨q, q2⟩, fun _ => rfl⟩
      · rw [bI_f q2, if_pos z0I]
        exact rf (fun z => q2 z.2)
    · rw [bI_f q, if_pos z0I]
      exact rf (fun z => q z.1)
  have z0 : ∀ {A B : Prop}, A → (if (0 : Int32).toInt = 0 then A else B) := fun a => by rw [if_pos z0I]; exact a
  have z1 : ∀ {A B : Prop}, B → (if (1 : Int32).toInt = 0 then A else B) := fun a => by rw [if_neg z1I]; exact a
  by_cases c1 : ¬ (0 ≤ p.toInt ∧ p.toInt < n)
  · exact ⟨1, fun s m => SIM s m ρ n np, fun ρ' => lgd ρ ρ', c_needI b3 hC.1 h40 (fun _ => ⟨xk9_0, h⟩) (fun k hk e => absurd ⟨by rw [e, ti_n (by omega)]; omega, by rw [e, ti_n (by omega)]; omega⟩ c1), R0 _ (fun b2 b3 _ _ => s_asksDay hD.2.2.1 h40 (fun _ t g e => z0 ⟨e, g⟩) (fun z => absurd z c1) (fun z => absurd z c1) (fun z => absurd z c1)), stay⟩
  have c1 := Decidable.byContradiction c1
  obtain ⟨k, hk, rfl⟩ := in_nI c1.1 c1.2
  have hck : (nI k).toNatClampNeg = k := cl_n (by omega)
  have hci := hC.2 k hk
  have un : ∀ k', nI k = nI k' → k' < n → k' = k := fun k' e hkn => (nI_inj (by omega) (by omega) e).symm
  -- the class's days
  have CD : ∀ (post : SG → NU → Prop) (px : String → Prop), (¬ okD → px IAE) → (okD → (k < ν 99 0 0 ∧ wpX1_isGiven σ ν (3 * k + 2) (fun r4 => if r4.toInt = 0 then wpX1_give σ ν (3 * k + 2) (σ 0 0 4) d f (fun t6 => wpX5_build t6 ν 0 0 (fun t7 vv8 => post t7 vv8)) else px ISE))) → wpX6_suspend σ ν (nI k) d f post px := by
    intro post px k1 k2
    refine c_needI b3 hC.1 h40 (fun z => absurd c1 z) (fun k' hk' e => c_needDay (fun z => k1 (fun y => z y.1)) (fun c2 => c_needDay (fun z => k1 (fun y => z ⟨by have := y.1.1; have := y.2.1; omega, y.2.2⟩)) (fun c3 => ?_)))
    by_cases c4 : f.toInt < d.toInt
    · rw [if_pos c4]; exact k1 (fun y => by have := y.2.1; omega)
    · rw [if_neg c4, un k' e hk']
      exact k2 ⟨c2, by omega, c3.2⟩
  by_cases c2 : ¬ okD
  · exact ⟨2, fun s m => SIM s m ρ n np, fun ρ' => lgd ρ ρ', CD _ _ (fun _ => ⟨xk9_1, h⟩) (fun z => absurd z c2), R0 _ (fun b2 b3 hb _ => s_asksDay hD.2.2.1 h40 (fun z => absurd c1 z) (fun _ _ t g e => z0 ⟨e, g⟩) (fun _ z => absurd (hb.mp z) c2) (fun _ z => absurd (hb.mp z) c2)), stay⟩
  have c2 := Classical.byContradiction c2
  have C3 : ∀ (post : SG → NU → Prop) (px : String → Prop), (¬ ρ 30 k = -1 → px ISE) → (ρ 30 k = -1 → wpX5_build (u3 (u3 (u3 σ 6 (3 * k + 2) 0 (ρ 0 0)) 6 (3 * k + 2) 1 d) 6 (3 * k + 2) 2 f) ν 0 0 (fun t8 vv9 => post t8 vv9)) → wpX6_suspend σ ν (nI k) d f post px := by
    intro post px k1 k2
    refine CD post px (fun z => absurd c2 z) (fun _ => ⟨by omega, s_isGiven (by omega) ?_⟩)
    obtain ⟨-, -, -, -, q14, -⟩ := hci.ntc
    rw [q14]
    by_cases q2 : ρ 30 k = -1
    · rw [bI_f (fun z => z q2), if_pos z0I]
      refine c_give (by omega) ?_
      rw [hA.1]
      exact k2 q2
    · rw [bI_t q2, if_neg z1I]
      exact k1 q2
  by_cases c3 : ¬ ρ 30 k = -1
  · exact ⟨3, fun s m => SIM s m ρ n np, fun ρ' => lgd ρ ρ', C3 _ _ (fun _ => ⟨xk9_2, h⟩) (fun z => absurd z c3), R0 _ (fun b2 b3 hb hb3 => s_asksDay hD.2.2.1 h40 (fun z => absurd c1 z) (fun _ z => absurd (hb.mpr c2) (by rw [z]; decide)) (fun _ _ _ t g e => z0 ⟨e, g⟩) (fun _ _ z => absurd ((hb3 k hk rfl).mp z) c3)), stay⟩
  have c3 := Decidable.byContradiction c3
  refine ⟨0, fun s m => SIM s m (u2 (u2 (u2 ρ 30 k (ρ 0 0)) 31 k d) 32 k f) n np, fun ρ' => lgd (u2 (u2 (u2 ρ 30 k (ρ 0 0)) 31 k d) 32 k f) ρ', C3 _ _ (fun z => absurd c3 z) (fun _ => ?_), R0 _ (fun b2 b3 hb hb3 => s_asksDay hD.2.2.1 h40 (fun z => absurd c1 z) (fun _ z => absurd (hb.mpr c2) (by rw [z]; decide)) (fun _ _ z => absurd ((hb3 k hk rfl).mpr c3) (by rw [z]; decide)) (fun _ _ _ t g e => z1 ?_)), fun σ' ν' ρ' a b => ⟨n, np, a.lo b⟩⟩
  · generalize hρ : u2 (u2 (u2 ρ 30 k (ρ 0 0)) 31 k d) 32 k f = ρ1
    have r30 : ∀ i, ρ1 30 i = if i = k then ρ 0 0 else ρ 30 i := fun i => by rw [← hρ, u2_oth (by decide), u2_oth (by decide), u2_at]
    have r31 : ∀ i, ρ1 31 i = if i = k then d else ρ 31 i := fun i => by rw [← hρ, u2_oth (by decide), u2_at, u2_oth (by decide)]
    have r32 : ∀ i, ρ1 32 i = if i = k then f else ρ 32 i := fun i => by rw [← hρ, u2_at, u2_oth (by decide), u2_oth (by decide)]
    have ro : ∀ j, j < 30 ∨ 32 < j → ρ1 j = ρ j := fun j q => by rw [← hρ, u2_oth (by omega), u2_oth (by omega), u2_oth (by omega)]
    refine s_buildS (h.1.note (fun a b z => by rw [u3_oth (fun w => z w.1), u3_oth (fun w => z w.1), u3_oth (fun w => z w.1)]) (fun b hb => by rw [u3_oth (fun w => by omega), u3_oth (fun w => by omega), u3_oth (fun w => by omega)]) (fun j hj => ro j (by omega)) (fun i hi hz => ?_) (fun i hi => ?_)) (fun σ1 ν1 hs _ _ => ⟨rfl, hs⟩)
    · rw [ro 27 (by omega)]
      rw [ro 26 (by omega)] at hz
      obtain ⟨-, -, -, -, -, -, -, -, -, -, -, -, -, i14, -⟩ := hD.2.2.2.2.1 i hi
      exact i14 hz
    · obtain ⟨q1, q2, q3, q4, q5, q6⟩ := (hC.2 i hi).ntc
      unfold NTC
      rw [r30, r31, r32, ro 26 (by omega), ro 27 (by omega), ro 28 (by omega), ro 29 (by omega)]
      simp only [give_at]
      by_cases q : i = k
      · subst q
        simp [show ¬ 3 * i = 3 * i + 2 by omega, show ¬ 3 * i + 1 = 3 * i + 2 by omega]
        exact ⟨q1, q2, q3, q4⟩
      · simp [q, show ¬ 3 * i = 3 * k by omega, show ¬ 3 * i = 3 * k + 1 by omega, show ¬ 3 * i = 3 * k + 2 by omega, show ¬ 3 * i + 1 = 3 * k + 2 by omega, show ¬ 3 * i + 2 = 3 * k + 2 by omega]
        exact ⟨q1, q2, q3, q4, q5, q6⟩
  · have hv : vp_in (nI k) 40 := vi_n (by omega) (by decide)
    refine ⟨hv, fun t8 e8 => ⟨hv, fun t11 e11 => ⟨hv, fun t15 e15 => ?_⟩⟩⟩
    rw [hck] at e8 e11 e15
    rw [g 0 (by decide)] at e8
    refine ⟨by rw [e15, u2_oth (by decide), e11, u2_oth (by decide), e8, u2_oth (by decide)]; exact e, fun j hj => ?_⟩
    rw [e15, e11, e8]
    by_cases q0 : j = 32
    · subst q0; funext i; rw [u2_at, u2_at]; simp only [u2_oth (show (32 : Nat) ≠ 31 by decide), u2_oth (show (32 : Nat) ≠ 30 by decide), g 32 (by decide)]
    rw [u2_oth q0, u2_oth q0]
    by_cases q : j = 31
    · subst q; funext i; rw [u2_at, u2_at, u2_oth (by decide), u2_oth (by decide), g 31 (by decide)]
    · rw [u2_oth q, u2_oth q]
      by_cases q2 : j = 30
      · subst q2; funext i; rw [u2_at, u2_at, g 30 (by decide)]
      · rw [u2_oth q2, u2_oth q2, g j (by omega)]
