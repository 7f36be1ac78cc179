/-! order, strike, suspend side by side. -/
set_option maxRecDepth 100000 in
set_option maxHeartbeats 2000000 in
theorem z_order {σ : SG} {ν : NU} {ρ : RH} {n np : Nat} (h : SIM σ ν ρ n np) (p d : Int32) : ZV [IOB, IAE, ISE] (fun post px => wpX6_order σ ν p d post (fun E => px E σ ν)) (wpX7_order ρ p d) := by
  obtain ⟨⟨hD, hC, ⟨b1, b2, b3, b4, b5, b6⟩, h7, hA, hX, h5⟩, hV⟩ := id h
  have h40 := hD.1
  have t1 : (1 : Int32).toInt = 1 := by decide
  have stay : ∀ σ' ν' ρ', SIM σ' ν' ρ n np → lgd ρ ρ' → ∃ n' np', SIM σ' ν' ρ' n' np' := fun σ' ν' ρ' a b => ⟨n, np, a.lo b⟩
  -- the reference, with its flag
  have R0 : ∀ (post : RH → Prop), (∀ b2 b3 : Bool, (b2 = true ↔ okd d) → (∀ k, k < n → p = nI k → (b3 = true ↔ ρ 22 k = 1 ∧ ρ 26 k = -1)) → wpX7_asksDay ρ p (bI (b2 = true)) (bI (b3 = true)) (fun r4 t5 => if r4.toInt = 0 then post t5 else vp_in p 40 ∧ ∀ t8 : RH, t8 = u2 t5 26 p.toNatClampNeg (t5 0 0) → vp_in p 40 ∧ ∀ t11 : RH, t11 = u2 t8 27 p.toNatClampNeg d → post t11)) → wpX7_order ρ p d post := by
    intro post k
    have r33 : ∀ b3 : Bool, (∀ k, k < n → p = nI k → (b3 = true ↔ ρ 22 k = 1 ∧ ρ 26 k = -1)) → jX7_order_33 p d post ρ (bI (b3 = true)) := fun b3 hb => by
      unfold jX7_order_33
      refine s_isDayR ?_
      by_cases q : okd d
      · rw [okd_b (b := true) ⟨fun _ => q, fun _ => rfl⟩]
        exact k true b3 ⟨fun _ => q, fun _ => rfl⟩ hb
      · rw [okd_b (b := false) ⟨fun z => (by cases z), fun z => absurd z q⟩]
        exact k false b3 ⟨fun z => (by cases z), fun z => absurd z q⟩ hb
    unfold wpX7_order
    refine s_isInstructionR hD.2.2.1 h40 ?_
    by_cases c : 0 ≤ p.toInt ∧ p.toInt < n
    · rw [bI_t c, if_neg z1I]
      obtain ⟨k', hk, rfl⟩ := in_nI c.1 c.2
      have hc : (nI k').toNatClampNeg = k' := cl_n (by omega)
      have hv : vp_in (nI k') 40 := vi_n (by omega) (by decide)
      have un : ∀ k, nI k' = nI k → k < n → k = k' := fun k e hkn => (nI_inj (by omega) (by omega) e).symm
      refine ⟨hv, ?_⟩
      rw [hc]
      by_cases q : ρ 22 k' = 1
      · rw [if_pos (by rw [q]; exact t1)]
        refine ⟨hv, ?_⟩
        by_cases q2 : ρ 26 k' = -1
        · rw [if_pos (by rw [q2]; exact ti_m1)]
          exact r33 true (fun k hk e => by rw [un k e hk]; exact ⟨fun _ => ⟨q, q2⟩, fun _ => rfl⟩)
        · rw [if_neg (fun z => q2 (ti_eq.mp (z.trans ti_m1.symm)))]
          exact r33 false (fun k hk e => by rw [un k e hk]; exact ⟨fun z => (by cases z), fun z => absurd z.2 q2⟩)
      · rw [if_neg (fun z => q (ti_eq.mp (z.trans t1.symm)))]
        exact r33 false (fun k hk e => by rw [un k e hk]; exact ⟨fun z => (by cases z), fun z => absurd z.1 q⟩)
    · rw [bI_f c, if_pos z0I]
      exact r33 false (fun k hk e => absurd ⟨by rw [e, ti_n (by omega)]; omega, by rw [e, ti_n (by omega)]; omega⟩ c)
  have z0 : ∀ {A B : Prop}, A → (if (0 : Int32).toInt = 0 then A else B) := fun a => by rw [if_pos z0I]; exact a
  have z1 : ∀ {A B : Prop}, B → (if (1 : Int32).toInt = 0 then A else B) := fun a => by rw [if_neg z1I]; exact a
  by_cases c1 : ¬ (0 ≤ p.toInt ∧ p.toInt < n)
  · exact ⟨1, fun s m => SIM s m ρ n np, fun ρ' => lgd ρ ρ', c_needI b3 hC.1 h40 (fun _ => ⟨xk9_0, h⟩) (fun k hk e => absurd ⟨by rw [e, ti_n (by omega)]; omega, by rw [e, ti_n (by omega)]; omega⟩ c1), R0 _ (fun b2 b3 _ _ => s_asksDay hD.2.2.1 h40 (fun _ t g e => z0 ⟨e, g⟩) (fun z => absurd z c1) (fun z => absurd z c1) (fun z => absurd z c1)), stay⟩
  have c1 := Decidable.byContradiction c1
  obtain ⟨k, hk, rfl⟩ := in_nI c1.1 c1.2
  have hck : (nI k).toNatClampNeg = k := cl_n (by omega)
  have hci := hC.2 k hk
  have un : ∀ k', nI k = nI k' → k' < n → k' = k := fun k' e hkn => (nI_inj (by omega) (by omega) e).symm
  by_cases c2 : ¬ okd d
  · exact ⟨2, fun s m => SIM s m ρ n np, fun ρ' => lgd ρ ρ', c_needI b3 hC.1 h40 (fun z => absurd c1 z) (fun k' hk' e => c_needDay (fun _ => ⟨xk9_1, h⟩) (fun z => absurd z c2)), R0 _ (fun b2 b3 hb _ => s_asksDay hD.2.2.1 h40 (fun z => absurd c1 z) (fun _ _ t g e => z0 ⟨e, g⟩) (fun _ z => absurd (hb.mp z) c2) (fun _ z => absurd (hb.mp z) c2)), stay⟩
  have c2 := Classical.byContradiction c2
  have C3 : ∀ (post : SG → NU → Prop) (px : String → Prop), (¬ (ρ 22 k = 1 ∧ ρ 26 k = -1) → px ISE) → (ρ 22 k = 1 ∧ ρ 26 k = -1 → wpX5_build (u3 (u3 (u3 σ 6 (3 * k) 0 (ρ 0 0)) 6 (3 * k) 1 d) 6 (3 * k) 2 d) ν 0 0 (fun t8 vv9 => post t8 vv9)) → wpX6_order σ ν (nI k) d post px := by
    intro post px k1 k2
    refine c_needI b3 hC.1 h40 (fun z => absurd c1 z) (fun k' hk' e => c_needDay (fun z => absurd c2 z) (fun _ => ?_))
    rw [un k' e hk']
    obtain ⟨-, -, -, -, -, -, -, -, -, q9, q10, -, -, -, q14, -⟩ := hci
    refine ⟨by omega, q9, ?_⟩
    rw [q10]
    by_cases q : ρ 22 k = 1
    · rw [if_pos (by rw [q]; exact t1)]
      refine s_isGiven (by omega) ?_
      rw [q14]
      by_cases q2 : ρ 26 k = -1
      · rw [bI_f (fun z => z q2), if_pos z0I]
        refine c_give (by omega) ?_
        rw [hA.1]
        exact k2 ⟨q, q2⟩
      · rw [bI_t q2, if_neg z1I]
        exact k1 (fun z => q2 z.2)
    · rw [if_neg (fun z => q (ti_eq.mp (z.trans t1.symm)))]
      exact k1 (fun z => q z.1)
  by_cases c3 : ¬ (ρ 22 k = 1 ∧ ρ 26 k = -1)
  · exact ⟨3, fun s m => SIM s m ρ n np, fun ρ' => lgd ρ ρ', C3 _ _ (fun _ => ⟨xk9_2, h⟩) (fun z => absurd z c3), R0 _ (fun b2 b3 hb hb3 => s_asksDay hD.2.2.1 h40 (fun z => absurd c1 z) (fun _ z => absurd (hb.mpr c2) (by rw [z]; decide)) (fun _ _ _ t g e => z0 ⟨e, g⟩) (fun _ _ z => absurd ((hb3 k hk rfl).mp z) c3)), stay⟩
  have c3 := Decidable.byContradiction c3
  refine ⟨0, fun s m => SIM s m (u2 (u2 ρ 26 k (ρ 0 0)) 27 k d) n np, fun ρ' => lgd (u2 (u2 ρ 26 k (ρ 0 0)) 27 k d) ρ', C3 _ _ (fun z => absurd c3 z) (fun _ => ?_), R0 _ (fun b2 b3 hb hb3 => s_asksDay hD.2.2.1 h40 (fun z => absurd c1 z) (fun _ z => absurd (hb.mpr c2) (by rw [z]; decide)) (fun _ _ z => absurd ((hb3 k hk rfl).mpr c3) (by rw [z]; decide)) (fun _ _ _ t g e => z1 ?_)), fun σ' ν' ρ' a b => ⟨n, np, a.lo b⟩⟩
  · generalize hρ : u2 (u2 ρ 26 k (ρ 0 0)) 27 k d = ρ1
    have r26 : ∀ i, ρ1 26 i = if i = k then ρ 0 0 else ρ 26 i := fun i => by rw [← hρ, u2_oth (by decide), u2_at]
    have r27 : ∀ i, ρ1 27 i = if i = k then d else ρ 27 i := fun i => by rw [← hρ, u2_at, u2_oth (by decide)]
    have ro : ∀ j, j ≠ 26 → j ≠ 27 → ρ1 j = ρ j := fun j q r => by rw [← hρ, u2_oth r, u2_oth q]
    refine s_buildS (h.1.note (fun a b z => by rw [u3_oth (fun w => z w.1), u3_oth (fun w => z w.1), u3_oth (fun w => z w.1)]) (fun b hb => by rw [u3_oth (fun w => by omega), u3_oth (fun w => by omega), u3_oth (fun w => by omega)]) (fun j hj => ro j (by omega) (by omega)) (fun i hi hz => ?_) (fun i hi => ?_)) (fun σ1 ν1 hs _ _ => ⟨rfl, hs⟩)
    · rw [r27]
      by_cases q : i = k
      · rw [if_pos q]; exact c2
      · rw [if_neg q]
        rw [r26, if_neg q] at hz
        obtain ⟨-, -, -, -, -, -, -, -, -, -, -, -, -, i14, -⟩ := hD.2.2.2.2.1 i hi
        exact i14 hz
    · obtain ⟨q1, q2, q3, q4, q5, q6⟩ := (hC.2 i hi).ntc
      unfold NTC
      rw [r26, r27, ro 28 (by decide) (by decide), ro 29 (by decide) (by decide), ro 30 (by decide) (by decide), ro 31 (by decide) (by decide), ro 32 (by decide) (by decide)]
      simp only [give_at]
      by_cases q : i = k
      · subst q
        simp [show ¬ 3 * i + 1 = 3 * i by omega, show ¬ 3 * i + 2 = 3 * i by omega]
        exact ⟨q3, q4, q5, q6⟩
      · simp [q, show ¬ 3 * i = 3 * k by omega, show ¬ 3 * i + 1 = 3 * k by omega, show ¬ 3 * i + 2 = 3 * k by omega]
        exact ⟨q1, q2, q3, q4, q5, q6⟩
  · have hv : vp_in (nI k) 40 := vi_n (by omega) (by decide)
    refine ⟨hv, fun t8 e8 => ⟨hv, fun t11 e11 => ?_⟩⟩
    rw [hck] at e8 e11
    rw [g 0 (by decide)] at e8
    refine ⟨by rw [e11, u2_oth (by decide), e8, u2_oth (by decide)]; exact e, fun j hj => ?_⟩
    rw [e11, e8]
    by_cases q : j = 27
    · subst q; funext i; rw [u2_at, u2_at, u2_oth (by decide), u2_oth (by decide), g 27 (by decide)]
    · rw [u2_oth q, u2_oth q]
      by_cases q2 : j = 26
      · subst q2; funext i; rw [u2_at, u2_at, g 26 (by decide)]
      · rw [u2_oth q2, u2_oth q2, g j (by omega)]
