/-! order, strike, suspend. -/
def NTC (σ : SG) (ρ : RH) (i : Nat) : Prop := σ 6 (3 * i) 0 = ρ 26 i ∧ (ρ 26 i ≠ -1 → σ 6 (3 * i) 1 = ρ 27 i) ∧ σ 6 (3 * i + 1) 0 = ρ 28 i ∧ (ρ 28 i ≠ -1 → σ 6 (3 * i + 1) 1 = ρ 29 i ∧ σ 6 (3 * i + 1) 2 = 5000) ∧ σ 6 (3 * i + 2) 0 = ρ 30 i ∧ (ρ 30 i ≠ -1 → σ 6 (3 * i + 2) 1 = ρ 31 i ∧ σ 6 (3 * i + 2) 2 = ρ 32 i)
theorem CI.ntc {σ : SG} {ν : NU} {ρ : RH} {i : Nat} (h : CI σ ν ρ i) : NTC σ ρ i := by
  obtain ⟨-, -, -, -, -, -, -, -, -, -, -, -, -, -, a, b, c, d, e, f⟩ := h
  exact ⟨a, b, c, d, e, f⟩
theorem SIMD.note {σ σ' : SG} {ν : NU} {ρ ρ' : RH} {n np : Nat} (h : SIMD σ ν ρ n np) (g : ∀ a b, a ≠ 6 → σ' a b = σ a b) (g6 : ∀ b, 3 * n ≤ b → σ' 6 b = σ 6 b) (gr : ∀ j, ¬ (26 ≤ j ∧ j ≤ 32) → ρ' j = ρ j) (h27 : ∀ i, i < n → ρ' 26 i ≠ -1 → okd (ρ' 27 i)) (hN : ∀ i, i < n → NTC σ' ρ' i) : SIMD σ' ν ρ' n np := by
  obtain ⟨h1, h2, ⟨a1, a2, a3, a4, a5, a6⟩, h4, h5, h6, h7⟩ := h
  have pv : pv9 ρ' = pv9 ρ := by funext i; unfold pv9; rw [gr 15 (by omega)]
  have sw : sw9 ρ' = sw9 ρ := by funext i; unfold sw9; rw [gr 18 (by omega), gr 19 (by omega)]
  have aw : aw9 ρ' = aw9 ρ := by funext i; unfold aw9; rw [gr 20 (by omega), gr 21 (by omega)]
  have ph : ∀ q s, PH σ q s → PH σ' q s := fun q s hq => by
    unfold PH at *
    rw [g 4 q (by decide), g 22 q (by decide)]
    exact hq
  refine ⟨⟨h1.1, h1.2.1, by rw [gr 11 (by omega)]; exact h1.2.2.1, by rw [gr 12 (by omega)]; exact h1.2.2.2.1, fun i hi => ?_, by rw [gr 13 (by omega), pv]; exact h1.2.2.2.2.2.1, by rw [gr 2 (by omega), gr 14 (by omega)]; exact h1.2.2.2.2.2.2⟩, ⟨h2.1, fun i hi => ?_⟩, ⟨a1, a2, a3.same (g 7 0 (by decide)) rfl rfl rfl, a4, a5.same (g 7 1 (by decide)) rfl, a6.same (g 7 2 (by decide)) rfl⟩, by rw [g 0 0 (by decide)]; exact h4, ?_, ?_, ?_⟩
  · obtain ⟨i1, i2, i3, i4, i5, i6, i7, i8, i9, i10, i11, i12, i13, i14, i15⟩ := h1.2.2.2.2.1 i hi
    have h27 := h27 i hi
    unfold IDT
    rw [gr 18 (by omega), gr 20 (by omega), gr 13 (by omega), gr 15 (by omega), pv, gr 16 (by omega), gr 17 (by omega), gr 21 (by omega), gr 22 (by omega), gr 23 (by omega), gr 14 (by omega)]
    exact ⟨i1, i2, i3, i4, i5, i6, i7, i8, i9, i10, i11, i12, i13, h27, i15⟩
  · obtain ⟨c1, c2, c3, c4, c5, c6, c7, c8, c9, c10, c11, c12, c13, c14, -⟩ := h2.2 i hi
    have hN := hN i hi
    unfold CI
    rw [sw, aw, g 3 i (by decide), g 5 _ (by decide), gr 14 (by omega), gr 2 (by omega), gr 13 (by omega), gr 15 (by omega), gr 16 (by omega), gr 17 (by omega), gr 22 (by omega), gr 23 (by omega), gr 24 (by omega), gr 25 (by omega)]
    exact ⟨c1, c2, c3, c4, c5, c6, c7, ph _ _ c8, ph _ _ c9, c10, c11, c12, c13, c14, hN⟩
  · unfold ADY at *
    rw [g 0 0 (by decide), gr 0 (by omega), gr 1 (by omega), gr 2 (by omega), gr 14 (by omega)]
    exact h5
  · unfold NXT at *
    rw [gr 3 (by omega), gr 4 (by omega), gr 5 (by omega), gr 6 (by omega), gr 7 (by omega), gr 8 (by omega), gr 9 (by omega), gr 10 (by omega), g 5 _ (by decide), g6 (3 * n) (by omega), g6 (3 * n + 1) (by omega), g6 (3 * n + 2) (by omega)]
    obtain ⟨b1, b2, b3, b4, b5, b6, b7⟩ := h6
    exact ⟨b1, b2, b3, ph _ _ b4, b5, ph _ _ b6, b7⟩
  · unfold VDY at *
    rw [gr 33 (by omega), gr 34 (by omega), gr 35 (by omega), g 1 0 (by decide)]
    exact h7
/-- what the reference asks of an instruction, a day and a flag -/
theorem s_asksDay {ρ : RH} {n : Nat} {p : Int32} {b2 b3 : Bool} {post : Int32 → RH → Prop} (hn : ρ 11 0 = nI n) (h40 : n ≤ 40) (k1 : ¬ (0 ≤ p.toInt ∧ p.toInt < n) → ∀ t, lgd ρ t → t 48 0 = 1 → post 0 t) (k2 : (0 ≤ p.toInt ∧ p.toInt < n) → b2 = false → ∀ t, lgd ρ t → t 48 0 = 2 → post 0 t) (k3 : (0 ≤ p.toInt ∧ p.toInt < n) → b2 = true → b3 = false → ∀ t, lgd ρ t → t 48 0 = 3 → post 0 t) (k4 : (0 ≤ p.toInt ∧ p.toInt < n) → b2 = true → b3 = true → ∀ t, (∀ j, j ≠ 48 → t j = ρ j) → t 48 0 = 0 → post 1 t) : wpX7_asksDay ρ p (bI (b2 = true)) (bI (b3 = true)) post := by
  unfold wpX7_asksDay
  refine s_isInstructionR hn h40 ?_
  by_cases c : 0 ≤ p.toInt ∧ p.toInt < n
  · rw [bI_t c, if_neg z1I]
    cases b2 with
    | false =>
      rw [show bI (false = true) = 0 from bI_f (by decide), if_pos z0I]
      refine s_goes (fun t et => ⟨bI_01 _, ?_⟩)
      rw [bI_f i2n0]
      subst et
      exact k2 c rfl _ lgd_48 (by rw [u2_at, if_pos rfl])
    | true =>
      rw [show bI (true = true) = 1 from bI_t rfl, if_neg z1I]
      cases b3 with
      | false =>
        rw [show bI (false = true) = 0 from bI_f (by decide), if_pos z0I]
        refine s_goes (fun t et => ⟨bI_01 _, ?_⟩)
        rw [bI_f i3n0]
        subst et
        exact k3 c rfl rfl _ lgd_48 (by rw [u2_at, if_pos rfl])
      | true =>
        rw [show bI (true = true) = 1 from bI_t rfl, if_neg z1I]
        refine s_goes (fun t et => ⟨bI_01 _, ?_⟩)
        rw [bI_t rfl]
        subst et
        exact k4 c rfl rfl _ (fun j hj => u2_oth hj) (by rw [u2_at, if_pos rfl])
  · rw [bI_f c, if_pos z0I]
    refine s_goes (fun t et => ⟨bI_01 _, ?_⟩)
    rw [bI_f i1n0]
    subst et
    exact k1 c _ lgd_48 (by rw [u2_at, if_pos rfl])
theorem bI_b {c : Prop} [Decidable c] : bI c = bI (decide c = true) := by
  by_cases q : c
  · rw [bI_t q, bI_t (decide_eq_true q)]
  · rw [bI_f q, bI_f (by simpa using q)]
theorem one_b : (1 : Int32) = bI (true = true) := (bI_t rfl).symm
theorem zero_b : (0 : Int32) = bI (false = true) := (bI_f (by decide)).symm
theorem okd_b {d : Int32} {b : Bool} (h : b = true ↔ okd d) : bI (0 ≤ d.toInt ∧ d.toInt ≤ 5000) = bI (b = true) := by
  by_cases q : 0 ≤ d.toInt ∧ d.toInt ≤ 5000
  · rw [bI_t q, bI_t (h.mpr q)]
  · rw [bI_f q, bI_f (fun z => q (h.mp z))]
theorem c_give {σ : SG} {ν : NU} {o : Nat} {a b c : Int32} {post : SG → Prop} (ho : o < 3 * ν 99 0 0) (k : post (u3 (u3 (u3 σ 6 o 0 a) 6 o 1 b) 6 o 2 c)) : wpX1_give σ ν o a b c post := ⟨ho, fun t2 e2 t4 e4 t6 e6 => by rw [e6, e4, e2]; exact k⟩
theorem give_at {σ : SG} {o : Nat} {a b c : Int32} (q k : Nat) : u3 (u3 (u3 σ 6 o 0 a) 6 o 1 b) 6 o 2 c 6 q k = if q = o ∧ k = 2 then c else if q = o ∧ k = 1 then b else if q = o ∧ k = 0 then a else σ 6 q k := by
  by_cases e : q = o
  · subst e
    rw [u3_at, u3_at, u3_at]
    by_cases k2 : k = 2 <;> by_cases k1 : k = 1 <;> by_cases k0 : k = 0 <;> simp [k2, k1, k0]
  · rw [u3_oth (fun z => e z.2), u3_oth (fun z => e z.2), u3_oth (fun z => e z.2), if_neg (fun z => e z.1), if_neg (fun z => e z.1), if_neg (fun z => e z.1)]
theorem today_m1 {ρ : RH} {σ : SG} {n : Nat} (hA : ADY σ ρ n) : ρ 0 0 ≠ -1 := okd_m1 hA.2.1
