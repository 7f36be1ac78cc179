/-! What the class does by one instruction is what do9 says. -/
theorem s_freshOf {σ : SG} {ν : NU} {v i : Nat} {post : Nat → Prop} (hv : v < 2) (hi : i < ν 99 0 0) (h40 : i < 40) (h0 : σ 3 i 0 = nI i) (k : post (if ν 13 v i = 0 then 2 * i + 1 else ν 13 v i - 1)) : wpX5_freshOf σ ν v i post := ⟨hv, hi, i, h40, h0, k⟩
theorem ti_k {x : Int32} {k : Nat} (hk : k < 2147483648) : x.toInt = (k : Int) ↔ x = nI k := by
  rw [← ti_n hk]
  exact ti_eq
/-- words are put in, taken or left, by the instruction's kind -/
theorem s_reword {σ : SG} {ν : NU} {v n i t : Nat} {ρ : RH} {l : TXT} {f : List Int32} {post : Int32 → SG → Prop} (hv : v < 2) (hC : CDT σ ν ρ n) (hi : i < n) (h40 : n ≤ 40) (ht : t < 42) (hl : ρ 13 i = 0 ∨ CX σ t l) (hs2 : ρ 13 i = 2 → sw9 ρ i ≠ [])
    (hf : (ρ 13 i).toInt ≤ 2 → (if ν 13 v i = 0 then 2 * i + 1 else ν 13 v i - 1) < 2 * n ∧ PH σ (if ν 13 v i = 0 then 2 * i + 1 else ν 13 v i - 1) f) (hk0 : 0 ≤ (ρ 13 i).toInt)
    (k0 : ρ 13 i = 0 → ∀ σ', CX σ' t (tag9 f (nI i)) → lgC t σ σ' → post 1 σ')
    (k1n : ρ 13 i = 1 → ins9 (sw9 ρ i) f (nI i) l = none → post 0 σ) (k1y : ρ 13 i = 1 → ∀ r, ins9 (sw9 ρ i) f (nI i) l = some r → ∀ σ', CX σ' t r → lgC t σ σ' → post 1 σ')
    (k2n : ρ 13 i = 2 → sbs9 (sw9 ρ i) f (nI i) l = none → post 0 σ) (k2y : ρ 13 i = 2 → ∀ r, sbs9 (sw9 ρ i) f (nI i) l = some r → ∀ σ', CX σ' t r → lgC t σ σ' → post 1 σ')
    (k3n : ρ 13 i = 3 → om9 (sw9 ρ i) l = none → post 0 σ) (k3y : ρ 13 i = 3 → ∀ r, om9 (sw9 ρ i) l = some r → ∀ σ', CX σ' t r → lgC t σ σ' → post 1 σ')
    (kx : ρ 13 i ≠ 0 → ρ 13 i ≠ 1 → ρ 13 i ≠ 2 → ρ 13 i ≠ 3 → post 1 σ) : wpX5_reword σ ν v i t post := by
  obtain ⟨c0, -, -, c3, -, -, -, cs, -⟩ := hC.2 i hi
  have hn := hC.1
  refine ⟨hv, s_freshOf hv (by omega) (by omega) c0 ⟨by omega, ?_⟩⟩
  rw [c3, c0]
  by_cases q0 : ρ 13 i = 0
  · rw [if_pos (by rw [q0]; exact z0I)]
    obtain ⟨f1, f2⟩ := hf (by rw [q0]; decide)
    exact ⟨ht, s_begin ht (by omega) f2 (fun σ' h1 h2 => ⟨Or.inr rfl, k0 q0 σ' h1 h2⟩)⟩
  rw [if_neg (fun z : (ρ 13 i).toInt = 0 => q0 ((ti_k (k := 0) (by decide)).mp z))]
  have hl := hl.resolve_left q0
  by_cases q1 : ρ 13 i = 1
  · rw [if_pos (by rw [q1]; decide)]
    obtain ⟨f1, f2⟩ := hf (by rw [q1]; decide)
    exact ⟨ht, s_insert ht (by omega) (by omega) hl cs f2 (fun e => ⟨Or.inl rfl, k1n q1 e⟩) (fun r e σ' h1 h2 => ⟨Or.inr rfl, k1y q1 r e σ' h1 h2⟩)⟩
  rw [if_neg (fun z : (ρ 13 i).toInt = 1 => q1 ((ti_k (k := 1) (by decide)).mp z))]
  by_cases q2 : ρ 13 i = 2
  · rw [if_pos (by rw [q2]; decide)]
    obtain ⟨f1, f2⟩ := hf (by rw [q2]; decide)
    exact ⟨ht, s_substitute ht (by omega) (by omega) (hs2 q2) hl cs f2 (fun e => ⟨Or.inl rfl, k2n q2 e⟩) (fun r e σ' h1 h2 => ⟨Or.inr rfl, k2y q2 r e σ' h1 h2⟩)⟩
  rw [if_neg (fun z : (ρ 13 i).toInt = 2 => q2 ((ti_k (k := 2) (by decide)).mp z))]
  by_cases q3 : ρ 13 i = 3
  · rw [if_pos (by rw [q3]; decide)]
    exact ⟨ht, s_omit ht (by omega) hl cs (fun e => ⟨Or.inl rfl, k3n q3 e⟩) (fun r e σ' h1 h2 => ⟨Or.inr rfl, k3y q3 r e σ' h1 h2⟩)⟩
  rw [if_neg (fun z : (ρ 13 i).toInt = 3 => q3 ((ti_k (k := 3) (by decide)).mp z))]
  exact kx q0 q1 q2 q3
theorem pl9_par {C : CS} {o : Int32} {q : Nat} (hq : q < 20) (e : o = nI q) : pl9 C o = C.1 q := by
  subst e
  have hc : (nI q).toNatClampNeg = q := cl_n (by omega)
  have hm : nI q ≠ -1 := nI_m1 (by omega)
  simp [pl9, hc, hm]
theorem any9_20 {f : Nat → Bool} {np : Nat} (h20 : np ≤ 20) (hf : ∀ k, np ≤ k → k < 20 → f k = false) : any9 f 20 = any9 f np := by
  cases e : any9 f np with
  | true =>
    obtain ⟨k, h1, h2⟩ := any9_iff.mp e
    exact any9_iff.mpr ⟨k, by omega, h2⟩
  | false =>
    cases e2 : any9 f 20 with
    | false => rfl
    | true =>
      obtain ⟨k, h1, h2⟩ := any9_iff.mp e2
      by_cases c : k < np
      · rw [any9_no e k c] at h2; cases h2
      · rw [hf k (by omega) h1] at h2; cases h2
theorem any9_congr {f g : Nat → Bool} {n : Nat} (h : ∀ k, k < n → f k = g k) : any9 f n = any9 g n := by
  induction n with
  | zero => rfl
  | succ n ih =>
    show (any9 f n || f n) = (any9 g n || g n)
    rw [ih (fun k hk => h k (by omega)), h n (by omega)]
/-- labels and outers were written at p -/
theorem VC.at {σ σ' : SG} {ν : NU} {v n p : Nat} {ρ : RH} {eff : Nat → Bool} {C C' : CS} (h : VC σ ν v n ρ eff C) (g : frV v σ σ') (gt : ∀ b, 21 * v ≤ b → b ≤ 21 * v + 20 → σ' 2 b = σ 2 b ∧ σ' 20 b = σ 20 b ∧ σ' 21 b = σ 21 b)
    (e1 : ∀ q, q ≠ p → C'.1 q = C.1 q) (e2 : ∀ q, q ≠ p → C'.2.1 q = C.2.1 q) (e3 : ∀ q, q ≠ p → C'.2.2.1 q = C.2.2.1 q) (e4 : C'.2.2.2 = C.2.2.2) (f14 : ∀ q, q ≠ p → σ' 14 v q = σ 14 v q) (f15 : ∀ q, q ≠ p → σ' 15 v q = σ 15 v q)
    (hp0 : C'.1 p = false → σ' 14 v p = -1) (hp1 : C'.1 p = true → σ' 14 v p = C'.2.1 p ∧ σ' 15 v p = C'.2.2.1 p ∧ CX σ (21 * v + 1 + p) (C.2.2.2.1 p)) : VC σ' ν v n ρ eff C' := by
  refine ⟨fun q hq => ?_, fun i hi => by rw [g 12 v (by omega) (by omega), e4]; exact h.2.1 i hi, fun i hi he hk => by rw [e4]; exact ⟨(h.2.2 i hi he hk).1, (h.2.2 i hi he hk).2.same g.d⟩⟩
  by_cases e : q = p
  · subst e
    refine ⟨hp0, fun ht => ?_⟩
    obtain ⟨a, b, c⟩ := hp1 ht
    refine ⟨a, b, ?_⟩
    rw [e4]
    obtain ⟨g1, g2, g3⟩ := gt (21 * v + 1 + q) (by omega) (by omega)
    unfold CX at *
    rw [g1, g2, g3]
    exact c
  · rw [e1 q e, f14 q e, f15 q e, e2 q e, e3 q e, e4]
    obtain ⟨h1, h2⟩ := h.1 q hq
    refine ⟨h1, fun ht => ⟨(h2 ht).1, (h2 ht).2.1, ?_⟩⟩
    obtain ⟨g1, g2, g3⟩ := gt (21 * v + 1 + q) (by omega) (by omega)
    have := (h2 ht).2.2
    unfold CX at *
    rw [g1, g2, g3]
    exact this
theorem frV_u3 {v a b c : Nat} {σ : SG} {x : Int32} (h : a = 14 ∨ a = 15) (hb : b = v) : frV v σ (u3 σ a b c x) := fun y z p _ => u3_oth (fun q => p ⟨by omega, by omega⟩)
theorem oth3 {a b c : Nat} {σ : SG} {x : Int32} (h : a = 14 ∨ a = 15) (v : Nat) : ∀ z, 21 * v ≤ z → z ≤ 21 * v + 20 → u3 σ a b c x 2 z = σ 2 z ∧ u3 σ a b c x 20 z = σ 20 z ∧ u3 σ a b c x 21 z = σ 21 z := fun z _ _ => ⟨u3_oth (fun q => by omega), u3_oth (fun q => by omega), u3_oth (fun q => by omega)⟩
set_option maxHeartbeats 1000000 in
theorem s_setUp {σ : SG} {ν : NU} {v n np i p : Nat} {ρ : RH} {J : List Nat} {eff : Nat → Bool} {C : CS} {post : Int32 → SG → Prop} (hv : v < 2) (hD : DAT n np ρ) (hC : CDT σ ν ρ n) (hV : VC σ ν v n ρ eff C) (hG : GD n np ρ J C) (hi : i < n) (he : eff i = true) (k0 : ρ 13 i = 0) (hpe : pv9 ρ i = p) (hno : C.1 p = false)
    (kn : (pl9 C (ρ 16 i) && !any9 (fh9 C (ρ 16 i) (ρ 17 i) (-1)) np) = false → post 0 σ)
    (ky : (pl9 C (ρ 16 i) && !any9 (fh9 C (ρ 16 i) (ρ 17 i) (-1)) np) = true → ∀ σ', VC σ' ν v n ρ eff (cEn C p (ρ 16 i) (ρ 17 i) (tag9 (C.2.2.2.2.2 i) (nI i))) → frV v σ σ' → post 1 σ') : wpX5_setUp σ ν v i post := by
  obtain ⟨c0, -, -, c3, c4, c5, c6, -⟩ := hC.2 i hi
  obtain ⟨-, -, -, h15, -, h8, h16, -, h17, -⟩ := hD.2.2.2.2.1 i hi
  have hn := hC.1
  have h40 := hD.1
  have h20 := hD.2.1
  have h8 := h8 (by rw [k0]; decide)
  have h16 := h16 (Or.inl k0)
  have h17 := h17 (Or.inl k0)
  rw [hpe] at h15 h8
  have hp : p < 20 := by omega
  have hcp : (nI p).toNatClampNeg = p := cl_n (by omega)
  have hvp : vp_in (nI p) 20 := vi_n hp (by decide)
  have hany : any9 (fh9 C (ρ 16 i) (ρ 17 i) (nI p)) 20 = any9 (fh9 C (ρ 16 i) (ρ 17 i) (-1)) np := by
    rw [any9_20 h20 (fun k h1 h2 => by
      cases e : C.1 k with
      | false => simp [fh9, e]
      | true => have := hG.1.1 k h2 e; omega)]
    refine any9_congr (fun k hk => ?_)
    have hm : nI k ≠ -1 := nI_m1 (by omega)
    by_cases e : k = p
    · subst e; simp [fh9, hno]
    · have : ¬ nI k = nI p := fun z => e (nI_inj (by omega) (by omega) z)
      simp [fh9, this, hm]
  unfold wpX5_setUp
  refine ⟨by omega, ?_⟩
  rw [c4, h15, ti_n (by omega), if_neg (by omega), if_pos (by omega), c5 (Or.inl k0), c6 (Or.inl k0)]
  refine ⟨hv, s_mayHold hv hV hG hp h16 (okl_m1 h17) ?_⟩
  rw [hany]
  cases hb : (pl9 C (ρ 16 i) && !any9 (fh9 C (ρ 16 i) (ρ 17 i) (-1)) np) with
  | false =>
    rw [show bI (false = true) = 0 from bI_f (by decide), if_pos z0I]
    exact kn hb
  | true =>
    rw [show bI (true = true) = 1 from bI_t rfl, if_neg z1I, hcp]
    refine ⟨hvp, fun t8 e8 => ⟨hvp, fun t11 e11 => ⟨hvp, ?_⟩⟩⟩
    have e5 : t8 3 i 5 = ρ 16 i := by rw [e8, u3_oth (fun q => by omega), c5 (Or.inl k0)]
    rw [e5] at e11
    have g8 : frV v σ t11 := by rw [e11, e8]; exact (frV_u3 (Or.inl rfl) rfl).tr (frV_u3 (Or.inr rfl) rfl)
    have hC11 := hC.same g8.d rfl rfl
    have hf := hV.2.2 i hi he (by rw [k0]; decide)
    refine s_reword (l := []) (f := C.2.2.2.2.2 i) hv hC11 hi h40 (by omega) (Or.inl k0) (fun q => by rw [k0] at q; exact absurd q (by decide)) (fun _ => ⟨hf.1, hf.2.same g8.d⟩) (by rw [k0]; decide) (fun _ σ' x1 x2 => ⟨Or.inr rfl, ?_⟩) (fun q => by rw [k0] at q; exact absurd q (by decide)) (fun q => by rw [k0] at q; exact absurd q (by decide)) (fun q => by rw [k0] at q; exact absurd q (by decide)) (fun q => by rw [k0] at q; exact absurd q (by decide)) (fun q => by rw [k0] at q; exact absurd q (by decide)) (fun q => by rw [k0] at q; exact absurd q (by decide)) (fun q => absurd k0 q)
    refine ky hb σ' ?_ (g8.tr (frV.of x2 (by omega) (by omega)))
    have r : ∀ a b, a ≠ 2 → a ≠ 20 → a ≠ 21 → σ' a b = t11 a b := fun a b h1 h2 h3 => x2 a b (fun z => h1 z.1) (fun z => h2 z.1) (fun z => h3 z.1)
    have gd : frD σ σ' := (g8.tr (frV.of x2 (by omega) (by omega))).d
    have r14 : ∀ q, σ' 14 v q = if q = p then ρ 17 i else σ 14 v q := fun q => by rw [r 14 v (by decide) (by decide) (by decide), e11, u3_oth (fun z => by omega), e8, u3_at]
    have r15 : ∀ q, σ' 15 v q = if q = p then ρ 16 i else σ 15 v q := fun q => by rw [r 15 v (by decide) (by decide) (by decide), e11, u3_at, e8, u3_oth (fun z => by omega)]
    have r12 : σ' 12 v = σ 12 v := by rw [r 12 v (by decide) (by decide) (by decide), e11, u3_oth (fun z => by omega), e8, u3_oth (fun z => by omega)]
    have rt : ∀ a b, a = 2 ∨ a = 20 ∨ a = 21 → t11 a b = σ a b := fun a b h => by rw [e11, u3_oth (fun z => by omega), e8, u3_oth (fun z => by omega)]
    refine ⟨fun q hq => ?_, fun j hj => by rw [r12]; exact hV.2.1 j hj, fun j hj hej hk => ⟨(hV.2.2 j hj hej hk).1, (hV.2.2 j hj hej hk).2.same gd⟩⟩
    rw [r14, r15]
    show (va_up C.1 p true q = false → _) ∧ (va_up C.1 p true q = true → _ = va_up C.2.1 p (ρ 17 i) q ∧ _ = va_up C.2.2.1 p (ρ 16 i) q ∧ CX σ' _ (va_up C.2.2.2.1 p (tag9 (C.2.2.2.2.2 i) (nI i)) q))
    by_cases e : q = p
    · subst e
      rw [va_up_self, va_up_self, va_up_self, va_up_self, if_pos rfl, if_pos rfl]
      exact ⟨fun z => (by cases z), fun _ => ⟨rfl, rfl, x1⟩⟩
    · rw [va_up_ne _ _ e, va_up_ne _ _ e, va_up_ne _ _ e, va_up_ne _ _ e, if_neg e, if_neg e]
      obtain ⟨h1, h2⟩ := hV.1 q hq
      refine ⟨h1, fun ht => ⟨(h2 ht).1, (h2 ht).2.1, ?_⟩⟩
      have hx : CX t11 (21 * v + 1 + q) (C.2.2.2.1 q) := by
        have := (h2 ht).2.2
        unfold CX at *
        rw [rt 2 _ (by omega), rt 20 _ (by omega), rt 21 _ (by omega)]
        exact this
      exact hx.kept x2 (by omega)
set_option maxHeartbeats 1000000 in
theorem s_removeC {σ : SG} {ν : NU} {v n np p : Nat} {ρ : RH} {J : List Nat} {eff : Nat → Bool} {C : CS} {post : Int32 → SG → Prop} (hv : v < 2) (hV : VC σ ν v n ρ eff C) (hG : GD n np ρ J C) (hp : p < 20) (kn : C.1 p = false → post 0 σ) (ky : C.1 p = true → ∀ σ', VC σ' ν v n ρ eff (cRm C p) → frV v σ σ' → post 1 σ') : wpX5_remove σ ν v (nI p) post := by
  refine ⟨hv, s_isThere hv hV hG hp ?_⟩
  cases ht : C.1 p with
  | false =>
    rw [show bI (false = true) = 0 from bI_f (by decide), if_pos z0I]
    exact kn ht
  | true =>
    rw [show bI (true = true) = 1 from bI_t rfl, if_neg z1I]
    refine ⟨21, ?_⟩
    have key : ∀ d j, j + d = 20 → ∀ σ1 : SG, frV v σ σ1 → σ1 15 v = σ 15 v → (∀ a b, a ≠ 14 → σ1 a b = σ a b) → (∀ q, q < 20 → σ1 14 v q = if q < j then (if (cRm C p).1 q = true then σ 14 v q else -1) else σ 14 v q) → wX5_remove_12 v (nI p) post (d + 1) σ1 ν (nI j) := by
      intro d
      induction d with
      | zero =>
        intro j hj σ1 g1 g15 go g14
        have hj20 : j = 20 := by omega
        subst hj20
        unfold wX5_remove_12
        rw [ti_n (by omega), if_neg (by omega)]
        refine ky ht σ1 ⟨fun q hq => ?_, fun i hi => by rw [go 12 v (by decide)]; exact hV.2.1 i hi, fun i hi he hk => ⟨(hV.2.2 i hi he hk).1, (hV.2.2 i hi he hk).2.same g1.d⟩⟩ g1
        have hx := g14 q hq
        rw [if_pos hq] at hx
        obtain ⟨h1, h2⟩ := hV.1 q hq
        refine ⟨fun z => by rw [hx, if_neg (by rw [z]; decide)], fun z => ?_⟩
        rw [hx, if_pos z, g15]
        have hq2 : C.1 q = true := by
          have z2 : (C.1 q && !win9 C.2.2.1 20 (nI q) (nI p)) = true := z
          cases e : C.1 q with
          | true => rfl
          | false => rw [e] at z2; cases z2
        obtain ⟨a, b, c⟩ := h2 hq2
        refine ⟨a, b, ?_⟩
        unfold CX at *
        rw [go 2 _ (by decide), go 20 _ (by decide), go 21 _ (by decide)]
        exact c
      | succ d ih =>
        intro j hj σ1 g1 g15 go g14
        have hj20 : j < 20 := by omega
        have hc : (nI j).toNatClampNeg = j := cl_n (by omega)
        -- it goes on, the label kept or taken
        have keep : (cRm C p).1 j = true ∨ σ 14 v j = -1 → wX5_remove_12 v (nI p) post (d + 1) σ1 ν (nI (j + 1)) := fun hk => by
          refine ih (j + 1) (by omega) σ1 g1 g15 go (fun q hq => ?_)
          rw [g14 q hq]
          by_cases e : q = j
          · subst e
            rw [if_neg (Nat.lt_irrefl q), if_pos (show q < q + 1 by omega)]
            rcases hk with hk | hk
            · rw [if_pos hk]
            · rw [hk]; split <;> rfl
          · by_cases e2 : q < j
            · rw [if_pos e2, if_pos (show q < j + 1 by omega)]
            · rw [if_neg e2, if_neg (show ¬ q < j + 1 by omega)]
        have drop : (cRm C p).1 j = false → vp_in (nI j) 20 ∧ ∀ t9 : SG, t9 = u3 σ1 14 v j (-1) → wX5_remove_12 v (nI p) post (d + 1) t9 ν (nI (j + 1)) := fun hk => by
          refine ⟨vi_n hj20 (by decide), fun t9 e9 => ih (j + 1) (by omega) t9 ?_ ?_ ?_ (fun q hq => ?_)⟩
          · rw [e9]; exact g1.tr (frV_u3 (Or.inl rfl) rfl)
          · rw [e9, u3_oth (fun z => by omega)]; exact g15
          · intro a b ha; rw [e9, u3_oth (fun z => ha z.1)]; exact go a b ha
          · rw [e9, u3_at]
            by_cases e : q = j
            · subst e
              rw [if_pos rfl, if_pos (show q < q + 1 by omega), if_neg (by rw [hk]; decide)]
            · rw [if_neg e, g14 q hq]
              by_cases e2 : q < j
              · rw [if_pos e2, if_pos (show q < j + 1 by omega)]
              · rw [if_neg e2, if_neg (show ¬ q < j + 1 by omega)]
        unfold wX5_remove_12
        rw [ti_n (by omega), if_pos (by omega), hc, li1, nI_add]
        refine ⟨hv, ?_⟩
        obtain ⟨h1, h2⟩ := hV.1 j hj20
        cases hjt : C.1 j with
        | false =>
          have hr : (cRm C p).1 j = false := by show (C.1 j && _) = false; rw [hjt]; rfl
          refine s_within_any hv ?_ ?_ (nI j)
          · rw [if_pos z0I]; exact keep (Or.inr (h1 hjt))
          · rw [if_neg z1I]; exact drop hr
        | true =>
          refine s_withinC (C := C) hv (fun q hq hqt => by rw [g15]; exact ((hV.1 q hq).2 hqt).2.1) hp (hG.1.2 j hj20 hjt) ?_
          cases hw : win9 C.2.2.1 20 (nI j) (nI p) with
          | false =>
            rw [show bI (false = true) = 0 from bI_f (by decide), if_pos z0I]
            exact keep (Or.inl (by show (C.1 j && !win9 C.2.2.1 20 (nI j) (nI p)) = true; rw [hjt, hw]; rfl))
          | true =>
            rw [show bI (true = true) = 1 from bI_t rfl, if_neg z1I]
            exact drop (by show (C.1 j && !win9 C.2.2.1 20 (nI j) (nI p)) = false; rw [hjt, hw]; rfl)
    exact key 20 0 rfl σ frV.rf rfl (fun _ _ _ => rfl) (fun q hq => by rw [if_neg (Nat.not_lt_zero q)])
