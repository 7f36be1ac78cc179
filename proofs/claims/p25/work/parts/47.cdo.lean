/-! The rest of the class's instructions, and all of them by their kinds. -/
theorem pl9_any {C : CS} {np p : Nat} {o lab : Int32} (hI : INV np C) (h20 : np ≤ 20) : any9 (fh9 C o lab (nI p)) 20 = any9 (fh9 C o lab (nI p)) np :=
  any9_20 h20 (fun k h1 h2 => by
    cases e : C.1 k with
    | false => simp [fh9, e]
    | true => have := hI.1 k h2 e; omega)
theorem s_renumberC {σ : SG} {ν : NU} {v n np i p : Nat} {ρ : RH} {J : List Nat} {eff : Nat → Bool} {C : CS} {post : Int32 → SG → Prop} (hv : v < 2) (hD : DAT n np ρ) (hC : CDT σ ν ρ n) (hV : VC σ ν v n ρ eff C) (hG : GD n np ρ J C) (hi : i < n) (k4 : ρ 13 i = 4) (hpe : pv9 ρ i = p)
    (kn0 : C.1 p = false → post 0 σ) (kn : C.1 p = true → any9 (fh9 C (C.2.2.1 p) (ρ 17 i) (nI p)) np = true → post 0 σ)
    (ky : C.1 p = true → any9 (fh9 C (C.2.2.1 p) (ρ 17 i) (nI p)) np = false → ∀ σ', VC σ' ν v n ρ eff (cLb C p (ρ 17 i)) → frV v σ σ' → post 1 σ') : wpX5_renumber σ ν v i post := by
  obtain ⟨c0, -, -, c3, c4, c5, c6, -⟩ := hC.2 i hi
  obtain ⟨-, -, -, h15, -, h8, h16, -, h17, -⟩ := hD.2.2.2.2.1 i hi
  have hn := hC.1
  have h20 := hD.2.1
  have h8 := h8 (by rw [k4]; decide)
  have h17 := h17 (Or.inr k4)
  rw [hpe] at h15 h8
  have hp : p < 20 := by omega
  have hcp : (nI p).toNatClampNeg = p := cl_n (by omega)
  unfold wpX5_renumber
  rw [c4, h15, c6 (Or.inr k4), hcp]
  refine ⟨by omega, hv, s_isThere hv hV hG hp ?_⟩
  cases ht : C.1 p with
  | false =>
    rw [show bI (false = true) = 0 from bI_f (by decide), if_pos z0I]
    exact kn0 ht
  | true =>
    rw [show bI (true = true) = 1 from bI_t rfl, if_neg z1I]
    refine s_outerOf hv hp ?_
    rw [((hV.1 p hp).2 ht).2.1]
    have hout := INV_out hG.1 hp ht
    refine s_mayHold hv hV hG hp (by rcases hout with h | ⟨r, a, b, -⟩; exact Or.inl h; exact Or.inr ⟨r, a, b⟩) (okl_m1 h17) ?_
    have hpl : pl9 C (C.2.2.1 p) = true := by
      rcases hout with h | ⟨r, a, b, c⟩
      · rw [h]; simp [pl9]
      · rw [pl9_par a b]; exact c
    rw [hpl, Bool.true_and, pl9_any hG.1 h20]
    cases hb : any9 (fh9 C (C.2.2.1 p) (ρ 17 i) (nI p)) np with
    | true =>
      rw [show bI ((!true) = true) = 0 from bI_f (by decide), if_pos z0I]
      exact kn ht hb
    | false =>
      rw [show bI ((!false) = true) = 1 from bI_t rfl, if_neg z1I]
      refine ⟨vi_n hp (by decide), fun t9 e9 => ?_⟩
      have g : frV v σ t9 := by rw [e9]; exact frV_u3 (Or.inl rfl) rfl
      refine ky ht hb t9 (hV.at (p := p) (C' := cLb C p (ρ 17 i)) g (by rw [e9]; exact oth3 (Or.inl rfl) v) (fun _ _ => rfl) (fun q hq => va_up_ne _ _ hq) (fun _ _ => rfl) rfl (fun q hq => by rw [e9, u3_at, if_neg hq]) (fun q hq => by rw [e9, u3_oth (fun z => by omega)]) (fun z => by rw [show (cLb C p (ρ 17 i)).1 p = C.1 p from rfl, ht] at z; cases z) (fun _ => ⟨?_, ?_, ((hV.1 p hp).2 ht).2.2⟩)) g
      · rw [e9, u3_at, if_pos rfl]; exact (va_up_self _ _ _).symm
      · rw [e9, u3_oth (fun z => by omega)]; exact ((hV.1 p hp).2 ht).2.1
theorem s_shiftC {σ : SG} {ν : NU} {v n np i p : Nat} {ρ : RH} {J : List Nat} {eff : Nat → Bool} {C : CS} {post : Int32 → SG → Prop} (hv : v < 2) (hD : DAT n np ρ) (hC : CDT σ ν ρ n) (hV : VC σ ν v n ρ eff C) (hG : GD n np ρ J C) (hi : i < n) (k5 : ρ 13 i = 5) (hpe : pv9 ρ i = p)
    (kn0 : C.1 p = false → post 0 σ) (kn : C.1 p = true → (pl9 C (ρ 16 i) && (!win9 C.2.2.1 20 (ρ 16 i) (nI p) && !any9 (fh9 C (ρ 16 i) (C.2.1 p) (nI p)) np)) = false → post 0 σ)
    (ky : C.1 p = true → (pl9 C (ρ 16 i) && (!win9 C.2.2.1 20 (ρ 16 i) (nI p) && !any9 (fh9 C (ρ 16 i) (C.2.1 p) (nI p)) np)) = true → ∀ σ', VC σ' ν v n ρ eff (cPa C p (ρ 16 i)) → frV v σ σ' → post 1 σ') : wpX5_shift σ ν v i post := by
  obtain ⟨c0, -, -, c3, c4, c5, c6, -⟩ := hC.2 i hi
  obtain ⟨-, -, -, h15, -, h8, h16, -, h17, -⟩ := hD.2.2.2.2.1 i hi
  have hn := hC.1
  have h20 := hD.2.1
  have h8 := h8 (by rw [k5]; decide)
  have h16 := h16 (Or.inr k5)
  rw [hpe] at h15 h8
  have hp : p < 20 := by omega
  have hcp : (nI p).toNatClampNeg = p := cl_n (by omega)
  unfold wpX5_shift
  rw [c4, h15, c5 (Or.inr k5), hcp]
  refine ⟨by omega, hv, s_isThere hv hV hG hp ?_⟩
  cases ht : C.1 p with
  | false =>
    rw [show bI (false = true) = 0 from bI_f (by decide), if_pos z0I]
    exact kn0 ht
  | true =>
    rw [show bI (true = true) = 1 from bI_t rfl, if_neg z1I]
    have hl := okl_m1 (hG.2.2.1 p hp ht)
    have tail : (win9 C.2.2.1 20 (ρ 16 i) (nI p) = false ∨ pl9 C (ρ 16 i) = false) → wpX5_labelOf σ ν v (nI p) (fun r7 => wpX5_mayHold σ ν v (ρ 16 i) r7 (nI p) (fun r8 => if r8.toInt = 0 then post ((0 : Int32)) σ else vp_in (nI p) 20 ∧ ∀ t11 : SG, t11 = u3 σ 15 v p (ρ 16 i) → post ((1 : Int32)) t11)) := by
      intro hw
      refine s_labelOf hv hp ?_
      rw [((hV.1 p hp).2 ht).1]
      refine s_mayHold hv hV hG hp h16 hl ?_
      rw [pl9_any hG.1 h20]
      cases hb : (pl9 C (ρ 16 i) && !any9 (fh9 C (ρ 16 i) (C.2.1 p) (nI p)) np) with
      | false =>
        rw [show bI (false = true) = 0 from bI_f (by decide), if_pos z0I]
        refine kn ht ?_
        cases h1 : pl9 C (ρ 16 i) <;> cases h2 : any9 (fh9 C (ρ 16 i) (C.2.1 p) (nI p)) np <;> rw [h1, h2] at hb <;> simp at hb ⊢
      | true =>
        rw [show bI (true = true) = 1 from bI_t rfl, if_neg z1I]
        have hpl : pl9 C (ρ 16 i) = true := by
          cases h1 : pl9 C (ρ 16 i) with
          | true => rfl
          | false => rw [h1] at hb; cases hb
        have hal : any9 (fh9 C (ρ 16 i) (C.2.1 p) (nI p)) np = false := by
          cases h1 : any9 (fh9 C (ρ 16 i) (C.2.1 p) (nI p)) np with
          | false => rfl
          | true => rw [h1, hpl] at hb; cases hb
        have hw := hw.resolve_right (by rw [hpl]; decide)
        refine ⟨vi_n hp (by decide), fun t9 e9 => ?_⟩
        have g : frV v σ t9 := by rw [e9]; exact frV_u3 (Or.inr rfl) rfl
        refine ky ht (by rw [hpl, hw, hal]; rfl) t9 (hV.at (p := p) (C' := cPa C p (ρ 16 i)) g (by rw [e9]; exact oth3 (Or.inr rfl) v) (fun _ _ => rfl) (fun _ _ => rfl) (fun q hq => va_up_ne _ _ hq) rfl (fun q hq => by rw [e9, u3_oth (fun z => by omega)]) (fun q hq => by rw [e9, u3_at, if_neg hq]) (fun z => by rw [show (cPa C p (ρ 16 i)).1 p = C.1 p from rfl, ht] at z; cases z) (fun _ => ⟨?_, ?_, ((hV.1 p hp).2 ht).2.2⟩)) g
        · rw [e9, u3_oth (fun z => by omega)]; exact ((hV.1 p hp).2 ht).1
        · rw [e9, u3_at, if_pos rfl]; exact (va_up_self _ _ _).symm
    have hfail : pl9 C (ρ 16 i) = false → post 0 σ := fun h => kn ht (by rw [h]; rfl)
    cases hpl : pl9 C (ρ 16 i) with
    | false =>
      refine s_within_any hv ?_ ?_ (ρ 16 i)
      · rw [if_pos z0I]; exact tail (Or.inr hpl)
      · rw [if_neg z1I]; exact hfail hpl
    | true =>
      refine s_withinC (C := C) hv (fun q hq hqt => ((hV.1 q hq).2 hqt).2.1) hp (pl9_ch hG.1 h16 hpl) ?_
      cases hw : win9 C.2.2.1 20 (ρ 16 i) (nI p) with
      | false =>
        rw [show bI (false = true) = 0 from bI_f (by decide), if_pos z0I]
        exact tail (Or.inl hw)
      | true =>
        rw [show bI (true = true) = 1 from bI_t rfl, if_neg z1I]
        exact kn ht (by rw [hpl, hw]; rfl)
theorem s_retellC {σ : SG} {ν : NU} {v n np i p : Nat} {ρ : RH} {eff : Nat → Bool} {C : CS} {post : Int32 → SG → NU → Prop} (hv : v < 2) (hD : DAT n np ρ) (hC : CDT σ ν ρ n) (hV : VC σ ν v n ρ eff C) (hi : i < n) (k7 : ρ 13 i = 7) (hpe : pv9 ρ i = p)
    (kn : C.2.2.2.2.1 p ≠ 0 → post 0 σ ν) (ks : C.2.2.2.2.1 p = 0 → (eff p && decide ((ρ 13 p).toInt ≤ 2)) = false → ∀ ν', VC σ ν' v n ρ eff C → frN v ν ν' → post 1 σ ν')
    (ky : C.2.2.2.2.1 p = 0 → (eff p && decide ((ρ 13 p).toInt ≤ 2)) = true → ∀ ν', VC σ ν' v n ρ eff (cNw C p (aw9 ρ i)) → frN v ν ν' → post 1 σ ν') : wpX5_retell σ ν v i post := by
  obtain ⟨c0, -, -, c3, c4, c5, c6, c7, c8, -⟩ := hC.2 i hi
  obtain ⟨-, -, -, h15, h7, -⟩ := hD.2.2.2.2.1 i hi
  have hn := hC.1
  have h40 := hD.1
  have h7 := h7 k7
  rw [hpe] at h15 h7
  have hcp : (nI p).toNatClampNeg = p := cl_n (by omega)
  have hvp : vp_in (nI p) 40 := vi_n (by omega) (by decide)
  unfold wpX5_retell
  rw [c4, h15, ti_n (by omega), hcp]
  refine ⟨by omega, ?_⟩
  rw [if_neg (by omega), if_pos (by omega)]
  refine ⟨hv, hvp, ?_⟩
  rw [hV.2.1 p (by omega)]
  by_cases c : C.2.2.2.2.1 p = 0
  · rw [if_pos (by rw [c]; exact z0I)]
    refine ⟨hvp, fun ν' e => ?_⟩
    have g13 : ∀ j, ν' 13 v j = if j = p then (2 * i + 1) + 1 else ν 13 v j := fun j => by rw [e]; simp [u3]
    have gn : frN v ν ν' := ⟨fun a b z => by rw [e, u3_oth z], fun j => by
      rw [g13]
      by_cases q : j = p
      · rw [if_pos q]; exact Or.inr (by omega)
      · rw [if_neg q]; exact Or.inl rfl⟩
    have g99 : ν' 99 = ν 99 := by funext b; rw [gn.1 99 b (by omega)]
    cases hb : (eff p && decide ((ρ 13 p).toInt ≤ 2)) with
    | false =>
      refine ks c hb ν' ⟨hV.1, hV.2.1, fun j hj hej hk => ?_⟩ gn
      have hne : j ≠ p := fun z => by subst z; rw [hej] at hb; simp at hb; omega
      rw [g13, if_neg hne]
      exact hV.2.2 j hj hej hk
    | true =>
      refine ky c hb ν' ⟨hV.1, hV.2.1, fun j hj hej hk => ?_⟩ gn
      rw [g13]
      show _ ∧ PH σ _ (va_up C.2.2.2.2.2 p (aw9 ρ i) j)
      by_cases e2 : j = p
      · subst e2
        rw [if_pos rfl, va_up_self, if_neg (by omega)]
        exact ⟨by omega, c8⟩
      · rw [if_neg e2, va_up_ne _ _ e2]
        exact hV.2.2 j hj hej hk
  · rw [if_neg (fun z => c (ti_eq.mp (z.trans z0I.symm)))]
    exact kn c
set_option maxHeartbeats 1000000 in
theorem s_carryOut {σ : SG} {ν : NU} {v n np i : Nat} {ρ : RH} {J : List Nat} {eff : Nat → Bool} {C : CS} {post : Int32 → SG → NU → Prop} (hv : v < 2) (hD : DAT n np ρ) (hC : CDT σ ν ρ n) (hV : VC σ ν v n ρ eff C) (hG : GD n np ρ J C) (hJ : ∀ j ∈ J, j < n) (hi : i < n) (hiJ : i ∉ J) (he : eff i = true)
    (kn : do9 np ρ C eff i (pv9 ρ i) (sw9 ρ i) (aw9 ρ i) = none → post 0 σ ν)
    (ky : ∀ C', do9 np ρ C eff i (pv9 ρ i) (sw9 ρ i) (aw9 ρ i) = some C' → ∀ σ' ν', VC σ' ν' v n ρ eff C' → frV v σ σ' → frN v ν ν' → post 1 σ' ν') : wpX5_carryOut σ ν v i post := by
  obtain ⟨c0, -, -, c3, c4, c5, c6, c7, c8, -⟩ := hC.2 i hi
  obtain ⟨-, -, ⟨K, hK, hKe⟩, h15, -, h8, -⟩ := hD.2.2.2.2.1 i hi
  have hn := hC.1
  have h40 := hD.1
  have h20 := hD.2.1
  have hDI := hD.di hi
  have hen : ρ 13 i = 0 → C.1 (pv9 ρ i) = false := fun k0 => by
    cases e : C.1 (pv9 ρ i) with
    | false => rfl
    | true =>
      obtain ⟨j, a, b, c⟩ := hG.2.1 _ (by have := h8 (by rw [k0]; decide); omega) e
      have := hD.2.2.2.2.2.1 j i (hJ j a) hi b k0 c
      subst this
      exact absurd a hiJ
  obtain ⟨-, -, -, -, hp7, -, hs2⟩ := hDI
  generalize hpe : pv9 ρ i = p at *
  unfold do9 at kn ky
  unfold wpX5_carryOut
  rw [c3, c4, h15]
  refine ⟨by omega, ?_⟩
  by_cases k0 : ρ 13 i = 0
  · rw [if_pos k0] at kn ky
    rw [if_pos (by rw [k0]; exact z0I)]
    refine ⟨hv, s_setUp hv hD hC hV hG hi he k0 hpe (hen k0) (fun hb => ⟨Or.inl rfl, ?_⟩) (fun hb σ' x1 x2 => ⟨Or.inr rfl, ?_⟩)⟩
    · rw [hb] at kn; exact kn (if_neg (by decide))
    · rw [hb] at ky; exact ky _ (if_pos rfl) σ' ν x1 x2 frN.rf
  rw [if_neg k0] at kn ky
  rw [if_neg (fun z : (ρ 13 i).toInt = 0 => k0 ((ti_k (k := 0) (by decide)).mp z))]
  by_cases k7 : ρ 13 i = 7
  · rw [if_pos k7] at kn ky
    rw [if_neg (by rw [k7]; decide), if_neg (by rw [k7]; decide), if_neg (by rw [k7]; decide), if_neg (by rw [k7]; decide), if_neg (by rw [k7]; decide), if_neg (by rw [k7]; decide), if_pos (by rw [k7]; decide)]
    refine ⟨hv, s_retellC hv hD hC hV hi k7 hpe (fun hb => ⟨Or.inl rfl, ?_⟩) (fun hb hc ν' x1 x2 => ⟨Or.inr rfl, ?_⟩) (fun hb hc ν' x1 x2 => ⟨Or.inr rfl, ?_⟩)⟩
    · rw [if_neg hb] at kn; exact kn rfl
    · rw [if_pos hb, hc] at ky; exact ky C (if_neg (by decide)) σ ν' x1 frV.rf x2
    · rw [if_pos hb, hc] at ky; exact ky _ (if_pos rfl) σ ν' x1 frV.rf x2
  rw [if_neg k7] at kn ky
  have hp : p < 20 := hp7 k7
  have hcp : (nI p).toNatClampNeg = p := cl_n (by omega)
  have hvp : vp_in (nI p) 20 := vi_n hp (by decide)
  -- a text's instruction
  have text : (o : Option TXT) → (C.1 p = false → post 0 σ ν) → (C.1 p = true → o = none → post 0 σ ν) → (C.1 p = true → ∀ r, o = some r → ∀ σ', CX σ' (21 * v + 1 + p) r → lgC (21 * v + 1 + p) σ σ' → post 1 σ' ν) →
      (ρ 13 i = 1 ∧ o = ins9 (sw9 ρ i) (C.2.2.2.2.2 i) (nI i) (C.2.2.2.1 p) ∨ ρ 13 i = 2 ∧ o = sbs9 (sw9 ρ i) (C.2.2.2.2.2 i) (nI i) (C.2.2.2.1 p) ∨ ρ 13 i = 3 ∧ o = om9 (sw9 ρ i) (C.2.2.2.1 p)) →
      wpX5_isThere σ ν v (nI p) (fun r9 => if r9.toInt = 0 then post ((0 : Int32)) σ ν else vp_in (nI p) 20 ∧ wpX5_reword σ ν v i (21 * v + 1 + (nI p).toNatClampNeg) (fun r13 t14 => if r13.toInt = 0 then post ((0 : Int32)) t14 ν else post ((1 : Int32)) t14 ν)) := by
    intro o n1 n2 y hk
    refine s_isThere hv hV hG hp ?_
    cases ht : C.1 p with
    | false =>
      rw [show bI (false = true) = 0 from bI_f (by decide), if_pos z0I]
      exact n1 ht
    | true =>
      rw [show bI (true = true) = 1 from bI_t rfl, if_neg z1I, hcp]
      refine ⟨hvp, s_reword (l := C.2.2.2.1 p) (f := C.2.2.2.2.2 i) hv hC hi h40 (by omega) (Or.inr ((hV.1 p hp).2 ht).2.2) hs2 (fun q => hV.2.2 i hi he q) (by rw [hKe, ti_n (by omega)]; omega) (fun q => absurd q k0) (fun q e => ?_) (fun q r e σ' x1 x2 => ?_) (fun q e => ?_) (fun q r e σ' x1 x2 => ?_) (fun q e => ?_) (fun q r e σ' x1 x2 => ?_) (fun _ q1 q2 q3 => ?_)⟩
      · rw [if_pos z0I]
        rcases hk with ⟨z, w⟩ | ⟨z, w⟩ | ⟨z, w⟩
        · exact n2 ht (w.trans e)
        · rw [q] at z; exact absurd z (by decide)
        · rw [q] at z; exact absurd z (by decide)
      · rw [if_neg z1I]
        rcases hk with ⟨z, w⟩ | ⟨z, w⟩ | ⟨z, w⟩
        · exact y ht r (w.trans e) σ' x1 x2
        · rw [q] at z; exact absurd z (by decide)
        · rw [q] at z; exact absurd z (by decide)
      · rw [if_pos z0I]
        rcases hk with ⟨z, w⟩ | ⟨z, w⟩ | ⟨z, w⟩
        · rw [q] at z; exact absurd z (by decide)
        · exact n2 ht (w.trans e)
        · rw [q] at z; exact absurd z (by decide)
      · rw [if_neg z1I]
        rcases hk with ⟨z, w⟩ | ⟨z, w⟩ | ⟨z, w⟩
        · rw [q] at z; exact absurd z (by decide)
        · exact y ht r (w.trans e) σ' x1 x2
        · rw [q] at z; exact absurd z (by decide)
      · rw [if_pos z0I]
        rcases hk with ⟨z, w⟩ | ⟨z, w⟩ | ⟨z, w⟩
        · rw [q] at z; exact absurd z (by decide)
        · rw [q] at z; exact absurd z (by decide)
        · exact n2 ht (w.trans e)
      · rw [if_neg z1I]
        rcases hk with ⟨z, w⟩ | ⟨z, w⟩ | ⟨z, w⟩
        · rw [q] at z; exact absurd z (by decide)
        · rw [q] at z; exact absurd z (by decide)
        · exact y ht r (w.trans e) σ' x1 x2
      · rcases hk with ⟨z, -⟩ | ⟨z, -⟩ | ⟨z, -⟩
        · exact absurd z q1
        · exact absurd z q2
        · exact absurd z q3
  have vtx : ∀ r σ', CX σ' (21 * v + 1 + p) r → lgC (21 * v + 1 + p) σ σ' → VC σ' ν v n ρ eff (cTx C p r) ∧ frV v σ σ' := fun r σ' x1 x2 => ⟨hV.tx hv hp x1 x2, frV.of x2 (by omega) (by omega)⟩
  by_cases k1 : ρ 13 i = 1
  · rw [if_pos (by rw [k1]; decide)]
    refine ⟨hv, text _ (fun ht => kn (by rw [if_pos ht])) (fun ht e => kn (by rw [if_neg (by rw [ht]; decide), if_pos k1, e]; rfl)) (fun ht r e σ' x1 x2 => ?_) (Or.inl ⟨k1, rfl⟩)⟩
    obtain ⟨a, b⟩ := vtx r σ' x1 x2
    exact ky _ (by rw [if_neg (by rw [ht]; decide), if_pos k1, e]; rfl) σ' ν a b frN.rf
  rw [if_neg (fun z : (ρ 13 i).toInt = 1 => k1 ((ti_k (k := 1) (by decide)).mp z))]
  by_cases k2 : ρ 13 i = 2
  · rw [if_pos (by rw [k2]; decide)]
    refine ⟨hv, text _ (fun ht => kn (by rw [if_pos ht])) (fun ht e => kn (by rw [if_neg (by rw [ht]; decide), if_neg k1, if_pos k2, e]; rfl)) (fun ht r e σ' x1 x2 => ?_) (Or.inr (Or.inl ⟨k2, rfl⟩))⟩
    obtain ⟨a, b⟩ := vtx r σ' x1 x2
    exact ky _ (by rw [if_neg (by rw [ht]; decide), if_neg k1, if_pos k2, e]; rfl) σ' ν a b frN.rf
  rw [if_neg (fun z : (ρ 13 i).toInt = 2 => k2 ((ti_k (k := 2) (by decide)).mp z))]
  by_cases k3 : ρ 13 i = 3
  · rw [if_pos (by rw [k3]; decide)]
    refine ⟨hv, text _ (fun ht => kn (by rw [if_pos ht])) (fun ht e => kn (by rw [if_neg (by rw [ht]; decide), if_neg k1, if_neg k2, if_pos k3, e]; rfl)) (fun ht r e σ' x1 x2 => ?_) (Or.inr (Or.inr ⟨k3, rfl⟩))⟩
    obtain ⟨a, b⟩ := vtx r σ' x1 x2
    exact ky _ (by rw [if_neg (by rw [ht]; decide), if_neg k1, if_neg k2, if_pos k3, e]; rfl) σ' ν a b frN.rf
  rw [if_neg (fun z : (ρ 13 i).toInt = 3 => k3 ((ti_k (k := 3) (by decide)).mp z))]
  by_cases k4 : ρ 13 i = 4
  · rw [if_pos (by rw [k4]; decide)]
    refine ⟨hv, s_renumberC hv hD hC hV hG hi k4 hpe (fun ht => ⟨Or.inl rfl, kn (by rw [if_pos ht])⟩) (fun ht hb => ⟨Or.inl rfl, kn ?_⟩) (fun ht hb σ' x1 x2 => ⟨Or.inr rfl, ky _ ?_ σ' ν x1 x2 frN.rf⟩)⟩
    · rw [if_neg (by rw [ht]; decide), if_neg k1, if_neg k2, if_neg k3, if_pos k4, if_neg (by rw [hb]; decide)]
    · rw [if_neg (by rw [ht]; decide), if_neg k1, if_neg k2, if_neg k3, if_pos k4, if_pos hb]
  rw [if_neg (fun z : (ρ 13 i).toInt = 4 => k4 ((ti_k (k := 4) (by decide)).mp z))]
  by_cases k5 : ρ 13 i = 5
  · rw [if_pos (by rw [k5]; decide)]
    refine ⟨hv, s_shiftC hv hD hC hV hG hi k5 hpe (fun ht => ⟨Or.inl rfl, kn (by rw [if_pos ht])⟩) (fun ht hb => ⟨Or.inl rfl, kn ?_⟩) (fun ht hb σ' x1 x2 => ⟨Or.inr rfl, ky _ ?_ σ' ν x1 x2 frN.rf⟩)⟩
    · rw [if_neg (by rw [ht]; decide), if_neg k1, if_neg k2, if_neg k3, if_neg k4, if_pos k5, if_neg (by rw [hb]; decide)]
    · rw [if_neg (by rw [ht]; decide), if_neg k1, if_neg k2, if_neg k3, if_neg k4, if_pos k5, if_pos hb]
  rw [if_neg (fun z : (ρ 13 i).toInt = 5 => k5 ((ti_k (k := 5) (by decide)).mp z))]
  have k6 : ρ 13 i = 6 := by
    rw [hKe] at k0 k1 k2 k3 k4 k5 k7 ⊢
    have : K = 6 := by
      rcases (show K = 0 ∨ K = 1 ∨ K = 2 ∨ K = 3 ∨ K = 4 ∨ K = 5 ∨ K = 6 ∨ K = 7 by omega) with q | q | q | q | q | q | q | q <;> subst q <;> first | rfl | exact absurd rfl k0 | exact absurd rfl k1 | exact absurd rfl k2 | exact absurd rfl k3 | exact absurd rfl k4 | exact absurd rfl k5 | exact absurd rfl k7
    rw [this]; rfl
  rw [if_pos (by rw [k6]; decide)]
  refine ⟨hv, s_removeC hv hV hG hp (fun ht => ⟨Or.inl rfl, kn (by rw [if_pos ht])⟩) (fun ht σ' x1 x2 => ⟨Or.inr rfl, ky _ ?_ σ' ν x1 x2 frN.rf⟩)⟩
  rw [if_neg (by rw [ht]; decide), if_neg k1, if_neg k2, if_neg k3, if_neg k4, if_neg k5]
