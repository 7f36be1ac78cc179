/-! A provision's words found anew, in the class. -/
theorem do9_keep {np i p : Nat} {ρ : RH} {C C' : CS} {eff : Nat → Bool} {s f : List Int32} (h : do9 np ρ C eff i p s f = some C') : C'.2.2.2.2.1 = C.2.2.2.2.1 ∧ (∀ k, (ρ 13 i = 7 → k ≠ p ∨ C.2.2.2.2.1 p ≠ 0) → C'.2.2.2.2.2 k = C.2.2.2.2.2 k) ∧
    (∀ q, C'.1 q = true → C.1 q = true ∨ (ρ 13 i = 0 ∧ q = p)) ∧ (∀ q, q ≠ p → C'.2.2.2.1 q = C.2.2.2.1 q) ∧ (ρ 13 i = 0 → C'.2.2.2.1 p = tag9 (C.2.2.2.2.2 i) (nI i)) ∧
    (ρ 13 i ≠ 0 → ρ 13 i ≠ 7 → C.1 p = true) ∧ (ρ 13 i = 1 → ins9 s (C.2.2.2.2.2 i) (nI i) (C.2.2.2.1 p) = some (C'.2.2.2.1 p)) ∧ (ρ 13 i = 2 → sbs9 s (C.2.2.2.2.2 i) (nI i) (C.2.2.2.1 p) = some (C'.2.2.2.1 p)) ∧ (ρ 13 i = 3 → om9 s (C.2.2.2.1 p) = some (C'.2.2.2.1 p)) ∧
    (ρ 13 i ≠ 0 → ρ 13 i ≠ 1 → ρ 13 i ≠ 2 → ρ 13 i ≠ 3 → C'.2.2.2.1 p = C.2.2.2.1 p) := by
  have ne : ∀ {a b : Nat}, a < 8 → b < 8 → a ≠ b → ρ 13 i = nI a → ρ 13 i = nI b → False := fun ha hb hab h1 h2 => hab (nI_inj (by omega) (by omega) (h1.symm.trans h2))
  unfold do9 at h
  by_cases k0 : ρ 13 i = 0
  · rw [if_pos k0] at h
    split at h
    · cases h
      refine ⟨rfl, fun _ _ => rfl, fun q hq => ?_, fun q hq => va_up_ne _ _ hq, fun _ => va_up_self _ _ _, fun z => absurd k0 z, fun z => (ne (a := 0) (b := 1) (by decide) (by decide) (by decide) k0 z).elim, fun z => (ne (a := 0) (b := 2) (by decide) (by decide) (by decide) k0 z).elim, fun z => (ne (a := 0) (b := 3) (by decide) (by decide) (by decide) k0 z).elim, fun z => absurd k0 z⟩
      by_cases e : q = p
      · exact Or.inr ⟨k0, e⟩
      · exact Or.inl ((va_up_ne C.1 true e).symm.trans hq)
    · cases h
  rw [if_neg k0] at h
  by_cases k7 : ρ 13 i = 7
  · rw [if_pos k7] at h
    have z1 : ρ 13 i = 1 → False := ne (a := 7) (b := 1) (by decide) (by decide) (by decide) k7
    have z2 : ρ 13 i = 2 → False := ne (a := 7) (b := 2) (by decide) (by decide) (by decide) k7
    have z3 : ρ 13 i = 3 → False := ne (a := 7) (b := 3) (by decide) (by decide) (by decide) k7
    split at h
    · next hs =>
      split at h
      · cases h
        refine ⟨rfl, fun k hk => ?_, fun q hq => Or.inl hq, fun q hq => rfl, fun z => absurd z k0, fun _ z => absurd k7 z, fun z => (z1 z).elim, fun z => (z2 z).elim, fun z => (z3 z).elim, fun _ _ _ _ => rfl⟩
        rcases hk k7 with q | q
        · exact va_up_ne _ _ q
        · exact absurd hs q
      · cases h
        exact ⟨rfl, fun _ _ => rfl, fun q hq => Or.inl hq, fun q hq => rfl, fun z => absurd z k0, fun _ z => absurd k7 z, fun z => (z1 z).elim, fun z => (z2 z).elim, fun z => (z3 z).elim, fun _ _ _ _ => rfl⟩
    · cases h
  rw [if_neg k7] at h
  cases ht : C.1 p with
  | false => rw [if_pos ht] at h; cases h
  | true =>
    rw [if_neg (by rw [ht]; decide)] at h
    by_cases k1 : ρ 13 i = 1
    · rw [if_pos k1] at h
      have z2 : ρ 13 i = 2 → False := ne (a := 1) (b := 2) (by decide) (by decide) (by decide) k1
      have z3 : ρ 13 i = 3 → False := ne (a := 1) (b := 3) (by decide) (by decide) (by decide) k1
      cases e : ins9 s (C.2.2.2.2.2 i) (nI i) (C.2.2.2.1 p) with
      | none => rw [e] at h; cases h
      | some t =>
        rw [e] at h
        cases h
        exact ⟨rfl, fun _ _ => rfl, fun q hq => Or.inl hq, fun q hq => va_up_ne _ _ hq, fun z => absurd z k0, fun _ _ => rfl, fun _ => by rw [show (cTx C p t).2.2.2.1 p = t from va_up_self _ _ _], fun z => (z2 z).elim, fun z => (z3 z).elim, fun _ z => absurd k1 z⟩
    rw [if_neg k1] at h
    by_cases k2 : ρ 13 i = 2
    · rw [if_pos k2] at h
      have z3 : ρ 13 i = 3 → False := ne (a := 2) (b := 3) (by decide) (by decide) (by decide) k2
      cases e : sbs9 s (C.2.2.2.2.2 i) (nI i) (C.2.2.2.1 p) with
      | none => rw [e] at h; cases h
      | some t =>
        rw [e] at h
        cases h
        exact ⟨rfl, fun _ _ => rfl, fun q hq => Or.inl hq, fun q hq => va_up_ne _ _ hq, fun z => absurd z k0, fun _ _ => rfl, fun z => absurd z k1, fun _ => by rw [show (cTx C p t).2.2.2.1 p = t from va_up_self _ _ _], fun z => (z3 z).elim, fun _ _ z => absurd k2 z⟩
    rw [if_neg k2] at h
    by_cases k3 : ρ 13 i = 3
    · rw [if_pos k3] at h
      cases e : om9 s (C.2.2.2.1 p) with
      | none => rw [e] at h; cases h
      | some t =>
        rw [e] at h
        cases h
        exact ⟨rfl, fun _ _ => rfl, fun q hq => Or.inl hq, fun q hq => va_up_ne _ _ hq, fun z => absurd z k0, fun _ _ => rfl, fun z => absurd z k1, fun z => absurd z k2, fun _ => by rw [show (cTx C p t).2.2.2.1 p = t from va_up_self _ _ _], fun _ _ _ z => absurd k3 z⟩
    rw [if_neg k3] at h
    have plain : C'.2.2.2.2.1 = C.2.2.2.2.1 → C'.2.2.2.2.2 = C.2.2.2.2.2 → (∀ q, C'.1 q = true → C.1 q = true) → C'.2.2.2.1 = C.2.2.2.1 → C'.2.2.2.2.1 = C.2.2.2.2.1 ∧ (∀ k, (ρ 13 i = 7 → k ≠ p ∨ C.2.2.2.2.1 p ≠ 0) → C'.2.2.2.2.2 k = C.2.2.2.2.2 k) ∧
      (∀ q, C'.1 q = true → C.1 q = true ∨ (ρ 13 i = 0 ∧ q = p)) ∧ (∀ q, q ≠ p → C'.2.2.2.1 q = C.2.2.2.1 q) ∧ (ρ 13 i = 0 → C'.2.2.2.1 p = tag9 (C.2.2.2.2.2 i) (nI i)) ∧
      (ρ 13 i ≠ 0 → ρ 13 i ≠ 7 → true = true) ∧ (ρ 13 i = 1 → ins9 s (C.2.2.2.2.2 i) (nI i) (C.2.2.2.1 p) = some (C'.2.2.2.1 p)) ∧ (ρ 13 i = 2 → sbs9 s (C.2.2.2.2.2 i) (nI i) (C.2.2.2.1 p) = some (C'.2.2.2.1 p)) ∧ (ρ 13 i = 3 → om9 s (C.2.2.2.1 p) = some (C'.2.2.2.1 p)) ∧
      (ρ 13 i ≠ 0 → ρ 13 i ≠ 1 → ρ 13 i ≠ 2 → ρ 13 i ≠ 3 → C'.2.2.2.1 p = C.2.2.2.1 p) := fun a1 a2 a3 a4 =>
        ⟨a1, fun _ _ => by rw [a2], fun q hq => Or.inl (a3 q hq), fun q _ => by rw [a4], fun z => absurd z k0, fun _ _ => rfl, fun z => absurd z k1, fun z => absurd z k2, fun z => absurd z k3, fun _ _ _ _ => by rw [a4]⟩
    split at h
    · split at h
      · cases h; exact plain rfl rfl (fun _ z => z) rfl
      · cases h
    split at h
    · split at h
      · cases h; exact plain rfl rfl (fun _ z => z) rfl
      · cases h
    · cases h
      refine plain rfl rfl (fun q z => ?_) rfl
      have z : (C.1 q && !win9 C.2.2.1 20 (nI q) (nI p)) = true := z
      cases e : C.1 q with
      | true => rfl
      | false => rw [e] at z; cases z
/-- what one step leaves of the others, and says of itself -/
theorem step_keep {n np i k : Nat} {ρ : RH} {C : CS} {eff : Nat → Bool} (hD : DAT n np ρ) (hi : i < n) :
    (k ≠ i → (step9 np ρ eff C i).2.2.2.2.1 k = C.2.2.2.2.1 k) ∧ ((k = i ∨ C.2.2.2.2.1 k ≠ 0) → (step9 np ρ eff C i).2.2.2.2.2 k = C.2.2.2.2.2 k) ∧ (step9 np ρ eff C i).2.2.2.2.1 i ≠ 0 := by
  obtain ⟨-, -, -, -, h7, -⟩ := hD.2.2.2.2.1 i hi
  unfold step9
  split
  · refine ⟨fun h => va_up_ne _ _ h, fun _ => rfl, ?_⟩
    show va_up C.2.2.2.2.1 i 2 i ≠ 0
    rw [va_up_self]; decide
  · next C' hd =>
    obtain ⟨a1, a2, -⟩ := do9_keep hd
    refine ⟨fun h => ?_, fun h => a2 k (fun z => ?_), ?_⟩
    · show va_up C'.2.2.2.2.1 i 1 k = _
      rw [va_up_ne _ _ h, a1]
    · have := h7 z
      rcases h with h | h
      · exact Or.inl (by omega)
      · by_cases e : k = pv9 ρ i
        · rw [e] at h; exact Or.inr h
        · exact Or.inl e
    · show va_up C'.2.2.2.2.1 i 1 i ≠ 0
      rw [va_up_self]; decide
theorem run_keep {n np k : Nat} {ρ : RH} {eff : Nat → Bool} (hD : DAT n np ρ) : ∀ (rest : List Nat) (C : CS), (∀ j ∈ rest, j < n) → k ∉ rest → (run9 np ρ eff rest C).2.2.2.2.1 k = C.2.2.2.2.1 k ∧ (C.2.2.2.2.1 k ≠ 0 → (run9 np ρ eff rest C).2.2.2.2.2 k = C.2.2.2.2.2 k)
  | [], C, _, _ => ⟨rfl, fun _ => rfl⟩
  | r :: rest, C, hn, hk => by
    have hkr : k ≠ r := fun e => hk (by rw [e]; exact List.mem_cons_self)
    obtain ⟨s1, s2, -⟩ := step_keep (k := k) (C := C) (eff := eff) hD (hn r List.mem_cons_self)
    obtain ⟨r1, r2⟩ := run_keep (k := k) hD rest (step9 np ρ eff C r) (fun j hj => hn j (List.mem_cons_of_mem _ hj)) (fun z => hk (List.mem_cons_of_mem _ z))
    refine ⟨r1.trans (s1 hkr), fun h => ?_⟩
    rw [show run9 np ρ eff (r :: rest) C = run9 np ρ eff rest (step9 np ρ eff C r) from rfl, r2 (by rw [s1 hkr]; exact h), s2 (Or.inr h)]
theorem run9_app {np : Nat} {ρ : RH} {eff : Nat → Bool} : ∀ (a b : List Nat) (C : CS), run9 np ρ eff (a ++ b) C = run9 np ρ eff b (run9 np ρ eff a C)
  | [], _, _ => rfl
  | i :: a, b, C => run9_app a b (step9 np ρ eff C i)
/-- the provisions that are there were set up by an ENACT that was done -/
def TH9 (ρ : RH) (J : List Nat) (C : CS) : Prop := ∀ p, C.1 p = true → ∃ j, j ∈ J ∧ ρ 13 j = 0 ∧ pv9 ρ j = p ∧ C.2.2.2.2.1 j = 1
theorem TH_step {np i : Nat} {ρ : RH} {J : List Nat} {C : CS} {eff : Nat → Bool} (h : TH9 ρ J C) (hiJ : i ∉ J) : TH9 ρ (J ++ [i]) (step9 np ρ eff C i) := by
  intro p hp
  have old : C.1 p = true → ∀ x, ∃ j, j ∈ J ++ [i] ∧ ρ 13 j = 0 ∧ pv9 ρ j = p ∧ va_up C.2.2.2.2.1 i x j = 1 := fun ht x => by
    obtain ⟨j, a, b, c, d⟩ := h p ht
    have hne : j ≠ i := fun e => hiJ (e ▸ a)
    exact ⟨j, List.mem_append_left _ a, b, c, by rw [va_up_ne _ _ hne]; exact d⟩
  unfold step9 at hp ⊢
  split at hp
  · next e => exact old hp 2
  · next C' e =>
    obtain ⟨a1, -, a3, -⟩ := do9_keep e
    show ∃ j, j ∈ J ++ [i] ∧ ρ 13 j = 0 ∧ pv9 ρ j = p ∧ va_up C'.2.2.2.2.1 i 1 j = 1
    rw [a1]
    rcases a3 p hp with q | ⟨q1, q2⟩
    · exact old q 1
    · exact ⟨i, List.mem_append_right _ List.mem_cons_self, q1, q2.symm, va_up_self _ _ _⟩
theorem s_isOf {σ : SG} {ν : NU} {ρ : RH} {n np i p : Nat} {post : Int32 → Prop} (hC : CDT σ ν ρ n) (hi : i < n) (hD : DAT n np ρ) (hp : p < 2147483648) (k : post (bI (ρ 13 i ≠ 7 ∧ pv9 ρ i = p))) : wpX0_isOf σ ν i (nI p) post := by
  obtain ⟨-, -, -, c3, c4, -⟩ := hC.2 i hi
  obtain ⟨-, -, -, h15, h7, h8, -⟩ := hD.2.2.2.2.1 i hi
  have hn := hC.1
  have h40 := hD.1
  have h20 := hD.2.1
  have hb : pv9 ρ i < 2147483648 := by
    by_cases q : ρ 13 i = 7
    · have := h7 q; omega
    · have := h8 q; omega
  refine ⟨by omega, ?_⟩
  rw [c3, c4, h15]
  by_cases q : ρ 13 i = 7
  · rw [if_pos (by rw [q]; decide)]
    rw [bI_f (fun z => z.1 q)] at k
    exact k
  · rw [if_neg (fun z : (ρ 13 i).toInt = 7 => q ((ti_k (k := 7) (by decide)).mp z)), ti_n hb, ti_n hp]
    by_cases e : pv9 ρ i = p
    · rw [if_pos (by omega)]
      rw [bI_t ⟨q, e⟩] at k
      exact k
    · rw [if_neg (by omega)]
      rw [bI_f (fun z => e z.2)] at k
      exact k
theorem s_stateOf {σ : SG} {ν : NU} {v i : Nat} {post : Int32 → Prop} (hv : v < 2) (hi : i < 40) (k : post (σ 12 v i)) : wpX5_stateOf σ ν v (nI i) post := by
  have hc : (nI i).toNatClampNeg = i := cl_n (by omega)
  unfold wpX5_stateOf
  rw [ti_n (by omega), if_neg (by omega), hc]
  refine ⟨hv, ?_⟩
  rw [if_pos (by omega)]
  exact ⟨vi_n hi (by decide), k⟩
theorem lgC.b {v t : Nat} {σ σ' : SG} (g : lgC t σ σ') (h1 : 21 * v ≤ t) (h2 : t ≤ 21 * v + 20) : frB v σ σ' := (frV.of g h1 h2).b
/-- only the text found anew was written -/
theorem VB9.anew {σ σ' : SG} {ν : NU} {v n : Nat} {ρ : RH} {kn : Int32} {eff : Nat → Bool} {T : List Nat} {C : CS} (h : VB9 σ ν v n ρ kn eff T C) (g : lgC (21 * v) σ σ') : VB9 σ' ν v n ρ kn eff T C := by
  have r : ∀ a b, a ≠ 2 → a ≠ 20 → a ≠ 21 → σ' a b = σ a b := fun a b h1 h2 h3 => g a b (fun z => h1 z.1) (fun z => h2 z.1) (fun z => h3 z.1)
  obtain ⟨h1, h2, h3, h4⟩ := h
  refine ⟨⟨fun p hp => ?_, fun i hi => by rw [r 12 v (by decide) (by decide) (by decide)]; exact h1.2.1 i hi, fun i hi he hk => ⟨(h1.2.2 i hi he hk).1, (h1.2.2 i hi he hk).2.kept g⟩⟩, ?_, fun i hi => by rw [r 11 v (by decide) (by decide) (by decide)]; exact h3 i hi, ?_⟩
  · rw [r 14 v (by decide) (by decide) (by decide), r 15 v (by decide) (by decide) (by decide)]
    obtain ⟨a, b⟩ := h1.1 p hp
    exact ⟨a, fun ht => ⟨(b ht).1, (b ht).2.1, (b ht).2.2.kept g (by omega)⟩⟩
  · unfold LS9 at *
    rw [r 7 _ (by decide) (by decide) (by decide)]
    exact h2
  · unfold LD9 at *
    rw [r 1 _ (by decide) (by decide) (by decide), r 18 _ (by decide) (by decide) (by decide)]
    exact h4
theorem s_readAt {σ : SG} {ν : NU} {t k : Nat} {l : TXT} {post : Int32 → Prop} (ht : t < 42) (hx : CX σ t l) (hk : k < 2147483648) (kk : post (match l[k]? with | none => -1 | some x => x.1)) : wpX4_readAt σ ν t (nI k) post := by
  have hl := hx.1
  unfold wpX4_readAt
  rw [ti_n hk, if_neg (by omega)]
  refine ⟨ht, ?_⟩
  rw [hx.2.1, ti_n (by omega)]
  by_cases c : k < l.length
  · rw [if_pos (by omega), if_pos (by omega), cl_n (by omega), (hx.2.2 k c).1]
    rw [List.getElem?_eq_getElem c] at kk
    exact ⟨vi_n (by omega) (by decide), kk⟩
  · rw [if_neg (by omega)]
    rw [List.getElem?_eq_none (by omega)] at kk
    exact kk
theorem s_sourceAt {σ : SG} {ν : NU} {t k : Nat} {l : TXT} {post : Int32 → Prop} (ht : t < 42) (hx : CX σ t l) (hk : k < 2147483648) (kk : post (match l[k]? with | none => -1 | some x => x.2)) : wpX4_sourceAt σ ν t (nI k) post := by
  have hl := hx.1
  unfold wpX4_sourceAt
  rw [ti_n hk, if_neg (by omega)]
  refine ⟨ht, ?_⟩
  rw [hx.2.1, ti_n (by omega)]
  by_cases c : k < l.length
  · rw [if_pos (by omega), if_pos (by omega), cl_n (by omega), (hx.2.2 k c).2]
    rw [List.getElem?_eq_getElem c] at kk
    exact ⟨vi_n (by omega) (by decide), kk⟩
  · rw [if_neg (by omega)]
    rw [List.getElem?_eq_none (by omega)] at kk
    exact kk
set_option maxHeartbeats 2000000 in
theorem s_findAnew {σ : SG} {ν : NU} {v n np p k : Nat} {ρ : RH} {kn : Int32} {eff : Nat → Bool} {T : List Nat} {post : Int32 → SG → Prop} (hv : v < 2) (hD : DAT n np ρ) (hC : CDT σ ν ρ n) (hTn : ∀ j ∈ T, j < n ∧ eff j = true) (hTd : T.Nodup) (hV : VB9 σ ν v n ρ kn eff T (run9 np ρ eff T (c09 (aw9 ρ)))) (hG : GD n np ρ T (run9 np ρ eff T (c09 (aw9 ρ)))) (hp : p < 20) (hk : k < 2147483648)
    (k0 : (run9 np ρ eff T (c09 (aw9 ρ))).1 p = false → post (-1) σ)
    (k1 : (run9 np ρ eff T (c09 (aw9 ρ))).1 p = true → ∀ σ', lgC (21 * v) σ σ' → post (match ((run9 np ρ eff T (c09 (aw9 ρ))).2.2.2.1 p)[k]? with | none => -1 | some x => x.1) σ') : wpX5_findAnew σ ν v (nI p) (nI k) post := by
  refine ⟨hv, s_isThere hv hV.1 hG hp ?_⟩
  generalize hF : run9 np ρ eff T (c09 (aw9 ρ)) = F at *
  have h40 := hD.1
  cases ht : F.1 p with
  | false =>
    rw [show bI (false = true) = 0 from bI_f (by decide), if_pos z0I]
    exact k0 ht
  | true =>
    rw [show bI (true = true) = 1 from bI_t rfl, if_neg z1I]
    refine ⟨T.length + 1, ?_⟩
    have main : ∀ (rest pre : List Nat) (C : CS) (σ1 : SG), T = pre ++ rest → C = run9 np ρ eff pre (c09 (aw9 ρ)) → TH9 ρ pre C → lgC (21 * v) σ σ1 → ((∃ j, j ∈ pre ∧ ρ 13 j = 0 ∧ pv9 ρ j = p ∧ F.2.2.2.2.1 j = 1) → CX σ1 (21 * v) (C.2.2.2.1 p)) → wX5_findAnew_12 v (nI p) (nI k) post (rest.length + 1) σ1 ν (nI pre.length) := by
      intro rest
      induction rest with
      | nil =>
        intro pre C σ1 hT hCe hth g1 hx
        have hV1 := hV.anew g1
        have hlen : pre.length = T.length := by rw [hT, List.append_nil]
        unfold wX5_findAnew_12
        refine ⟨hv, s_sizeT hv hV1.2.1 ?_⟩
        rw [hlen, if_neg (by omega)]
        have hCF : C = F := by rw [hCe, ← hF, hT, List.append_nil]
        rw [hCF] at hx hth
        obtain ⟨j, a, b, c, d⟩ := hth p ht
        exact s_readAt (by omega) (hx ⟨j, a, b, c, d⟩) hk (k1 ht σ1 g1)
      | cons r rest ih =>
        intro pre C σ1 hT hCe hth g1 hx
        have hV1 := hV.anew g1
        have hC1 : CDT σ1 ν ρ n := hC.same (frV.of (v := v) g1 (Nat.le_refl _) (by omega)).d rfl rfl
        have hn1 := hC1.1
        have hrT : r ∈ T := by rw [hT]; exact List.mem_append_right _ List.mem_cons_self
        have hr := hTn r hrT
        have hlen : pre.length < T.length := by rw [hT, List.length_append, List.length_cons]; omega
        have h40T := hV1.2.1.2.1.2.2.2.1
        have hget : T[pre.length] = r := by
          have : T[pre.length]? = some r := by rw [hT, List.getElem?_append_right (Nat.le_refl _), Nat.sub_self]; rfl
          rw [List.getElem?_eq_getElem hlen] at this
          exact Option.some.inj this
        have hrp : r ∉ pre := fun q => (List.nodup_append.mp (hT ▸ hTd)).2.2 r q r List.mem_cons_self rfl
        have hrr : r ∉ rest := (List.nodup_cons.mp (List.nodup_append.mp (hT ▸ hTd)).2.1).1
        have hrn : ∀ j ∈ rest, j < n := fun j hj => (hTn j (by rw [hT]; exact List.mem_append_right _ (List.mem_cons_of_mem _ hj))).1
        have hFr : F = run9 np ρ eff rest (step9 np ρ eff C r) := by rw [← hF, hT, run9_app, hCe]; rfl
        obtain ⟨w1, w2⟩ := run_keep (k := r) (eff := eff) hD rest (step9 np ρ eff C r) hrn hrr
        rw [← hFr] at w1 w2
        obtain ⟨-, sk2, sk3⟩ := step_keep (k := r) (C := C) (eff := eff) hD hr.1
        have hNW : F.2.2.2.2.2 r = C.2.2.2.2.2 r := (w2 sk3).trans (sk2 (Or.inl rfl))
        have hth' := TH_step (np := np) (eff := eff) hth hrp
        -- the next one, its text as it is then
        have next : ∀ σ2 : SG, lgC (21 * v) σ1 σ2 → ((∃ j, j ∈ pre ++ [r] ∧ ρ 13 j = 0 ∧ pv9 ρ j = p ∧ F.2.2.2.2.1 j = 1) → CX σ2 (21 * v) ((step9 np ρ eff C r).2.2.2.1 p)) → wX5_findAnew_12 v (nI p) (nI k) post (rest.length + 1) σ2 ν (nI (pre.length + 1)) := fun σ2 g2 hx2 => by
          have := ih (pre ++ [r]) (step9 np ρ eff C r) σ2 (by rw [hT, List.append_assoc]; rfl) (by rw [run9_snoc, hCe]) hth' (g1.tr g2) hx2
          rw [List.length_append] at this
          exact this
        -- it does not touch the text
        have same : (step9 np ρ eff C r).2.2.2.1 p = C.2.2.2.1 p → (ρ 13 r = 0 → pv9 ρ r = p → F.2.2.2.2.1 r = 1 → False) → wX5_findAnew_12 v (nI p) (nI k) post (rest.length + 1) σ1 ν (nI (pre.length + 1)) := fun h1 h2 => next σ1 lgC.rf (fun ⟨j, a, b, c, d⟩ => by
          rw [h1]
          rcases List.mem_append.mp a with q | q
          · exact hx ⟨j, q, b, c, d⟩
          · have : j = r := by simpa using q
            subst this
            exact (h2 b c d).elim)
        unfold wX5_findAnew_12
        refine ⟨hv, s_sizeT hv hV1.2.1 ?_⟩
        rw [ti_n (by omega), ti_n (by omega), if_pos (by omega)]
        refine s_getT hv hV1.2.1 hlen ?_
        rw [hget, nI_1]
        refine ⟨by omega, s_isOf hC1 hr.1 hD (by omega) ?_⟩
        by_cases hof : ¬ (ρ 13 r ≠ 7 ∧ pv9 ρ r = p)
        · rw [bI_f hof, if_pos z0I]
          refine same ?_ (fun a b _ => hof ⟨by rw [a]; decide, b⟩)
          unfold step9
          split
          · rfl
          · next C' e =>
            obtain ⟨-, -, -, d4, -, -, -, -, -, d10⟩ := do9_keep e
            show C'.2.2.2.1 p = _
            by_cases q : pv9 ρ r = p
            · have k7 : ρ 13 r = 7 := Decidable.byContradiction (fun z => hof ⟨z, q⟩)
              rw [q] at d10
              exact d10 (by rw [k7]; decide) (by rw [k7]; decide) (by rw [k7]; decide) (by rw [k7]; decide)
            · exact d4 p (Ne.symm q)
        have hof : ρ 13 r ≠ 7 ∧ pv9 ρ r = p := Decidable.byContradiction hof
        rw [bI_t hof, if_neg z1I, (hC1.2 r hr.1).1]
        refine s_stateOf hv (by omega) ?_
        rw [hV1.1.2.1 r hr.1]
        obtain ⟨k7, hpe⟩ := hof
        cases hdo : do9 np ρ C eff r (pv9 ρ r) (sw9 ρ r) (aw9 ρ r) with
        | none =>
          have hst : F.2.2.2.2.1 r = 2 := by
            rw [w1]
            unfold step9
            rw [hdo]
            exact va_up_self _ _ _
          rw [hst, if_neg (by decide)]
          refine same ?_ (fun _ _ c => by rw [hst] at c; exact absurd c (by decide))
          unfold step9
          rw [hdo]
          rfl
        | some C' =>
          have hst : F.2.2.2.2.1 r = 1 := by
            rw [w1]
            unfold step9
            rw [hdo]
            exact va_up_self _ _ _
          have hse : (step9 np ρ eff C r).2.2.2.1 p = C'.2.2.2.1 p := by
            unfold step9
            rw [hdo]
            rfl
          obtain ⟨d1, d2, d3, d4, d5, d6, d7, d8, d9, d10⟩ := do9_keep hdo
          rw [hpe] at d5 d6 d7 d8 d9 d10
          rw [hst, if_pos (by decide)]
          have hkr : 0 ≤ (ρ 13 r).toInt := by
            obtain ⟨-, -, ⟨K, hK, hk2⟩, -⟩ := hD.2.2.2.2.1 r hr.1
            rw [hk2, ti_n (by omega)]; omega
          -- it was there before
          have there : ρ 13 r ≠ 0 → CX σ1 (21 * v) (C.2.2.2.1 p) := fun q => by
            obtain ⟨j, a, b, c, d⟩ := hth p (d6 q k7)
            refine hx ⟨j, a, b, c, ?_⟩
            have hjr : j ∉ r :: rest := fun z => (List.nodup_append.mp (hT ▸ hTd)).2.2 j a j z rfl
            have := (run_keep (k := j) (eff := eff) hD (r :: rest) C (fun i hi => (hTn i (by rw [hT]; exact List.mem_append_right _ hi)).1) hjr).1
            rw [show run9 np ρ eff (r :: rest) C = F by rw [hFr]; rfl] at this
            rw [this]; exact d
          have hDI := hD.di hr.1
          have nx : ∀ σ2 : SG, lgC (21 * v) σ1 σ2 → CX σ2 (21 * v) (C'.2.2.2.1 p) → wX5_findAnew_12 v (nI p) (nI k) post (rest.length + 1) σ2 ν (nI (pre.length + 1)) := fun σ2 g2 hx2 => next σ2 g2 (fun _ => by rw [hse]; exact hx2)
          refine s_reword (l := C.2.2.2.1 p) (f := C.2.2.2.2.2 r) hv hC1 hr.1 h40 (by omega) (by
            by_cases q : ρ 13 r = 0
            · exact Or.inl q
            · exact Or.inr (there q)) hDI.2.2.2.2.2.2 (fun q => by rw [← hNW]; exact hV1.1.2.2 r hr.1 hr.2 q) hkr (fun q σ2 x1 x2 => nx σ2 x2 (by rw [d5 q]; exact x1)) (fun q e => by rw [d7 q] at e; cases e) (fun q t e σ2 x1 x2 => nx σ2 x2 (by rw [d7 q] at e; cases e; exact x1)) (fun q e => by rw [d8 q] at e; cases e) (fun q t e σ2 x1 x2 => nx σ2 x2 (by rw [d8 q] at e; cases e; exact x1)) (fun q e => by rw [d9 q] at e; cases e) (fun q t e σ2 x1 x2 => nx σ2 x2 (by rw [d9 q] at e; cases e; exact x1)) (fun q0 q1 q2 q3 => nx σ1 lgC.rf (by rw [d10 q0 q1 q2 q3]; exact there q0))
    exact main T [] (c09 (aw9 ρ)) σ rfl rfl (fun p hp => by cases (show false = true from hp)) lgC.rf (fun ⟨j, a, _⟩ => absurd a List.not_mem_nil)
