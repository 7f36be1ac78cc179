/-! REPEAL keeps the others hanging together; each instruction does. -/
theorem win_up {C : CS} {q : Int32} (hq : q ≠ -1) : ∀ (f : Nat) (a : Int32), chT C f a → win9 C.2.2.1 (f + 1) a q = win9 C.2.2.1 f a q := by
  intro f
  induction f with
  | zero =>
    intro a h
    have h : a = -1 := h
    subst h
    simp [win9]
  | succ f ih =>
    intro a h
    rcases h with rfl | ⟨p, h1, rfl, h3, h4⟩
    · simp [win9]
    · have hc : (nI p).toNatClampNeg = p := cl_n (by omega)
      have e : win9 C.2.2.1 (f + 1) (C.2.2.1 p) q = win9 C.2.2.1 f (C.2.2.1 p) q := ih _ h4
      show (decide (nI p = q) || (!decide (nI p = -1) && win9 C.2.2.1 (f + 1) (C.2.2.1 (nI p).toNatClampNeg) q)) = (decide (nI p = q) || (!decide (nI p = -1) && win9 C.2.2.1 f (C.2.2.1 (nI p).toNatClampNeg) q))
      rw [hc, e]
theorem win_le {C : CS} {q : Int32} (hq : q ≠ -1) {f g : Nat} {a : Int32} (h : chT C f a) (hg : f ≤ g) : win9 C.2.2.1 g a q = win9 C.2.2.1 f a q := by
  induction g with
  | zero =>
    have : f = 0 := by omega
    subst this
    rfl
  | succ g ih =>
    by_cases e : f = g + 1
    · subst e; rfl
    · rw [win_up hq g a (chT_le h (by omega)), ih (by omega)]
theorem chT_rm {C : CS} {p : Nat} (hp : p < 20) : ∀ (f : Nat) (a : Int32), f ≤ 20 → chT C f a → win9 C.2.2.1 f a (nI p) = false → chT (cRm C p) f a := by
  intro f
  induction f with
  | zero => intro a _ h _; exact h
  | succ f ih =>
    intro a hf h hw
    have h0 : chT C (f + 1) a := h
    rcases h with h | ⟨r, h1, h2, h3, h4⟩
    · exact Or.inl h
    · subst h2
      have hc : (nI r).toNatClampNeg = r := cl_n (by omega)
      have hm : nI r ≠ -1 := nI_m1 (by omega)
      have hpm : nI p ≠ -1 := nI_m1 (by omega)
      have h20 : win9 C.2.2.1 20 (nI r) (nI p) = false := by rw [win_le hpm h0 hf]; exact hw
      have hne : ¬ nI r = nI p := fun e => by simp [win9, e] at hw
      have hw2 : win9 C.2.2.1 f (C.2.2.1 r) (nI p) = false := by simpa [win9, hne, hm, hc] using hw
      refine Or.inr ⟨r, h1, rfl, ?_, ih _ (by omega) h4 hw2⟩
      show (C.1 r && !win9 C.2.2.1 20 (nI r) (nI p)) = true
      rw [h3, h20]
      rfl
theorem INV_rm {C : CS} {np p : Nat} (hI : INV np C) (hp : p < 20) : INV np (cRm C p) := by
  have hx : ∀ q, (cRm C p).1 q = true → C.1 q = true ∧ win9 C.2.2.1 20 (nI q) (nI p) = false := fun q h => by
    have h : (C.1 q && !win9 C.2.2.1 20 (nI q) (nI p)) = true := h
    cases e : C.1 q <;> cases e2 : win9 C.2.2.1 20 (nI q) (nI p) <;> simp [e, e2] at h ⊢
  exact ⟨fun q hq ht => hI.1 q hq (hx q ht).1, fun q hq ht => chT_rm hp 20 _ (Nat.le_refl _) (hI.2 q hq (hx q ht).1) (hx q ht).2⟩
/-- one instruction done keeps them hanging together; an ENACT's provision isn't there before -/
theorem INV_do {n np i p : Nat} {ρ : RH} {C C' : CS} {eff : Nat → Bool} {s f : List Int32} (hI : INV np C) (hD : DI n ρ i p s f) (hen : ρ 13 i = 0 → p < np ∧ C.1 p = false) (h : do9 np ρ C eff i p s f = some C') : INV np C' := by
  obtain ⟨hs, hf, h15, h7, hp7, h16, hs2⟩ := hD
  unfold do9 at h
  by_cases k0 : ρ 13 i = 0
  · rw [if_pos k0] at h
    split at h
    · next hc =>
      cases h
      have hpl : pl9 C (ρ 16 i) = true := by
        cases e : pl9 C (ρ 16 i) with
        | true => rfl
        | false => rw [e] at hc; cases hc
      exact INV_en hI (hp7 (by rw [k0]; decide)) (hen k0).1 (hen k0).2 (h16 (Or.inl k0)) hpl
    · cases h
  rw [if_neg k0] at h
  by_cases k7 : ρ 13 i = 7
  · rw [if_pos k7] at h
    split at h
    · split at h
      · cases h; exact INV_same hI rfl rfl
      · cases h; exact hI
    · cases h
  rw [if_neg k7] at h
  have hp : p < 20 := hp7 k7
  have tx : ∀ o : Option TXT, o.map (cTx C p) = some C' → INV np C' := fun o q => by
    cases o with
    | none => cases q
    | some t => cases q; exact INV_same hI rfl rfl
  cases ht : C.1 p with
  | false => rw [if_pos ht] at h; cases h
  | true =>
    rw [if_neg (by rw [ht]; decide)] at h
    split at h
    · exact tx _ h
    split at h
    · exact tx _ h
    split at h
    · exact tx _ h
    split at h
    · split at h
      · cases h; exact INV_same hI rfl rfl
      · cases h
    split at h
    · next k5 =>
      split at h
      · next hc =>
        cases h
        have hpl : pl9 C (ρ 16 i) = true := by
          cases e : pl9 C (ρ 16 i) with
          | true => rfl
          | false => rw [e] at hc; cases hc
        have hw : win9 C.2.2.1 20 (ρ 16 i) (nI p) = false := by
          cases e : win9 C.2.2.1 20 (ρ 16 i) (nI p) with
          | false => rfl
          | true => rw [hpl, e] at hc; cases hc
        exact INV_pa hI hp ht (h16 (Or.inr k5)) hpl hw
      · cases h
    · cases h; exact INV_rm hI hp
