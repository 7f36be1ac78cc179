/-! One instruction done keeps the provisions hanging together. -/
theorem chT_of {C C' : CS} (h : ∀ p, p < 20 → C.1 p = true → C'.1 p = true ∧ C'.2.2.1 p = C.2.2.1 p) : ∀ (f : Nat) (a : Int32), chT C f a → chT C' f a := by
  intro f
  induction f with
  | zero => intro a q; exact q
  | succ f ih =>
    intro a q
    rcases q with q | ⟨p, h1, h2, h3, h4⟩
    · exact Or.inl q
    · obtain ⟨g1, g2⟩ := h p h1 h3
      exact Or.inr ⟨p, h1, h2, g1, by rw [g2]; exact ih _ h4⟩
theorem pl9_ch {C : CS} {np : Nat} {par : Int32} (hI : INV np C) (hpar : par = -1 ∨ ∃ q, q < 20 ∧ par = nI q) (h : pl9 C par = true) : chT C 20 par := by
  rcases hpar with rfl | ⟨q, hq, rfl⟩
  · exact Or.inl rfl
  · have hc : (nI q).toNatClampNeg = q := cl_n (by omega)
    have hm : nI q ≠ -1 := nI_m1 (by omega)
    exact hI.2 q hq (by simpa [pl9, hc, hm] using h)
theorem INV_en {C : CS} {np p : Nat} {par lab : Int32} {t : TXT} (hI : INV np C) (hp : p < 20) (hnp : p < np) (hno : C.1 p = false) (hpar : par = -1 ∨ ∃ q, q < 20 ∧ par = nI q) (h : pl9 C par = true) : INV np (cEn C p par lab t) := by
  have hk : ∀ q, q < 20 → C.1 q = true → (cEn C p par lab t).1 q = true ∧ (cEn C p par lab t).2.2.1 q = C.2.2.1 q := fun q _ ht => by
    have hne : q ≠ p := fun e => by rw [e, hno] at ht; cases ht
    exact ⟨(va_up_ne _ _ hne).trans ht, va_up_ne _ _ hne⟩
  refine ⟨fun q hq ht => ?_, fun q hq ht => ?_⟩
  · by_cases e : q = p
    · rw [e]; exact hnp
    · exact hI.1 q hq (by rw [← va_up_ne C.1 true e]; exact ht)
  · by_cases e : q = p
    · subst e
      have h1 := chT_of hk 20 par (pl9_ch hI hpar h)
      exact chT_20 (f := 21) (Or.inr ⟨q, hq, rfl, va_up_self _ _ _, by show chT _ 20 (va_up C.2.2.1 q par q); rw [va_up_self]; exact h1⟩)
    · exact chT_of hk 20 _ (hI.2 q hq (by rw [← va_up_ne C.1 true e]; exact ht))
theorem INV_same {C C' : CS} {np : Nat} (hI : INV np C) (h1 : C'.1 = C.1) (h2 : C'.2.2.1 = C.2.2.1) : INV np C' :=
  ⟨fun q hq ht => hI.1 q hq (by rw [← h1]; exact ht), fun q hq ht => chT_of (fun p _ hx => ⟨by rw [h1]; exact hx, by rw [h2]⟩) 20 _ (hI.2 q hq (by rw [← h1]; exact ht))⟩
/-- a chain that does not meet p does not see p's new parent -/
theorem chT_off {C : CS} {p : Nat} {par : Int32} : ∀ (f : Nat) (a : Int32), chT C f a → win9 C.2.2.1 f a (nI p) = false → chT (cPa C p par) f a := by
  intro f
  induction f with
  | zero => intro a q _; exact q
  | succ f ih =>
    intro a q hw
    rcases q with q | ⟨r, h1, h2, h3, h4⟩
    · exact Or.inl q
    · subst h2
      have hc : (nI r).toNatClampNeg = r := cl_n (by omega)
      have hm : nI r ≠ -1 := nI_m1 (by omega)
      by_cases e : nI r = nI p
      · simp [win9, e] at hw
      · have hw2 : win9 C.2.2.1 f (C.2.2.1 r) (nI p) = false := by simpa [win9, e, hm, hc] using hw
        have hne : r ≠ p := fun z => e (by rw [z])
        refine Or.inr ⟨r, h1, rfl, h3, ?_⟩
        show chT _ f (va_up C.2.2.1 p par r)
        rw [va_up_ne _ _ hne]
        exact ih _ h4 hw2
/-- what stands below p hangs on p's new chain -/
theorem chT_on {C : CS} {p : Nat} {par : Int32} (hp : p < 20) (ht : C.1 p = true) (hpar : chT (cPa C p par) 20 par) : ∀ (f : Nat) (a : Int32), chT C f a → ∃ g, chT (cPa C p par) g a := by
  intro f
  induction f with
  | zero => intro a q; exact ⟨0, q⟩
  | succ f ih =>
    intro a q
    rcases q with q | ⟨r, h1, h2, h3, h4⟩
    · exact ⟨0, q⟩
    · by_cases e : r = p
      · subst e
        refine ⟨21, Or.inr ⟨r, h1, h2, h3, ?_⟩⟩
        show chT _ 20 (va_up C.2.2.1 r par r)
        rw [va_up_self]
        exact hpar
      · obtain ⟨g, hg⟩ := ih _ h4
        refine ⟨g + 1, Or.inr ⟨r, h1, h2, h3, ?_⟩⟩
        show chT _ g (va_up C.2.2.1 p par r)
        rw [va_up_ne _ _ e]
        exact hg
theorem INV_pa {C : CS} {np p : Nat} {par : Int32} (hI : INV np C) (hp : p < 20) (ht : C.1 p = true) (hpar : par = -1 ∨ ∃ q, q < 20 ∧ par = nI q) (h : pl9 C par = true) (hw : win9 C.2.2.1 20 par (nI p) = false) : INV np (cPa C p par) := by
  have h1 := chT_off (par := par) 20 par (pl9_ch hI hpar h) hw
  refine ⟨hI.1, fun q hq hx => ?_⟩
  obtain ⟨g, hg⟩ := chT_on hp ht h1 20 _ (hI.2 q hq hx)
  exact chT_20 hg
