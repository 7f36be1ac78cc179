/-! Words come of instructions that were done; an instruction is idle, done, or failed; what is not in effect is idle. -/
def SRC (n : Nat) (C : CS) : Prop := ∀ p, p < 20 → C.1 p = true → ∀ x ∈ C.2.2.2.1 p, ∃ j, j < n ∧ x.2 = nI j ∧ C.2.2.2.2.1 j = 1
theorem do9_txt {np i p : Nat} {γ : RH} {C C' : CS} {eff : Nat → Bool} {s f : List Int32} (h : do9 np γ C eff i p s f = some C') : ∀ q, C'.1 q = true → ∀ x ∈ C'.2.2.2.1 q, (C.1 q = true ∧ x ∈ C.2.2.2.1 q) ∨ x.2 = nI i := by
  intro q hq x hx
  obtain ⟨-, -, a3, a4, a5, a6, a7, a8, a9, a10⟩ := do9_keep h
  by_cases e : q = p
  · subst e
    by_cases k0 : γ 13 i = 0
    · rw [a5 k0] at hx
      exact Or.inr (tag9_mem hx).2
    have ht : C.1 q = true := (a3 q hq).resolve_right (fun z => k0 z.1)
    by_cases k1 : γ 13 i = 1
    · rcases ins9_mem (a7 k1) x hx with w | w
      · exact Or.inl ⟨ht, w⟩
      · exact Or.inr (tag9_mem w).2
    by_cases k2 : γ 13 i = 2
    · rcases sbs9_mem (a8 k2) x hx with w | w
      · exact Or.inl ⟨ht, w⟩
      · exact Or.inr (tag9_mem w).2
    by_cases k3 : γ 13 i = 3
    · exact Or.inl ⟨ht, om9_mem (a9 k3) x hx⟩
    · rw [a10 k0 k1 k2 k3] at hx
      exact Or.inl ⟨ht, hx⟩
  · rw [a4 q e] at hx
    exact Or.inl ⟨(a3 q hq).resolve_right (fun z => e z.2), hx⟩
theorem SRC_step {n np i : Nat} {γ : RH} {C : CS} {eff : Nat → Bool} (h : SRC n C) (hi : i < n) (h0 : C.2.2.2.2.1 i = 0) : SRC n (step9 np γ eff C i) := by
  have ne : ∀ j, C.2.2.2.2.1 j = 1 → j ≠ i := fun j hj e => by
    rw [e, h0] at hj
    exact absurd hj (by decide)
  intro p hp ht x hx
  unfold step9 at ht hx ⊢
  split at ht
  · next e =>
    rw [e] at hx
    obtain ⟨j, a, b, c⟩ := h p hp ht x hx
    exact ⟨j, a, b, by
      show va_up C.2.2.2.2.1 i 2 j = 1
      rw [va_up_ne _ _ (ne j c)]; exact c⟩
  · next C' e =>
    rw [e] at hx
    have hs := (do9_keep e).1
    rcases do9_txt e p ht x hx with ⟨w1, w2⟩ | w
    · obtain ⟨j, a, b, c⟩ := h p hp w1 x w2
      exact ⟨j, a, b, by
        show va_up C'.2.2.2.2.1 i 1 j = 1
        rw [va_up_ne _ _ (ne j c), hs]; exact c⟩
    · exact ⟨i, hi, w, va_up_self _ _ _⟩
theorem st_step {n np i : Nat} {γ : RH} {C : CS} {eff : Nat → Bool} (hD : DAT n np γ) (hi : i < n) (h : ∀ k, C.2.2.2.2.1 k = 0 ∨ C.2.2.2.2.1 k = 1 ∨ C.2.2.2.2.1 k = 2) : ∀ k, (step9 np γ eff C i).2.2.2.2.1 k = 0 ∨ (step9 np γ eff C i).2.2.2.2.1 k = 1 ∨ (step9 np γ eff C i).2.2.2.2.1 k = 2 := by
  intro k
  by_cases e : k = i
  · subst e
    unfold step9
    split
    · exact Or.inr (Or.inr (va_up_self _ _ _))
    · exact Or.inr (Or.inl (va_up_self _ _ _))
  · rw [(step_keep (k := k) hD hi).1 e]
    exact h k
theorem SRC_run {n np : Nat} {γ : RH} {eff : Nat → Bool} (hD : DAT n np γ) : ∀ (rest : List Nat) (C : CS), (∀ j ∈ rest, j < n) → rest.Nodup → (∀ j ∈ rest, C.2.2.2.2.1 j = 0) → SRC n C → (∀ k, C.2.2.2.2.1 k = 0 ∨ C.2.2.2.2.1 k = 1 ∨ C.2.2.2.2.1 k = 2) → SRC n (run9 np γ eff rest C) ∧ ∀ k, (run9 np γ eff rest C).2.2.2.2.1 k = 0 ∨ (run9 np γ eff rest C).2.2.2.2.1 k = 1 ∨ (run9 np γ eff rest C).2.2.2.2.1 k = 2
  | [], _, _, _, _, h, h2 => ⟨h, h2⟩
  | i :: rest, C, hn, hd, h0, h, h2 => by
    obtain ⟨d1, d2⟩ := List.nodup_cons.mp hd
    have hi := hn i List.mem_cons_self
    refine SRC_run hD rest (step9 np γ eff C i) (fun j hj => hn j (List.mem_cons_of_mem _ hj)) d2 (fun j hj => ?_) (SRC_step h hi (h0 i List.mem_cons_self)) (st_step hD hi h2)
    have hne : j ≠ i := fun e => d1 (e ▸ hj)
    rw [(step_keep (k := j) hD hi).1 hne]
    exact h0 j (List.mem_cons_of_mem _ hj)
theorem SRC_vw {n np : Nat} {γ : RH} {d kn te : Int32} (hD : DAT n np γ) : SRC n (vw9 n np γ d kn te) ∧ ∀ k, (vw9 n np γ d kn te).2.2.2.2.1 k = 0 ∨ (vw9 n np γ d kn te).2.2.2.2.1 k = 1 ∨ (vw9 n np γ d kn te).2.2.2.2.1 k = 2 := by
  refine SRC_run hD _ _ (fun j hj => (tn9_mem.mp hj).1) tn9_nodup (fun _ _ => rfl) (fun p hp ht => ?_) (fun k => Or.inl rfl)
  exact Bool.noConfusion (show false = true from ht)
theorem st_idle {n np k : Nat} {γ : RH} {d kn te : Int32} (hD : DAT n np γ) (h : (vw9 n np γ d kn te).2.2.2.2.1 k ≠ 0) : k < n ∧ ef9 γ d kn te k = true := by
  by_cases q : k ∈ or9 γ n d kn te
  · exact tn9_mem.mp q
  · have := (run_keep (k := k) (eff := ef9 γ d kn te) hD (or9 γ n d kn te) (c09 (aw9 γ)) (fun j hj => (tn9_mem.mp hj).1) q).1
    exact absurd this h
