/-! Chains of provisions: not longer than there are provisions. -/
/-- how many of the first n have it -/
def cn9 (f : Nat → Bool) : Nat → Nat
  | 0 => 0
  | n + 1 => cn9 f n + (if f n = true then 1 else 0)
theorem cn9_le {f : Nat → Bool} : ∀ n, cn9 f n ≤ n
  | 0 => Nat.le_refl 0
  | n + 1 => by
    have := cn9_le (f := f) n
    show cn9 f n + _ ≤ n + 1
    split <;> omega
theorem cn9_lt {f : Nat → Bool} {p : Nat} (hp : f p = false) : ∀ n, p < n → cn9 f n < n
  | 0, h => absurd h (Nat.not_lt_zero p)
  | n + 1, h => by
    show cn9 f n + _ < n + 1
    have := cn9_le (f := f) n
    by_cases e : p = n
    · subst e
      rw [if_neg (by rw [hp]; decide)]
      omega
    · have := cn9_lt hp n (by omega)
      split <;> omega
theorem nodup_cn9 {f : Nat → Bool} : ∀ (n : Nat) (l : List Nat), l.Nodup → (∀ x ∈ l, x < n ∧ f x = true) → l.length ≤ cn9 f n := by
  intro n
  induction n with
  | zero =>
    intro l _ h
    cases l with
    | nil => exact Nat.le_refl 0
    | cons a l => exact absurd (h a List.mem_cons_self).1 (Nat.not_lt_zero a)
  | succ n ih =>
    intro l hd h
    show l.length ≤ cn9 f n + _
    by_cases m : n ∈ l
    · have h1 := ih (l.erase n) (hd.erase n) (fun x hx => by
        have hx2 := (hd.mem_erase_iff).mp hx
        have := h x hx2.2
        exact ⟨by have := hx2.1; omega, this.2⟩)
      rw [List.length_erase_of_mem m] at h1
      rw [if_pos (h n m).2]
      omega
    · have h1 := ih l hd (fun x hx => ⟨by
        have h2 := (h x hx).1
        have h3 : x ≠ n := fun e => m (e ▸ hx)
        omega, (h x hx).2⟩)
      omega
theorem chT_up {C : CS} : ∀ (f : Nat) (a : Int32), chT C f a → chT C (f + 1) a := by
  intro f
  induction f with
  | zero => intro a h; exact Or.inl h
  | succ f ih =>
    intro a h
    rcases h with h | ⟨p, h1, h2, h3, h4⟩
    · exact Or.inl h
    · exact Or.inr ⟨p, h1, h2, h3, ih _ h4⟩
theorem chT_le {C : CS} {f g : Nat} {a : Int32} (h : chT C f a) (hg : f ≤ g) : chT C g a := by
  induction g with
  | zero => have : f = 0 := by omega
            subst this; exact h
  | succ g ih =>
    by_cases e : f = g + 1
    · subst e; exact h
    · exact chT_up g a (ih (by omega))
/-- the nodes of a shortest chain are apart -/
theorem chT_list {C : CS} : ∀ (f : Nat) (a : Int32), chT C f a → (∀ g, g < f → ¬ chT C g a) → ∃ l : List Nat, l.length = f ∧ l.Nodup ∧ ∀ x ∈ l, x < 20 ∧ C.1 x = true ∧ chT C f (nI x) := by
  intro f
  induction f with
  | zero => intro a _ _; exact ⟨[], rfl, List.nodup_nil, fun x hx => absurd hx (by simp)⟩
  | succ f ih =>
    intro a h hm
    rcases h with h | ⟨p, h1, h2, h3, h4⟩
    · exact absurd (show chT C 0 a from h) (hm 0 (by omega))
    · have hm2 : ∀ g, g < f → ¬ chT C g (C.2.2.1 p) := fun g hg q => hm (g + 1) (by omega) (Or.inr ⟨p, h1, h2, h3, q⟩)
      obtain ⟨l, l1, l2, l3⟩ := ih _ h4 hm2
      refine ⟨p :: l, by rw [List.length_cons, l1], List.nodup_cons.mpr ⟨fun q => ?_, l2⟩, fun x hx => ?_⟩
      · have := (l3 p q).2.2
        rw [← h2] at this
        exact hm f (by omega) this
      · rcases List.mem_cons.mp hx with rfl | hx
        · exact ⟨h1, h3, Or.inr ⟨x, h1, rfl, h3, h4⟩⟩
        · obtain ⟨b1, b2, b3⟩ := l3 x hx
          exact ⟨b1, b2, chT_up f _ b3⟩
theorem chT_cn {C : CS} {a : Int32} : ∀ f, chT C f a → chT C (cn9 C.1 20) a := by
  intro f
  induction f using Nat.strongRecOn with
  | _ f ih =>
    intro h
    by_cases m : ∃ g, g < f ∧ chT C g a
    · obtain ⟨g, hg, hc⟩ := m
      exact ih g hg hc
    · obtain ⟨l, l1, l2, l3⟩ := chT_list f a h (fun g hg q => m ⟨g, hg, q⟩)
      have := nodup_cn9 (f := C.1) 20 l l2 (fun x hx => ⟨(l3 x hx).1, (l3 x hx).2.1⟩)
      exact chT_le h (by omega)
theorem chT_20 {C : CS} {f : Nat} {a : Int32} (h : chT C f a) : chT C 20 a := chT_le (chT_cn f h) (cn9_le 20)
