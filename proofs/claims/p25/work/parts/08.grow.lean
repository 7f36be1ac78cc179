/-! worlds with further cells beside them; a list whose row grows. Written by wip/gen/hand2.py -/
/-- the world, and cells beside it that are not told by the state yet -/
def WPx (z : Nat) (G : Gl) (ad : Nat → Nat → Nat) (S : St) (X : va_W) (H : Heap) : Prop := ∃ L : List (Nat × Nat), (∀ k o, ex S.2.1 k o ↔ (k, o) ∈ L) ∧ va_P G.1 vwCl (L.map (cel G ad S) ++ X) H ∧ va_D (Az z) (L.map (cel G ad S) ++ X)
theorem WPx.of {z : Nat} {G : Gl} {ad : Nat → Nat → Nat} {S : St} {H : Heap} (h : WP z G ad S H) : WPx z G ad S [] H := by
  obtain ⟨L, h1, h2, h3⟩ := h
  exact ⟨L, h1, by rw [List.append_nil]; exact h2, by rw [List.append_nil]; exact h3⟩
theorem WPx.to {z : Nat} {G : Gl} {ad : Nat → Nat → Nat} {S : St} {H : Heap} (h : WPx z G ad S [] H) : WP z G ad S H := by
  obtain ⟨L, h1, h2, h3⟩ := h
  exact ⟨L, h1, by rw [List.append_nil] at h2; exact h2, by rw [List.append_nil] at h3; exact h3⟩
/-- a list without repetition, by places -/
def inj9 {α : Type} (L : List α) : Prop := ∀ (i j : Nat) (x : α), L[i]? = some x → L[j]? = some x → i = j
theorem inj9.push {α : Type} {L : List α} {x : α} (h : inj9 L) (hx : x ∉ L) : inj9 (L ++ [x]) := by
  intro i j y hi hj
  have key : ∀ k, (L ++ [x])[k]? = some y → (k < L.length ∧ L[k]? = some y) ∨ (k = L.length ∧ y = x) := by
    intro k hk
    by_cases hl : k < L.length
    · rw [List.getElem?_append_left hl] at hk
      exact Or.inl ⟨hl, hk⟩
    · rw [List.getElem?_append_right (by omega)] at hk
      have hz : k - L.length < 1 := (List.getElem?_eq_some_iff.mp hk).1
      rw [show k - L.length = 0 by omega] at hk
      cases hk
      exact Or.inr ⟨by omega, rfl⟩
  rcases key i hi with ⟨l1, h1⟩ | ⟨l1, h1⟩ <;> rcases key j hj with ⟨l2, h2⟩ | ⟨l2, h2⟩
  · exact h i j y h1 h2
  · subst h2; exact absurd (List.mem_of_getElem? h1) hx
  · subst h1; exact absurd (List.mem_of_getElem? h2) hx
  · omega
theorem WP_mk {z : Nat} {G : Gl} {ad : Nat → Nat → Nat} {S : St} {H : Heap} {L : List (Nat × Nat)} (hL : ∀ k o, ex S.2.1 k o ↔ (k, o) ∈ L) (hi : inj9 L) (hP : ∀ k o, ex S.2.1 k o → va_at G.1 vwCl (cel G ad S (k, o)) H) (hI : ∀ k o k' o', ex S.2.1 k o → ex S.2.1 k' o' → ad k o = ad k' o' → k = k' ∧ o = o') (hz : ∀ k o, ex S.2.1 k o → z ≤ ad k o) : WP z G ad S H := by
  have at' : ∀ (i : Nat) (p : Nat × va_E), (L.map (cel G ad S))[i]? = some p → ∃ k o, L[i]? = some (k, o) ∧ p = cel G ad S (k, o) ∧ ex S.2.1 k o := by
    intro i p h
    rw [List.getElem?_map] at h
    cases hx : L[i]? with
    | none => rw [hx] at h; cases h
    | some y =>
      obtain ⟨k, o⟩ := y
      rw [hx] at h
      cases h
      exact ⟨k, o, rfl, rfl, (hL k o).mpr (List.mem_of_getElem? hx)⟩
  refine ⟨L, hL, fun i p h => ?_, fun i j p q h1 h2 hpq => ?_, fun i p h => ?_⟩
  · obtain ⟨k, o, -, rfl, he⟩ := at' i p h
    exact hP k o he
  · obtain ⟨k, o, g1, rfl, e1⟩ := at' i p h1
    obtain ⟨k', o', g2, rfl, e2⟩ := at' j q h2
    obtain ⟨rfl, rfl⟩ := hI k o k' o' e1 e2 hpq
    exact hi i j _ g1 g2
  · obtain ⟨k, o, -, rfl, he⟩ := at' i p h
    exact hz k o he
/-- what a world with cells beside it says, by the cells -/
theorem WPx_el {z : Nat} {G : Gl} {ad : Nat → Nat → Nat} {S : St} {X : va_W} {L : List (Nat × Nat)} (hL : ∀ k o, ex S.2.1 k o ↔ (k, o) ∈ L) (hD : va_D (Az z) (L.map (cel G ad S) ++ X)) : inj9 L ∧ (∀ k o k' o', ex S.2.1 k o → ex S.2.1 k' o' → ad k o = ad k' o' → k = k' ∧ o = o') ∧ (∀ k o, ex S.2.1 k o → z ≤ ad k o) ∧ (∀ k o (q : Nat × va_E), ex S.2.1 k o → q ∈ X → ad k o ≠ q.1) ∧ (∀ q ∈ X, z ≤ q.1) := by
  have pl : ∀ (i k o : Nat), L[i]? = some (k, o) → (L.map (cel G ad S) ++ X)[i]? = some (cel G ad S (k, o)) := by
    intro i k o h
    have hl : i < (L.map (cel G ad S)).length := by rw [List.length_map]; exact (List.getElem?_eq_some_iff.mp h).1
    rw [List.getElem?_append_left hl, List.getElem?_map, h]
    rfl
  have px : ∀ (q : Nat × va_E), q ∈ X → ∃ i, L.length ≤ i ∧ (L.map (cel G ad S) ++ X)[i]? = some q := by
    intro q h
    obtain ⟨i, hi⟩ := List.getElem?_of_mem h
    exact ⟨L.length + i, by omega, by rw [List.getElem?_append_right (by rw [List.length_map]; omega), List.length_map, Nat.add_sub_cancel_left]; exact hi⟩
  refine ⟨fun i j x h1 h2 => ?_, fun k o k' o' e1 e2 hq => ?_, fun k o e1 => ?_, fun k o q e1 hq h => ?_, fun q hq => ?_⟩
  · obtain ⟨k, o⟩ := x
    exact hD.1 i j _ _ (pl i k o h1) (pl j k o h2) rfl
  · obtain ⟨i, hi⟩ := List.getElem?_of_mem ((hL k o).mp e1)
    obtain ⟨j, hj⟩ := List.getElem?_of_mem ((hL k' o').mp e2)
    have hij := hD.1 i j _ _ (pl i k o hi) (pl j k' o' hj) hq
    subst hij
    rw [hi] at hj
    cases hj
    exact ⟨rfl, rfl⟩
  · obtain ⟨i, hi⟩ := List.getElem?_of_mem ((hL k o).mp e1)
    exact hD.2 i _ (pl i k o hi)
  · obtain ⟨i, hi⟩ := List.getElem?_of_mem ((hL k o).mp e1)
    obtain ⟨j, hj0, hj⟩ := px q hq
    have hij := hD.1 i j _ _ (pl i k o hi) hj h
    have := (List.getElem?_eq_some_iff.mp hi).1
    omega
  · obtain ⟨j, hj0, hj⟩ := px q hq
    exact hD.2 j _ hj
theorem WPx_at {G : Gl} {ad : Nat → Nat → Nat} {S : St} {X : va_W} {L : List (Nat × Nat)} (hL : ∀ k o, ex S.2.1 k o ↔ (k, o) ∈ L) {k o : Nat} (he : ex S.2.1 k o) : ∃ q : Nat, q < L.length ∧ L[q]? = some (k, o) ∧ (L.map (cel G ad S) ++ X)[q]? = some (ad k o, ct G ad S k o) := by
  obtain ⟨q, hq⟩ := List.getElem?_of_mem ((hL k o).mp he)
  have hl := (List.getElem?_eq_some_iff.mp hq).1
  exact ⟨q, hl, hq, by rw [List.getElem?_append_left (by rw [List.length_map]; exact hl), List.getElem?_map, hq]; rfl⟩
theorem ct_ad {G : Gl} {ad ad' : Nat → Nat → Nat} {S : St} {a b : Nat} (h : ∀ k, k ≠ 8 → ad' k = ad k) (h8 : a = 7 → ad' 8 b = ad 8 b) : ct G ad' S a b = ct G ad S a b := by
  obtain ⟨σ, ν, ρ, lo⟩ := S
  show ctr G ad' ν ρ lo a b (σ a b) = ctr G ad ν ρ lo a b (σ a b)
  unfold ctr
  split
  all_goals first
    | rfl
    | (simp only [fl_0, fl_1, fl_2, fl_3, fl_4, fl_5, fl_6, h 1 (by decide), h 2 (by decide), h 3 (by decide), h 4 (by decide), h 5 (by decide), h 6 (by decide), h 7 (by decide), h 11 (by decide), h 12 (by decide), h 13 (by decide), h 14 (by decide), h 15 (by decide), h 16 (by decide), h 18 (by decide), h 20 (by decide), h 21 (by decide), h 22 (by decide)]; done)
    | (rw [h8 rfl]; done)
    | skip
  all_goals (unfold fl_30; simp only [h 102 (by decide), h 108 (by decide), h 110 (by decide), h 113 (by decide), h 114 (by decide), h 115 (by decide), h 116 (by decide), h 117 (by decide), h 118 (by decide), h 119 (by decide), h 120 (by decide), h 121 (by decide), h 122 (by decide), h 123 (by decide), h 124 (by decide), h 125 (by decide), h 126 (by decide), h 127 (by decide), h 128 (by decide), h 129 (by decide), h 130 (by decide), h 131 (by decide), h 132 (by decide), h 136 (by decide), h 137 (by decide), h 138 (by decide), h 139 (by decide), h 140 (by decide), h 141 (by decide), h 142 (by decide), h 143 (by decide), h 144 (by decide), h 146 (by decide), h 147 (by decide)])
def adup (ad : Nat → Nat → Nat) (o q : Nat) : Nat → Nat → Nat := fun k b => if k = 8 ∧ b = o then q else ad k b
/-- the state with a list's row of N' places, its content g -/
def nug (ν : NU) (o N' : Nat) (g : Nat → Nat) : NU := r3 (u3 ν 7 o 1 N') 8 o g
theorem nug_oth {ν : NU} {o N' : Nat} {g : Nat → Nat} {a : Nat} (h7 : a ≠ 7) (h8 : a ≠ 8) : nug ν o N' g a = ν a := by
  funext b
  show r3 (u3 ν 7 o 1 N') 8 o g a b = ν a b
  rw [r3_oth (fun q => h8 q.1), u3_ne h7]
theorem nug_8 {ν : NU} {o N' : Nat} {g : Nat → Nat} : nug ν o N' g 8 o = g := r3_row
theorem nug_8o {ν : NU} {o N' : Nat} {g : Nat → Nat} {b : Nat} (h : b ≠ o) : nug ν o N' g 8 b = ν 8 b := by
  show r3 (u3 ν 7 o 1 N') 8 o g 8 b = ν 8 b
  rw [r3_oth (fun q => h q.2), u3_ne (by decide)]
theorem nug_7 {ν : NU} {o N' : Nat} {g : Nat → Nat} : nug ν o N' g 7 o 1 = N' := by simp [nug, r3, u3]
theorem nug_7o {ν : NU} {o N' : Nat} {g : Nat → Nat} {b : Nat} (h : b ≠ o) : nug ν o N' g 7 b = ν 7 b := by
  show r3 (u3 ν 7 o 1 N') 8 o g 7 b = ν 7 b
  rw [r3_oth (fun q => absurd q.1 (by decide)), u3_oth (fun q => h q.2)]
theorem ex_nug {ν : NU} {o N' : Nat} {g : Nat → Nat} (ho : o < 3) (hN : 0 < N') (a b : Nat) : ex (nug ν o N' g) a b ↔ (ex ν a b ∨ (a = 8 ∧ b = o)) := by
  have h99 : nug ν o N' g 99 = ν 99 := nug_oth (by decide) (by decide)
  by_cases h : a = 8
  · subst h
    by_cases hb : b = o
    · subst hb
      have : ex (nug ν b N' g) 8 b := ⟨ho, by rw [nug_7]; exact hN⟩
      exact ⟨fun _ => Or.inr ⟨rfl, rfl⟩, fun _ => this⟩
    · have e : ex (nug ν o N' g) 8 b ↔ ex ν 8 b := by
        show (b < 3 ∧ 0 < nug ν o N' g 7 b 1) ↔ (b < 3 ∧ 0 < ν 7 b 1)
        rw [nug_7o hb]
      rw [e]
      exact ⟨Or.inl, fun q => q.elim id (fun r => absurd r.2 hb)⟩
  · refine ⟨fun q => Or.inl (ex_n h99.symm h q), fun q => q.elim (fun r => ex_n h99 h r) (fun r => absurd r.1 h)⟩
def xrow (G : Gl) (ad : Nat → Nat → Nat) (q N' : Nat) (g : Nat → Nat) : Nat × va_E := (q, .inl (G.2.1 4, N', .inr (.inr (.inr (.inr (fun i => opn (ad 3) (g i)))))))
/-- the list's object gets the new row: the world tells it from then on -/
theorem WP_grow {z : Nat} {G : Gl} {ad : Nat → Nat → Nat} {σ : SG} {ν : NU} {ρ : RH} {lo : Int64} {o q N' : Nat} {g : Nat → Nat} {H1 : Heap} {L : List (Nat × Nat)} {i7 : Nat} (ho : o < 3) (hN : 0 < N') (hL : ∀ k b, ex ν k b ↔ (k, b) ∈ L) (hD : va_D (Az z) (L.map (cel G ad (σ, ν, ρ, lo)) ++ [xrow G ad q N' g])) (h7 : L[i7]? = some (7, o))
    (hP1 : va_P G.1 vwCl ((L.map (cel G ad (σ, ν, ρ, lo)) ++ [xrow G ad q N' g]).set i7 (ad 7 o, (Sum.inr (2, [.int (σ 7 o 0), .ref q, .int (σ 7 o 2)]) : va_E))) H1) : WP z G (adup ad o q) (σ, nug ν o N' g, ρ, lo) H1 := by
  obtain ⟨hi, hI, hz, hX, hXz⟩ := WPx_el hL hD
  have hl7 := (List.getElem?_eq_some_iff.mp h7).1
  have hlm : (L.map (cel G ad (σ, ν, ρ, lo))).length = L.length := List.length_map ..
  have had : ∀ k, k ≠ 8 → adup ad o q k = ad k := fun k hk => funext fun b => if_neg (fun t => hk t.1)
  have had8 : ∀ b, b ≠ o → adup ad o q 8 b = ad 8 b := fun b hb => if_neg (fun t => hb t.2)
  have hado : adup ad o q 8 o = q := if_pos ⟨rfl, rfl⟩
  have hat : ∀ (i k b : Nat), L[i]? = some (k, b) → i ≠ i7 → va_at G.1 vwCl (cel G ad (σ, ν, ρ, lo) (k, b)) H1 := by
    intro i k b h hne
    refine hP1 i _ ?_
    rw [List.getElem?_set_ne (Ne.symm hne), List.getElem?_append_left (by rw [hlm]; exact (List.getElem?_eq_some_iff.mp h).1), List.getElem?_map, h]
    rfl
  have hat7 : va_at G.1 vwCl (ad 7 o, .inr (2, [.int (σ 7 o 0), .ref q, .int (σ 7 o 2)])) H1 := hP1 i7 _ (by rw [List.getElem?_set_self (by rw [List.length_append, hlm]; omega)])
  have hatq : va_at G.1 vwCl (q, .inl (G.2.1 4, N', .inr (.inr (.inr (.inr (fun i => opn (ad 3) (g i))))))) H1 := by
    refine hP1 L.length _ ?_
    rw [List.getElem?_set_ne (by omega), List.getElem?_append_right (by rw [hlm]; exact Nat.le_refl _), hlm, Nat.sub_self]
    rfl
  have hex := ex_nug (ν := ν) (g := g) ho hN
  have hP : ∀ k b, ex (nug ν o N' g) k b → va_at G.1 vwCl (cel G (adup ad o q) (σ, nug ν o N' g, ρ, lo) (k, b)) H1 := by
    intro k b he
    by_cases h8 : k = 8 ∧ b = o
    · obtain ⟨rfl, rfl⟩ := h8
      have e : cel G (adup ad b q) (σ, nug ν b N' g, ρ, lo) (8, b) = (q, .inl (G.2.1 4, N', .inr (.inr (.inr (.inr (fun i => opn (ad 3) (g i))))))) := by
        show (adup ad b q 8 b, (Sum.inl (G.2.1 4, nug ν b N' g 7 b 1, Sum.inr (Sum.inr (Sum.inr (Sum.inr (fun i => opn (adup ad b q 3) (nug ν b N' g 8 b i)))))) : va_E)) = _
        rw [hado, nug_7, nug_8, had 3 (by decide)]
      rw [e]
      exact hatq
    · have he0 : ex ν k b := ((hex k b).mp he).resolve_right h8
      by_cases h7b : k = 7 ∧ b = o
      · obtain ⟨rfl, rfl⟩ := h7b
        have e : cel G (adup ad b q) (σ, nug ν b N' g, ρ, lo) (7, b) = (ad 7 b, .inr (2, [.int (σ 7 b 0), .ref q, .int (σ 7 b 2)])) := by
          show (adup ad b q 7 b, (Sum.inr (2, [.int (σ 7 b 0), .ref (if nug ν b N' g 7 b 1 = 0 then G.2.2.1 else adup ad b q 8 b), .int (σ 7 b 2)]) : va_E)) = _
          rw [had 7 (by decide), nug_7, hado, if_neg (by omega)]
        rw [e]
        exact hat7
      · obtain ⟨i, hi9⟩ := List.getElem?_of_mem ((hL k b).mp he0)
        have hne : i ≠ i7 := by
          rintro rfl
          rw [h7] at hi9
          cases hi9
          exact h7b ⟨rfl, rfl⟩
        have e : cel G (adup ad o q) (σ, nug ν o N' g, ρ, lo) (k, b) = cel G ad (σ, ν, ρ, lo) (k, b) := by
          have e1 : adup ad o q k b = ad k b := if_neg h8
          have e2 : ct G (adup ad o q) (σ, nug ν o N' g, ρ, lo) k b = ct G ad (σ, ν, ρ, lo) k b := by
            rw [ct_ad had (fun t => had8 b (fun u => h7b ⟨t, u⟩))]
            by_cases k7 : k = 7
            · subst k7
              have hb : b ≠ o := fun u => h7b ⟨rfl, u⟩
              show (Sum.inr (2, [.int (σ 7 b 0), .ref (if nug ν o N' g 7 b 1 = 0 then G.2.2.1 else ad 8 b), .int (σ 7 b 2)]) : va_E) = _
              rw [nug_7o hb]
              rfl
            · by_cases k8 : k = 8
              · subst k8
                have hb : b ≠ o := fun u => h8 ⟨rfl, u⟩
                show (Sum.inl (G.2.1 4, nug ν o N' g 7 b 1, Sum.inr (Sum.inr (Sum.inr (Sum.inr (fun i => opn (ad 3) (nug ν o N' g 8 b i)))))) : va_E) = _
                rw [nug_7o hb, nug_8o hb]
                rfl
              · have n0 : nug ν o N' g 0 = ν 0 := nug_oth (by decide) (by decide)
                have n3 : nug ν o N' g 3 = ν 3 := nug_oth (by decide) (by decide)
                have n13 : nug ν o N' g 13 = ν 13 := nug_oth (by decide) (by decide)
                show ctr G ad (nug ν o N' g) ρ lo k b (σ k b) = ctr G ad ν ρ lo k b (σ k b)
                unfold ctr
                split
                all_goals first
                  | rfl
                  | (simp only [fl_0, n0]; done)
                  | (simp only [fl_3, n3]; done)
                  | exact absurd rfl k7
                  | exact absurd rfl k8
                  | (simp only [n13]; done)
          show (adup ad o q k b, ct G (adup ad o q) (σ, nug ν o N' g, ρ, lo) k b) = (ad k b, ct G ad (σ, ν, ρ, lo) k b)
          rw [e1, e2]
        rw [e]
        exact hat i k b hi9 hne
  have hI2 : ∀ k b k' b', ex (nug ν o N' g) k b → ex (nug ν o N' g) k' b' → adup ad o q k b = adup ad o q k' b' → k = k' ∧ b = b' := by
    intro k b k' b' e1 e2 hq
    by_cases h1 : k = 8 ∧ b = o <;> by_cases h2 : k' = 8 ∧ b' = o
    · exact ⟨h1.1.trans h2.1.symm, h1.2.trans h2.2.symm⟩
    · have q1 : adup ad o q k b = q := if_pos h1
      have q2 : adup ad o q k' b' = ad k' b' := if_neg h2
      rw [q1, q2] at hq
      exact absurd hq.symm (hX k' b' _ (((hex k' b').mp e2).resolve_right h2) (List.mem_singleton.mpr rfl))
    · have q1 : adup ad o q k b = ad k b := if_neg h1
      have q2 : adup ad o q k' b' = q := if_pos h2
      rw [q1, q2] at hq
      exact absurd hq (hX k b _ (((hex k b).mp e1).resolve_right h1) (List.mem_singleton.mpr rfl))
    · have q1 : adup ad o q k b = ad k b := if_neg h1
      have q2 : adup ad o q k' b' = ad k' b' := if_neg h2
      rw [q1, q2] at hq
      exact hI k b k' b' (((hex k b).mp e1).resolve_right h1) (((hex k' b').mp e2).resolve_right h2) hq
  have hz2 : ∀ k b, ex (nug ν o N' g) k b → z ≤ adup ad o q k b := by
    intro k b e1
    by_cases h1 : k = 8 ∧ b = o
    · rw [show adup ad o q k b = q from if_pos h1]; exact hXz _ (List.mem_singleton.mpr rfl)
    · rw [show adup ad o q k b = ad k b from if_neg h1]; exact hz k b (((hex k b).mp e1).resolve_right h1)
  by_cases h8 : ex ν 8 o
  · refine WP_mk (L := L) (fun k b => ?_) hi hP hI2 hz2
    rw [hex k b, ← hL k b]
    exact ⟨fun t => t.elim id (fun u => by rw [u.1, u.2]; exact h8), Or.inl⟩
  · refine WP_mk (L := L ++ [(8, o)]) (fun k b => ?_) (hi.push (fun t => h8 ((hL 8 o).mpr t))) hP hI2 hz2
    rw [hex k b, hL k b, List.mem_append, List.mem_singleton, Prod.mk.injEq]

