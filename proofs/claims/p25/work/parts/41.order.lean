/-! In which order the instructions are done. -/
/-- one is ahead of the other: by the days, then by the numbers -/
def ah9 (b : Nat → Int) (i j : Nat) : Prop := b i < b j ∨ (b i = b j ∧ i < j)
def ins8 (b : Nat → Int) (i : Nat) : List Nat → List Nat
  | [] => [i]
  | x :: l => if b i < b x then i :: x :: l else x :: ins8 b i l
def tn9 (b : Nat → Int) (eff : Nat → Bool) : Nat → List Nat
  | 0 => []
  | n + 1 => if eff n = true then ins8 b n (tn9 b eff n) else tn9 b eff n
theorem ins8_mem {b : Nat → Int} {i x : Nat} : ∀ {l : List Nat}, x ∈ ins8 b i l ↔ x = i ∨ x ∈ l
  | [] => by simp [ins8]
  | y :: l => by
    simp only [ins8]
    split
    · simp
    · simp only [List.mem_cons, ins8_mem (l := l)]
      constructor
      · rintro (h | h | h) <;> simp [h]
      · rintro (h | h | h) <;> simp [h]
theorem tn9_mem {b : Nat → Int} {eff : Nat → Bool} {x : Nat} : ∀ {n : Nat}, x ∈ tn9 b eff n ↔ x < n ∧ eff x = true
  | 0 => by simp [tn9]
  | n + 1 => by
    simp only [tn9]
    split
    · next h =>
      rw [ins8_mem, tn9_mem (n := n)]
      constructor
      · rintro (rfl | ⟨h1, h2⟩)
        · exact ⟨by omega, h⟩
        · exact ⟨by omega, h2⟩
      · rintro ⟨h1, h2⟩
        by_cases e : x = n
        · exact Or.inl e
        · exact Or.inr ⟨by omega, h2⟩
    · next h =>
      rw [tn9_mem (n := n)]
      constructor
      · rintro ⟨h1, h2⟩; exact ⟨by omega, h2⟩
      · rintro ⟨h1, h2⟩
        by_cases e : x = n
        · subst e; exact absurd h2 h
        · exact ⟨by omega, h2⟩
theorem ins8_sorted {b : Nat → Int} {i : Nat} : ∀ {l : List Nat}, (∀ x ∈ l, x < i) → l.Pairwise (ah9 b) → (ins8 b i l).Pairwise (ah9 b)
  | [], _, _ => by simp [ins8]
  | y :: l, hl, h => by
    obtain ⟨h1, h2⟩ := List.pairwise_cons.mp h
    simp only [ins8]
    split
    · next c =>
      refine List.pairwise_cons.mpr ⟨fun x hx => ?_, h⟩
      rcases List.mem_cons.mp hx with rfl | hx
      · exact Or.inl c
      · rcases h1 x hx with q | q
        · exact Or.inl (by omega)
        · exact Or.inl (by omega)
    · next c =>
      refine List.pairwise_cons.mpr ⟨fun x hx => ?_, ins8_sorted (fun x hx => hl x (List.mem_cons_of_mem _ hx)) h2⟩
      rcases ins8_mem.mp hx with rfl | hx
      · have := hl y List.mem_cons_self
        by_cases e : b y = b x
        · exact Or.inr ⟨e, this⟩
        · exact Or.inl (by omega)
      · exact h1 x hx
theorem tn9_sorted {b : Nat → Int} {eff : Nat → Bool} : ∀ {n : Nat}, (tn9 b eff n).Pairwise (ah9 b)
  | 0 => List.Pairwise.nil
  | n + 1 => by
    simp only [tn9]
    split
    · exact ins8_sorted (fun x hx => (tn9_mem.mp hx).1) tn9_sorted
    · exact tn9_sorted
theorem ah9_irr {b : Nat → Int} {i : Nat} (h : ah9 b i i) : False := by
  rcases h with h | h
  · omega
  · omega
theorem ah9_tr {b : Nat → Int} {i j k : Nat} (h1 : ah9 b i j) (h2 : ah9 b j k) : ah9 b i k := by
  unfold ah9 at *
  omega
theorem ah9_as {b : Nat → Int} {i j : Nat} (h1 : ah9 b i j) (h2 : ah9 b j i) : False := ah9_irr (ah9_tr h1 h2)
theorem tn9_nodup {b : Nat → Int} {eff : Nat → Bool} {n : Nat} : (tn9 b eff n).Nodup := tn9_sorted.imp (fun h e => by subst e; exact ah9_irr h)
theorem ins8_len {b : Nat → Int} {i : Nat} : ∀ {l : List Nat}, (ins8 b i l).length = l.length + 1
  | [] => rfl
  | y :: l => by
    simp only [ins8]
    split
    · rfl
    · simp [ins8_len (l := l)]
theorem tn9_len {b : Nat → Int} {eff : Nat → Bool} : ∀ {n : Nat}, (tn9 b eff n).length ≤ n
  | 0 => Nat.le_refl 0
  | n + 1 => by
    have := tn9_len (b := b) (eff := eff) (n := n)
    simp only [tn9]
    split
    · rw [ins8_len]; omega
    · omega
theorem ins8_congr {b b' : Nat → Int} {i : Nat} : ∀ {l : List Nat}, b i = b' i → (∀ x ∈ l, b x = b' x) → ins8 b i l = ins8 b' i l
  | [], _, _ => rfl
  | y :: l, h, hl => by
    simp only [ins8]
    rw [h, hl y List.mem_cons_self, ins8_congr h (fun x hx => hl x (List.mem_cons_of_mem _ hx))]
theorem tn9_congr {b b' : Nat → Int} {eff eff' : Nat → Bool} : ∀ {n : Nat}, (∀ i, i < n → b i = b' i ∧ eff i = eff' i) → tn9 b eff n = tn9 b' eff' n
  | 0, _ => rfl
  | n + 1, h => by
    simp only [tn9]
    rw [tn9_congr (fun i hi => h i (by omega)), (h n (by omega)).2, ins8_congr (h n (by omega)).1 (fun x hx => (h x (by have := (tn9_mem.mp hx).1; omega)).1)]
/-- the last that was done: its day, its number -/
def LK (b : Nat → Int) (pre : List Nat) (lb li : Int) : Prop := (pre = [] ∧ lb = -1 ∧ li = -1) ∨ ∃ pre0 m, pre = pre0 ++ [m] ∧ lb = b m ∧ li = m
/-- behind the last one -/
def cd9 (b : Nat → Int) (lb li : Int) (k : Nat) : Prop := lb < b k ∨ (lb = b k ∧ li < k)
theorem cd9_iff {b : Nat → Int} {T pre rest : List Nat} {lb li : Int} {k : Nat} (hs : T.Pairwise (ah9 b)) (hT : T = pre ++ rest) (hL : LK b pre lb li) (h0 : 0 ≤ b k) (hk : k ∈ T) : cd9 b lb li k ↔ k ∈ rest := by
  subst hT
  rcases hL with ⟨rfl, rfl, rfl⟩ | ⟨p0, m, rfl, rfl, rfl⟩
  · exact ⟨fun _ => hk, fun _ => Or.inl (by omega)⟩
  · have hp := (List.pairwise_append.mp hs).2.2
    constructor
    · intro hc
      rcases List.mem_append.mp hk with h | h
      · have hp0 := (List.pairwise_append.mp (List.pairwise_append.mp hs).1).2.2
        rcases List.mem_append.mp h with h | h
        · have := hp0 k h m List.mem_cons_self
          unfold cd9 at hc
          unfold ah9 at this
          omega
        · have e : k = m := by simpa using h
          subst e
          unfold cd9 at hc
          omega
      · exact h
    · intro h
      have := hp m (List.mem_append_right _ List.mem_cons_self) k h
      unfold ah9 at this
      unfold cd9
      omega
/-- the least one is the head of the rest -/
theorem pick9 {b : Nat → Int} {r m : Nat} {rest : List Nat} (hs : (r :: rest).Pairwise (ah9 b)) (hm : m ∈ r :: rest) (hmin : ∀ k ∈ r :: rest, b m ≤ b k ∧ (b m = b k → m ≤ k)) : m = r := by
  rcases List.mem_cons.mp hm with h | h
  · exact h
  · have h1 := (List.pairwise_cons.mp hs).1 m h
    have h2 := hmin r List.mem_cons_self
    unfold ah9 at h1
    omega
