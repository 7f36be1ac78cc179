/-! What the members written by hand ask and give: the words that an instruction puts in; a new instruction; terms. -/
def wpX5_freshOf (σ : SG) (ν : NU) (v i : Nat) (post : Nat → Prop) : Prop := v < 2 ∧ i < ν 99 0 0 ∧ ∃ k : Nat, k < 40 ∧ σ 3 i 0 = nI k ∧ post (if ν 13 v k = 0 then 2 * i + 1 else ν 13 v k - 1)
/-- a new instruction's numbers: nothing is given, no words -/
def sgI (σ : SG) (N : Nat) : SG := fun a b c => if a = 3 ∧ b = N then -1 else if (a = 4 ∨ a = 22) ∧ (b = 2 * N ∨ b = 2 * N + 1) then 0 else if a = 6 ∧ (b = 3 * N ∨ b = 3 * N + 1 ∨ b = 3 * N + 2) then -1 else σ a b c
def nuI (ν : NU) (i N : Nat) : NU := u3 (u3 (u3 ν 99 0 0 (N + 1)) 3 N 7 (ν 3 i 7)) 0 0 3 N
/-- what lies in lists and rows is there -/
def clo (ν : NU) : Prop := (∀ o i, ν 8 o i ≤ ν 99 0 0) ∧ (∀ v i, ν 13 v i ≤ 2 * ν 99 0 0) ∧ ν 0 0 3 < ν 99 0 0 ∧ ∀ i, i < ν 99 0 0 → ν 3 i 7 < ν 99 0 1
def tm4 (a b c d : Int32) : Nat → Int32 := fun j => if j = 0 then a else if j = 1 then b else if j = 2 then c else d
def nuT (ν : NU) (i : Nat) : NU := u3 (u3 ν 99 0 1 (ν 99 0 1 + 1)) 3 i 7 (ν 99 0 1)
