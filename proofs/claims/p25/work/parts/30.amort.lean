/-! What a turn taken costs: a list's row grows only when it is full, and at most eight times in all. -/
def kcT (σ : SG) (ν : NU) (o : Nat) : Nat := if σ 7 (1 + o) 2 = nI (ν 7 (1 + o) 1) then 1 else 0
def ksT (σ : SG) (ν : NU) (o : Nat) : Nat := if σ 7 (1 + o) 2 = nI (ν 7 (1 + o) 1) then capn (ν 7 (1 + o) 1) else 0
theorem ks_ok {σ : SG} {ν : NU} {o : Nat} : σ 7 (1 + o) 2 = nI (ν 7 (1 + o) 1) → 1 ≤ kcT σ ν o ∧ capn (ν 7 (1 + o) 1) ≤ ksT σ ν o := fun h => by
  unfold kcT ksT
  rw [if_pos h, if_pos h]
  exact ⟨Nat.le_refl _, Nat.le_refl _⟩
/-- what a turn costs fits what is left, and is taken of it -/
def fitT (σ : SG) (ν : NU) (o : Nat) : Prop := kcT σ ν o ≤ gp9 8 (ν 7 (1 + o) 1) ∧ ksT σ ν o ≤ sp9 8 (ν 7 (1 + o) 1)
def tknT (σ : SG) (ν : NU) (o : Nat) (u : NU) : Prop := gp9 8 (u 7 (1 + o) 1) + kcT σ ν o = gp9 8 (ν 7 (1 + o) 1) ∧ sp9 8 (u 7 (1 + o) 1) + ksT σ ν o = sp9 8 (ν 7 (1 + o) 1)
theorem add_fit {σ : SG} {ν : NU} {o w : Nat} {i : Int32} {post : SG → NU → Prop} (h : wpJx4a65c_add_7a177 σ ν (1 + o) i w post) : fitT σ ν o ∧ wpJx4a65c_add_7a177 σ ν (1 + o) i w (fun t u => tknT σ ν o u ∧ post t u) := by
  obtain ⟨g1, g2, n, k, hs, hi, hkn, hk, h⟩ := h
  obtain ⟨k1, k2, k3, k4, k5⟩ := id hk
  have cap : ∀ (ν1 ν2 : NU), GR ν ν1 (1 + o) n → ν2 = u3 (r3 ν1 8 (1 + o) (va_cpy (ν1 8 (1 + o)) (ν1 8 (1 + o)) k (k + 1) (n - k))) 8 (1 + o) k (w + 1) → ν2 7 (1 + o) 1 = (if n < ν 7 (1 + o) 1 then ν 7 (1 + o) 1 else capn (ν 7 (1 + o) 1)) := fun ν1 ν2 hG e => by
    rw [e, u3_ne (by decide), r3_oth9 (by decide)]
    exact hG.1
  by_cases hf : n = ν 7 (1 + o) 1
  · have e1 : kcT σ ν o = 1 := if_pos (by rw [hs, hf])
    have e2 : ksT σ ν o = capn (ν 7 (1 + o) 1) := if_pos (by rw [hs, hf])
    obtain ⟨p1, p2⟩ := pot_up (ν 7 (1 + o) 1) (by omega) k3
    refine ⟨⟨by rw [e1, p1]; omega, by rw [e2, p2]; omega⟩, g1, g2, n, k, hs, hi, hkn, hk, fun σ1 ν1 ν2 q1 q2 q3 => ⟨?_, h σ1 ν1 ν2 q1 q2 q3⟩⟩
    have ec := cap ν1 ν2 q2 q3
    rw [if_neg (by omega)] at ec
    unfold tknT
    rw [ec, e1, e2, p1, p2]
    exact ⟨rfl, rfl⟩
  · have hne : ¬ σ 7 (1 + o) 2 = nI (ν 7 (1 + o) 1) := fun q => hf (nI_inj (by omega) (by omega) (hs.symm.trans q))
    have e1 : kcT σ ν o = 0 := if_neg hne
    have e2 : ksT σ ν o = 0 := if_neg hne
    refine ⟨⟨by rw [e1]; exact Nat.zero_le _, by rw [e2]; exact Nat.zero_le _⟩, g1, g2, n, k, hs, hi, hkn, hk, fun σ1 ν1 ν2 q1 q2 q3 => ⟨?_, h σ1 ν1 ν2 q1 q2 q3⟩⟩
    have ec := cap ν1 ν2 q2 q3
    rw [if_pos (by omega)] at ec
    unfold tknT
    rw [ec, e1, e2]
    exact ⟨rfl, rfl⟩
theorem bo_ex {σ : SG} {ν : NU} {o : Nat} {p : Int32} {P : Int32 → Prop} (h : wpX5_beginningOf σ ν o p P) : ∃ r, P r ∧ ∀ Q : Int32 → Prop, Q r → wpX5_beginningOf σ ν o p Q := by
  unfold wpX5_beginningOf at h
  by_cases c : p.toInt < 0
  · rw [if_pos c] at h
    exact ⟨_, h, fun Q q => by unfold wpX5_beginningOf; rw [if_pos c]; exact q⟩
  · rw [if_neg c] at h
    obtain ⟨h1, h⟩ := h
    by_cases c2 : p.toInt < 40
    · rw [if_pos c2] at h
      obtain ⟨h2, h⟩ := h
      exact ⟨_, h, fun Q q => by unfold wpX5_beginningOf; rw [if_neg c]; refine ⟨h1, ?_⟩; rw [if_pos c2]; exact ⟨h2, q⟩⟩
    · rw [if_neg c2] at h
      exact ⟨_, h, fun Q q => by unfold wpX5_beginningOf; rw [if_neg c]; refine ⟨h1, ?_⟩; rw [if_neg c2]; exact q⟩
theorem tt42_fit {σ : SG} {ν : NU} {o0 o1 : Nat} {p2 x3 : Int32} {post : SG → NU → Prop} (h : jX5_takeTurn_42 o0 o1 p2 post σ ν x3) : fitT σ ν o0 ∧ jX5_takeTurn_42 o0 o1 p2 (fun t u => tknT σ ν o0 u ∧ post t u) σ ν x3 := by
  obtain ⟨a, b, h⟩ := h
  obtain ⟨c, h⟩ := add_fit h
  exact ⟨c, a, b, h⟩
theorem tt8_fit {o0 o1 : Nat} {p2 : Int32} {post : SG → NU → Prop} {σ : SG} {ν : NU} : ∀ (f : Nat) (x3 : Int32), wX5_takeTurn_8 o0 o1 p2 post f σ ν x3 → fitT σ ν o0 ∧ wX5_takeTurn_8 o0 o1 p2 (fun t u => tknT σ ν o0 u ∧ post t u) f σ ν x3 := by
  intro f
  induction f with
  | zero => intro x3 h; exact absurd h id
  | succ f ih =>
    intro x3 h
    unfold wX5_takeTurn_8 at h ⊢
    by_cases c : x3.toInt ≤ 0
    · rw [if_pos c] at h ⊢
      exact tt42_fit h
    · rw [if_neg c] at h ⊢
      obtain ⟨a, b1, b2, b3, b4, b5, c1, h⟩ := h
      obtain ⟨r, hr, hq⟩ := bo_ex h
      by_cases c2 : r.toInt ≤ p2.toInt
      · rw [if_pos c2] at hr
        obtain ⟨d, hr⟩ := tt42_fit hr
        exact ⟨d, a, b1, b2, b3, b4, b5, c1, hq _ (by rw [if_pos c2]; exact hr)⟩
      · rw [if_neg c2] at hr
        obtain ⟨d, hr⟩ := ih _ hr
        exact ⟨d, a, b1, b2, b3, b4, b5, c1, hq _ (by rw [if_neg c2]; exact hr)⟩
theorem tt_fit {σ : SG} {ν : NU} {o0 o1 : Nat} {p2 : Int32} {post : SG → NU → Prop} (h : wpX5_takeTurn σ ν o0 o1 p2 post) : fitT σ ν o0 ∧ wpX5_takeTurn σ ν o0 o1 p2 (fun t u => tknT σ ν o0 u ∧ post t u) := by
  obtain ⟨a, b, f, h⟩ := h
  obtain ⟨d, h⟩ := tt8_fit f _ h
  exact ⟨d, a, b, f, h⟩
