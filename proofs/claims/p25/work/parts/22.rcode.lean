/-! The code of laws as functions, and what the reference does to it. -/
/-- which provisions are there, their labels, parents, texts; the instructions' states, and their new words in the view -/
abbrev CS : Type := (Nat → Bool) × (Nat → Int32) × (Nat → Int32) × (Nat → TXT) × (Nat → Int32) × (Nat → List Int32)
def RSC (n : Nat) (ρ : RH) (C : CS) : Prop := (∀ p, p < 20 → ρ 37 p = bI (C.1 p = true) ∧ (C.1 p = true → ρ 38 p = C.2.1 p ∧ ρ 39 p = C.2.2.1 p ∧ TX ρ p (C.2.2.2.1 p))) ∧ (∀ i, i < n → ρ 36 i = C.2.2.2.2.1 i ∧ NW ρ i (C.2.2.2.2.2 i))
def cEn (C : CS) (p : Nat) (par lab : Int32) (t : TXT) : CS := (va_up C.1 p true, va_up C.2.1 p lab, va_up C.2.2.1 p par, va_up C.2.2.2.1 p t, C.2.2.2.2)
def cLb (C : CS) (p : Nat) (lab : Int32) : CS := (C.1, va_up C.2.1 p lab, C.2.2)
def cPa (C : CS) (p : Nat) (par : Int32) : CS := (C.1, C.2.1, va_up C.2.2.1 p par, C.2.2.2)
def cTx (C : CS) (p : Nat) (t : TXT) : CS := (C.1, C.2.1, C.2.2.1, va_up C.2.2.2.1 p t, C.2.2.2.2)
theorem NW.same {ρ ρ' : RH} {i : Nat} {f : List Int32} (h : NW ρ i f) (h43 : ρ' 43 = ρ 43) (h44 : ρ' 44 = ρ 44) : NW ρ' i f := by
  unfold NW at *
  rw [h43, h44]
  exact h
theorem RSC.kept41 {n : Nat} {ρ ρ' : RH} {C : CS} (h : RSC n ρ C) (g : lg41 ρ ρ') : RSC n ρ' C := by
  refine ⟨fun p hp => ?_, fun i hi => ?_⟩
  · rw [g 37 (by decide) (by decide) (by decide), g 38 (by decide) (by decide) (by decide), g 39 (by decide) (by decide) (by decide)]
    obtain ⟨h1, h2⟩ := h.1 p hp
    exact ⟨h1, fun ht => ⟨(h2 ht).1, (h2 ht).2.1, (h2 ht).2.2.kept g⟩⟩
  · rw [g 36 (by decide) (by decide) (by decide)]
    exact ⟨(h.2 i hi).1, (h.2 i hi).2.same (g 43 (by decide) (by decide) (by decide)) (g 44 (by decide) (by decide) (by decide))⟩
/-- a text was written -/
theorem RSC.text {n : Nat} {ρ ρ' : RH} {C : CS} {p : Nat} {t : TXT} (h : RSC n ρ C) (hp : C.1 p = true) (ht : TX ρ' p t) (g : lgT p ρ ρ') : RSC n ρ' (cTx C p t) := by
  have g1 := g.1
  refine ⟨fun q hq => ?_, fun i hi => ?_⟩
  · rw [g1 37 (by decide) (by decide) (by decide) (by decide) (by decide) (by decide), g1 38 (by decide) (by decide) (by decide) (by decide) (by decide) (by decide), g1 39 (by decide) (by decide) (by decide) (by decide) (by decide) (by decide)]
    obtain ⟨h1, h2⟩ := h.1 q hq
    refine ⟨h1, fun hth => ⟨(h2 hth).1, (h2 hth).2.1, ?_⟩⟩
    show TX ρ' q (va_up C.2.2.2.1 p t q)
    by_cases e : q = p
    · subst e; rw [va_up_self]; exact ht
    · rw [va_up_ne _ _ e]; exact (h2 hth).2.2.keptT g e
  · rw [g1 36 (by decide) (by decide) (by decide) (by decide) (by decide) (by decide)]
    exact ⟨(h.2 i hi).1, (h.2 i hi).2.same (g1 43 (by decide) (by decide) (by decide) (by decide) (by decide) (by decide)) (g1 44 (by decide) (by decide) (by decide) (by decide) (by decide) (by decide))⟩
/-- one of the first n has it -/
def any9 (f : Nat → Bool) : Nat → Bool
  | 0 => false
  | n + 1 => any9 f n || f n
theorem any9_iff {f : Nat → Bool} {n : Nat} : any9 f n = true ↔ ∃ k, k < n ∧ f k = true := by
  induction n with
  | zero => exact ⟨fun h => (by cases h), fun ⟨k, h, _⟩ => absurd h (Nat.not_lt_zero k)⟩
  | succ n ih =>
    show (any9 f n || f n) = true ↔ _
    rw [Bool.or_eq_true, ih]
    constructor
    · rintro (⟨k, h1, h2⟩ | h)
      · exact ⟨k, by omega, h2⟩
      · exact ⟨n, by omega, h⟩
    · rintro ⟨k, h1, h2⟩
      by_cases e : k = n
      · subst e; exact Or.inr h2
      · exact Or.inl ⟨k, by omega, h2⟩
def fh9 (C : CS) (par lab but : Int32) (p : Nat) : Bool := decide (¬ nI p = but) && (C.1 p && (decide (C.2.2.1 p = par) && decide (C.2.1 p = lab)))
theorem z0I : (0 : Int32).toInt = 0 := by decide
theorem z1I : ¬ (1 : Int32).toInt = 0 := by decide
theorem s_hasLabel {n np : Nat} {ρ : RH} {C : CS} {par lab but : Int32} {post : Int32 → Prop} (h : RSC n ρ C) (hnp : ρ 12 0 = nI np) (h20 : np ≤ 20) (k : post (bI (any9 (fh9 C par lab but) np = true))) : wpX7_hasLabel ρ par lab but post := by
  refine ⟨np + 1, ?_⟩
  have key : ∀ d j, j + d = np → wX7_hasLabel_6 par lab but post (d + 1) ρ (bI (any9 (fh9 C par lab but) j = true)) (nI j) := by
    intro d
    induction d with
    | zero =>
      intro j hj
      have hjn : j = np := by omega
      subst hjn
      unfold wX7_hasLabel_6
      rw [hnp, if_neg (by omega)]
      exact ⟨bI_01 _, k⟩
    | succ d ih =>
      intro j hj
      have hj20 : j < 20 := by omega
      have hn : ∀ b : Bool, any9 (fh9 C par lab but) (j + 1) = b → wX7_hasLabel_6 par lab but post (d + 1) ρ (bI (b = true)) (nI (j + 1)) := fun b hb => hb ▸ ih (j + 1) (by omega)
      have hc : (nI j).toNatClampNeg = j := cl_n (by omega)
      have hs : any9 (fh9 C par lab but) (j + 1) = (any9 (fh9 C par lab but) j || fh9 C par lab but j) := rfl
      unfold wX7_hasLabel_6
      rw [hnp, ti_n (by omega), ti_n (by omega), if_pos (by omega), nI_1, hc]
      cases hb : any9 (fh9 C par lab but) j with
      | true =>
        rw [bI_t rfl, if_neg z1I]
        have := hn true (by rw [hs, hb]; rfl)
        rw [bI_t rfl] at this
        exact this
      | false =>
        have hno : fh9 C par lab but j = false → wX7_hasLabel_6 par lab but post (d + 1) ρ 0 (nI (j + 1)) := fun q => by
          have := hn false (by rw [hs, hb, q]; rfl)
          rw [bI_f (by decide)] at this
          exact this
        rw [bI_f (by decide), if_pos z0I]
        by_cases h1 : nI j = but
        · rw [if_pos (by rw [← h1, ti_n (by omega)])]
          exact hno (by simp [fh9, h1])
        · rw [if_neg (fun q => h1 (ti_eq.mp (by rw [ti_n (by omega)]; exact q)))]
          refine ⟨vi_n hj20 (by decide), ?_⟩
          rw [(h.1 j hj20).1]
          cases ht : C.1 j with
          | false =>
            rw [bI_f (by decide), if_pos z0I]
            exact hno (by simp [fh9, ht])
          | true =>
            obtain ⟨a1, a2, -⟩ := (h.1 j hj20).2 ht
            rw [bI_t rfl, if_neg z1I]
            refine ⟨vi_n hj20 (by decide), ?_⟩
            rw [a2]
            by_cases h2 : C.2.2.1 j = par
            · rw [if_pos (ti_eq.mpr h2)]
              refine ⟨vi_n hj20 (by decide), ?_⟩
              rw [a1]
              by_cases h3 : C.2.1 j = lab
              · rw [if_pos (ti_eq.mpr h3)]
                have := hn true (by rw [hs, hb]; simp [fh9, h1, ht, h2, h3])
                rw [bI_t rfl] at this
                exact this
              · rw [if_neg (fun q => h3 (ti_eq.mp q))]
                exact hno (by simp [fh9, h3])
            · rw [if_neg (fun q => h2 (ti_eq.mp q))]
              exact hno (by simp [fh9, h2])
  have := key np 0 (by omega)
  exact this
def pl9 (C : CS) (par : Int32) : Bool := decide (par = -1) || C.1 par.toNatClampNeg
theorem s_isPlace {n : Nat} {ρ : RH} {C : CS} {par : Int32} {post : Int32 → Prop} (h : RSC n ρ C) (hp : par = -1 ∨ ∃ q, q < 20 ∧ par = nI q) (k : post (bI (pl9 C par = true))) : wpX7_isPlace ρ par post := by
  unfold wpX7_isPlace
  rcases hp with rfl | ⟨q, hq, rfl⟩
  · rw [if_pos ti_m1]
    rw [bI_t (by simp [pl9])] at k
    exact k
  · have hc : (nI q).toNatClampNeg = q := cl_n (by omega)
    rw [ti_n (by omega), if_neg (by omega)]
    refine ⟨vi_n hq (by decide), ?_⟩
    rw [hc, (h.1 q hq).1]
    have hm : nI q ≠ -1 := nI_m1 (by omega)
    cases ht : C.1 q with
    | true =>
      rw [bI_t rfl, if_neg z1I]
      rw [bI_t (by simp [pl9, hc, ht])] at k
      exact k
    | false =>
      rw [bI_f (by decide), if_pos z0I]
      rw [bI_f (by simp [pl9, hc, ht, hm])] at k
      exact k
/-- whether one is the other or in it, up to a depth -/
def win9 (pa : Nat → Int32) : Nat → Int32 → Int32 → Bool
  | 0, a, q => decide (a = q)
  | f + 1, a, q => decide (a = q) || (!decide (a = -1) && win9 pa f (pa a.toNatClampNeg) q)
/-- a chain of provisions that are there, up to the top -/
def chT (C : CS) : Nat → Int32 → Prop
  | 0, a => a = -1
  | f + 1, a => a = -1 ∨ ∃ p, p < 20 ∧ a = nI p ∧ C.1 p = true ∧ chT C f (C.2.2.1 p)
theorem s_isWithin {n : Nat} {ρ : RH} {C : CS} {q : Int32} {post : Int32 → Prop} (h : RSC n ρ C) (hq : q ≠ -1) : ∀ (f : Nat) (a0 a : Int32), chT C f a → post (bI (win9 C.2.2.1 f a q = true)) → wX7_isWithin_2 a0 q post (f + 1) ρ a := by
  intro f
  induction f with
  | zero =>
    intro a0 a ha k
    have ha : a = -1 := ha
    subst ha
    unfold wX7_isWithin_2 jX7_isWithin_22
    have hne : ¬ ((-1 : Int32)).toInt = q.toInt := fun t => hq (ti_eq.mp t).symm
    rw [if_pos ti_m1, if_neg hne]
    rw [bI_f (by simp [win9, Ne.symm hq])] at k
    exact k
  | succ f ih =>
    intro a0 a ha k
    rcases ha with rfl | ⟨p, hp, rfl, ht, hr⟩
    · unfold wX7_isWithin_2 jX7_isWithin_22
      have hne : ¬ ((-1 : Int32)).toInt = q.toInt := fun t => hq (ti_eq.mp t).symm
      rw [if_pos ti_m1, if_neg hne]
      rw [bI_f (by simp [win9, Ne.symm hq])] at k
      exact k
    · have hc : (nI p).toNatClampNeg = p := cl_n (by omega)
      have hm : nI p ≠ -1 := nI_m1 (by omega)
      unfold wX7_isWithin_2
      rw [if_neg (fun t => hm (ti_eq.mp (t.trans ti_m1.symm)))]
      by_cases e : nI p = q
      · rw [if_pos (ti_eq.mpr e)]
        unfold jX7_isWithin_22
        rw [if_pos (ti_eq.mpr e)]
        rw [bI_t (by simp [win9, e])] at k
        exact k
      · rw [if_neg (fun t => e (ti_eq.mp t))]
        refine ⟨vi_n hp (by decide), ?_⟩
        rw [hc, ((h.1 p hp).2 ht).2.1]
        refine ih a0 _ hr ?_
        have e9 : win9 C.2.2.1 (f + 1) (nI p) q = win9 C.2.2.1 f (C.2.2.1 p) q := by simp [win9, e, hm, hc]
        rw [e9] at k
        exact k
