/-! The code in its order: the tree of the provisions that are there, walked. -/
def kyN (m : Nat) : Nat := 1000 * (m / 1000) + (if m % 1000 < 27 then 27 * (m % 1000) else m % 1000)
def lbN (C : CS) (p : Nat) : Nat := (C.2.1 p).toNatClampNeg
def ck (C : CS) (p : Nat) : Int := (kyN (lbN C p) : Int)
theorem kyN_lt {m : Nat} (h : m < 100000) : kyN m < 100000 := by
  unfold kyN
  split <;> omega
theorem kyN_inj {a b : Nat} (ha : a % 1000 = 0 ∨ a % 1000 % 27 ≠ 0) (hb : b % 1000 = 0 ∨ b % 1000 % 27 ≠ 0) (h : kyN a = kyN b) : a = b := by
  have ea := Nat.div_add_mod a 1000
  have eb := Nat.div_add_mod b 1000
  have la := Nat.mod_lt a (show 0 < 1000 by decide)
  have lb := Nat.mod_lt b (show 0 < 1000 by decide)
  unfold kyN at h
  generalize a % 1000 = r at *
  generalize a / 1000 = s at *
  generalize b % 1000 = r2 at *
  generalize b / 1000 = s2 at *
  by_cases c1 : r < 27
  · rw [if_pos c1] at h
    by_cases c2 : r2 < 27
    · rw [if_pos c2] at h; omega
    · rw [if_neg c2] at h
      have e1 : s = s2 := by omega
      subst e1
      have e2 : r2 = 27 * r := by omega
      subst e2
      rw [Nat.mul_mod_right] at hb
      omega
  · rw [if_neg c1] at h
    by_cases c2 : r2 < 27
    · rw [if_pos c2] at h
      have e1 : s = s2 := by omega
      subst e1
      have e2 : r = 27 * r2 := by omega
      subst e2
      rw [Nat.mul_mod_right] at ha
      omega
    · rw [if_neg c2] at h; omega
theorem okl_lb {C : CS} {p : Nat} (h : okl (C.2.1 p)) : C.2.1 p = nI (lbN C p) ∧ 1000 ≤ lbN C p ∧ lbN C p < 100000 ∧ (lbN C p % 1000 = 0 ∨ lbN C p % 1000 % 27 ≠ 0) := by
  obtain ⟨m, h1, h2, h3, h4⟩ := h
  have : lbN C p = m := by unfold lbN; rw [h4, cl_n (by omega)]
  rw [this]
  exact ⟨h4, h1, h2, h3⟩
theorem ck_inj {C : CS} {p q : Nat} (hp : okl (C.2.1 p)) (hq : okl (C.2.1 q)) (h : ck C p = ck C q) : C.2.1 p = C.2.1 q := by
  obtain ⟨a1, a2, a3, a4⟩ := okl_lb hp
  obtain ⟨b1, b2, b3, b4⟩ := okl_lb hq
  have : kyN (lbN C p) = kyN (lbN C q) := by unfold ck at h; omega
  rw [a1, b1, kyN_inj a4 b4 this]
theorem ck_nn {C : CS} {p : Nat} : (-1 : Int) < ck C p := by unfold ck; omega
/-- a provision in o, behind b -/
def chl (C : CS) (o : Int32) (b : Int) (p : Nat) : Bool := C.1 p && (decide (C.2.2.1 p = o) && decide (b < ck C p))
theorem chl_iff {C : CS} {o : Int32} {b : Int} {p : Nat} : chl C o b p = true ↔ C.1 p = true ∧ C.2.2.1 p = o ∧ b < ck C p := by
  unfold chl
  simp only [Bool.and_eq_true, decide_eq_true_eq]
/-- the first of these among the first j -/
def nxs (C : CS) (o : Int32) (b : Int) : Nat → Option Nat
  | 0 => none
  | j + 1 => if chl C o b j = true then (match nxs C o b j with | none => some j | some m => if ck C j < ck C m then some j else some m) else nxs C o b j
theorem nxs_none {C : CS} {o : Int32} {b : Int} : ∀ {j : Nat}, nxs C o b j = none → ∀ k, k < j → chl C o b k = false
  | 0, _, k, hk => absurd hk (Nat.not_lt_zero k)
  | j + 1, h, k, hk => by
    simp only [nxs] at h
    split at h
    · split at h
      · cases h
      · split at h <;> cases h
    · next c =>
      by_cases e : k = j
      · subst e; simpa using c
      · exact nxs_none h k (by omega)
theorem nxs_some {C : CS} {o : Int32} {b : Int} : ∀ {j m : Nat}, nxs C o b j = some m → m < j ∧ chl C o b m = true ∧ ∀ k, k < j → chl C o b k = true → ck C m ≤ ck C k
  | 0, _, h => by cases h
  | j + 1, m, h => by
    simp only [nxs] at h
    split at h
    · next c =>
      split at h
      · next e =>
        cases h
        refine ⟨by omega, c, fun k hk hc => ?_⟩
        by_cases q : k = j
        · subst q; exact Int.le_refl _
        · have := nxs_none e k (by omega)
          rw [hc] at this
          cases this
      · next m0 e =>
        obtain ⟨h1, h2, h3⟩ := nxs_some e
        split at h
        · next l =>
          cases h
          refine ⟨by omega, c, fun k hk hc => ?_⟩
          by_cases q : k = j
          · subst q; exact Int.le_refl _
          · have := h3 k (by omega) hc
            omega
        · next l =>
          cases h
          refine ⟨by omega, h2, fun k hk hc => ?_⟩
          by_cases q : k = j
          · subst q; omega
          · exact h3 k (by omega) hc
    · next c =>
      obtain ⟨h1, h2, h3⟩ := nxs_some h
      refine ⟨by omega, h2, fun k hk hc => ?_⟩
      by_cases q : k = j
      · subst q; exact absurd hc c
      · exact h3 k (by omega) hc
theorem nxs_ext {C : CS} {o : Int32} {b : Int} {j : Nat} : ∀ {n : Nat}, j ≤ n → (∀ k, j ≤ k → k < n → C.1 k = false) → nxs C o b n = nxs C o b j
  | 0, h, _ => by have : j = 0 := by omega
                  rw [this]
  | n + 1, h, hf => by
    by_cases e : j = n + 1
    · rw [e]
    · have hn : ¬ chl C o b n = true := by
        intro q
        have := (chl_iff.mp q).1
        rw [hf n (by omega) (by omega)] at this
        cases this
      simp only [nxs, if_neg hn]
      exact nxs_ext (by omega) (fun k h1 h2 => hf k h1 (by omega))
def nx9 (C : CS) (o : Int32) (b : Int) : Option Nat := nxs C o b 20
/-- how deep one stands -/
def dp9 (pa : Nat → Int32) : Nat → Int32 → Nat
  | 0, _ => 0
  | f + 1, a => if a = -1 then 0 else dp9 pa f (pa a.toNatClampNeg) + 1
theorem dp9_up {C : CS} : ∀ (f : Nat) (a : Int32), chT C f a → dp9 C.2.2.1 (f + 1) a = dp9 C.2.2.1 f a := by
  intro f
  induction f with
  | zero =>
    intro a h
    have h : a = -1 := h
    subst h
    rfl
  | succ f ih =>
    intro a h
    rcases h with rfl | ⟨p, h1, rfl, h3, h4⟩
    · rfl
    · have hc : (nI p).toNatClampNeg = p := cl_n (by omega)
      have hm : nI p ≠ -1 := nI_m1 (by omega)
      have e : dp9 C.2.2.1 (f + 1) (C.2.2.1 p) = dp9 C.2.2.1 f (C.2.2.1 p) := ih _ h4
      show (if nI p = -1 then 0 else dp9 C.2.2.1 (f + 1) (C.2.2.1 (nI p).toNatClampNeg) + 1) = (if nI p = -1 then 0 else dp9 C.2.2.1 f (C.2.2.1 (nI p).toNatClampNeg) + 1)
      rw [hc, e]
abbrev dep (C : CS) (a : Int32) : Nat := dp9 C.2.2.1 20 a
abbrev wi (C : CS) (a : Int32) (q : Nat) : Bool := win9 C.2.2.1 20 a (nI q)
theorem INV.par {np p : Nat} {C : CS} (hI : INV np C) (hp : p < 20) (ht : C.1 p = true) : chT C 19 (C.2.2.1 p) := by
  have hm : nI p ≠ -1 := nI_m1 (by omega)
  rcases hI.2 p hp ht with e | ⟨r, h1, h2, h3, h4⟩
  · exact absurd e hm
  · have : p = r := nI_inj (by omega) (by omega) h2
    subst this
    exact h4
theorem dep_rec {np p : Nat} {C : CS} (hI : INV np C) (hp : p < 20) (ht : C.1 p = true) : dep C (nI p) = dep C (C.2.2.1 p) + 1 := by
  have hc : (nI p).toNatClampNeg = p := cl_n (by omega)
  have hm : nI p ≠ -1 := nI_m1 (by omega)
  have := dp9_up 19 _ (hI.par hp ht)
  show (if nI p = -1 then 0 else dp9 C.2.2.1 19 (C.2.2.1 (nI p).toNatClampNeg) + 1) = _
  rw [if_neg hm, hc, ← this]
theorem wi_rec {np p q : Nat} {C : CS} (hI : INV np C) (hp : p < 20) (ht : C.1 p = true) (hq : q < 20) : wi C (nI p) q = true ↔ p = q ∨ wi C (C.2.2.1 p) q = true := by
  have hc : (nI p).toNatClampNeg = p := cl_n (by omega)
  have hm : nI p ≠ -1 := nI_m1 (by omega)
  have hqm : nI q ≠ -1 := nI_m1 (by omega)
  have := win_up hqm 19 _ (hI.par hp ht)
  have e : wi C (nI p) q = (decide (nI p = nI q) || (!decide (nI p = -1) && win9 C.2.2.1 19 (C.2.2.1 (nI p).toNatClampNeg) (nI q))) := rfl
  rw [e, hc, ← this]
  simp only [hm, decide_false, Bool.not_false, Bool.true_and, Bool.or_eq_true, decide_eq_true_eq]
  constructor
  · rintro (h | h)
    · exact Or.inl (nI_inj (by omega) (by omega) h)
    · exact Or.inr h
  · rintro (rfl | h)
    · exact Or.inl rfl
    · exact Or.inr h
theorem wi_top {q : Nat} {C : CS} (hq : q < 20) : wi C (-1) q = false := by
  have hqm : nI q ≠ -1 := nI_m1 (by omega)
  show (decide ((-1 : Int32) = nI q) || (!decide ((-1 : Int32) = -1) && _)) = false
  simp [Ne.symm hqm]
theorem ch_ind {np : Nat} {C : CS} (hI : INV np C) {P : Nat → Prop} (h0 : ∀ p, p < 20 → C.1 p = true → C.2.2.1 p = -1 → P p) (h1 : ∀ p r, p < 20 → C.1 p = true → r < 20 → C.1 r = true → C.2.2.1 p = nI r → P r → P p) : ∀ p, p < 20 → C.1 p = true → P p := by
  have : ∀ f p, p < 20 → C.1 p = true → chT C f (nI p) → P p := by
    intro f
    induction f with
    | zero => intro p hp _ h; exact absurd h (nI_m1 (by omega))
    | succ f ih =>
      intro p hp ht h
      rcases h with h | ⟨r, a, b, c, d⟩
      · exact absurd h (nI_m1 (by omega))
      · have e : p = r := nI_inj (by omega) (by omega) b
        subst e
        rcases INV_out hI hp ht with q | ⟨r, q1, q2, q3⟩
        · exact h0 p hp ht q
        · rw [q2] at d
          exact h1 p r hp ht q1 q3 q2 (ih r q1 q3 d)
  exact fun p hp ht => this 20 p hp ht (hI.2 p hp ht)
theorem wi_self {np p : Nat} {C : CS} (hI : INV np C) (hp : p < 20) (ht : C.1 p = true) : wi C (nI p) p = true := (wi_rec hI hp ht hp).mpr (Or.inl rfl)
theorem wi_dep {np q : Nat} {C : CS} (hI : INV np C) (hq : q < 20) : ∀ p, p < 20 → C.1 p = true → wi C (nI p) q = true → p ≠ q → dep C (nI q) < dep C (nI p) := by
  refine ch_ind hI (fun p hp ht e h hne => ?_) (fun p r hp ht hr hrt e ih h hne => ?_)
  · rcases (wi_rec hI hp ht hq).mp h with h | h
    · exact absurd h hne
    · rw [e, wi_top hq] at h; cases h
  · rcases (wi_rec hI hp ht hq).mp h with h | h
    · exact absurd h hne
    · rw [e] at h
      rw [dep_rec hI hp ht, e]
      by_cases c : r = q
      · subst c; omega
      · have := ih h c; omega
theorem wi_one {np a b : Nat} {C : CS} (hI : INV np C) (ha : a < 20) (hb : b < 20) (hd : dep C (nI a) = dep C (nI b)) : ∀ p, p < 20 → C.1 p = true → wi C (nI p) a = true → wi C (nI p) b = true → a = b := by
  refine ch_ind hI (fun p hp ht e h1 h2 => ?_) (fun p r hp ht hr hrt e ih h1 h2 => ?_)
  · rcases (wi_rec hI hp ht ha).mp h1 with h | h
    · subst h
      by_cases c : p = b
      · exact c
      · have := wi_dep hI hb p hp ht h2 c; omega
    · rw [e, wi_top ha] at h; cases h
  · rcases (wi_rec hI hp ht ha).mp h1 with h | h
    · subst h
      by_cases c : p = b
      · exact c
      · have := wi_dep hI hb p hp ht h2 c; omega
    · rcases (wi_rec hI hp ht hb).mp h2 with h' | h'
      · subst h'
        by_cases c : p = a
        · exact c.symm
        · have := wi_dep hI ha p hp ht h1 c; omega
      · rw [e] at h h'
        exact ih h h'
theorem wi_kid {np c : Nat} {C : CS} (hI : INV np C) (hc : c < 20) : ∀ p, p < 20 → C.1 p = true → wi C (nI p) c = true → p ≠ c → ∃ k, k < 20 ∧ C.1 k = true ∧ C.2.2.1 k = nI c ∧ wi C (nI p) k = true := by
  refine ch_ind hI (fun p hp ht e h hne => ?_) (fun p r hp ht hr hrt e ih h hne => ?_)
  · rcases (wi_rec hI hp ht hc).mp h with h | h
    · exact absurd h hne
    · rw [e, wi_top hc] at h; cases h
  · rcases (wi_rec hI hp ht hc).mp h with h | h
    · exact absurd h hne
    · rw [e] at h
      by_cases q : r = c
      · subst q
        exact ⟨p, hp, ht, e, wi_self hI hp ht⟩
      · obtain ⟨k, k1, k2, k3, k4⟩ := ih h q
        exact ⟨k, k1, k2, k3, (wi_rec hI hp ht k1).mpr (Or.inr (by rw [e]; exact k4))⟩
theorem wi_up {np c k : Nat} {C : CS} (hI : INV np C) (hc : c < 20) (hct : C.1 c = true) (hk : k < 20) (hkt : C.1 k = true) (e : C.2.2.1 k = nI c) : ∀ p, p < 20 → C.1 p = true → wi C (nI p) k = true → wi C (nI p) c = true := by
  refine ch_ind hI (fun p hp ht ep h => ?_) (fun p r hp ht hr hrt ep ih h => ?_)
  · rcases (wi_rec hI hp ht hk).mp h with h | h
    · subst h
      exact (wi_rec hI hp ht hc).mpr (Or.inr (by rw [e]; exact wi_self hI hc hct))
    · rw [ep, wi_top hk] at h; cases h
  · rcases (wi_rec hI hp ht hk).mp h with h | h
    · subst h
      exact (wi_rec hI hp ht hc).mpr (Or.inr (by rw [e]; exact wi_self hI hc hct))
    · rw [ep] at h
      exact (wi_rec hI hp ht hc).mpr (Or.inr (by rw [ep]; exact ih h))
theorem wi_all {np : Nat} {C : CS} (hI : INV np C) : ∀ p, p < 20 → C.1 p = true → ∃ k, k < 20 ∧ C.1 k = true ∧ C.2.2.1 k = -1 ∧ wi C (nI p) k = true := by
  refine ch_ind hI (fun p hp ht e => ⟨p, hp, ht, e, wi_self hI hp ht⟩) (fun p r hp ht hr hrt e ih => ?_)
  obtain ⟨k, k1, k2, k3, k4⟩ := ih
  exact ⟨k, k1, k2, k3, (wi_rec hI hp ht k1).mpr (Or.inr (by rw [e]; exact k4))⟩
/-- what stands below o, through one behind b -/
def thr (C : CS) (o : Int32) (b : Int) (p : Nat) : Bool := C.1 p && any9 (fun c => chl C o b c && wi C (nI p) c) 20
theorem thr_iff {C : CS} {o : Int32} {b : Int} {p : Nat} : thr C o b p = true ↔ C.1 p = true ∧ ∃ c, c < 20 ∧ C.1 c = true ∧ C.2.2.1 c = o ∧ b < ck C c ∧ wi C (nI p) c = true := by
  unfold thr
  rw [Bool.and_eq_true, any9_iff]
  constructor
  · rintro ⟨h1, c, h2, h3⟩
    rw [Bool.and_eq_true, chl_iff] at h3
    exact ⟨h1, c, h2, h3.1.1, h3.1.2.1, h3.1.2.2, h3.2⟩
  · rintro ⟨h1, c, h2, h3, h4, h5, h6⟩
    exact ⟨h1, c, h2, by rw [Bool.and_eq_true, chl_iff]; exact ⟨⟨h3, h4, h5⟩, h6⟩⟩
def sbw9 (C : CS) (o : Int32) (b : Int) : Nat := cn9 (thr C o b) 20
theorem cn9_congr {f g : Nat → Bool} : ∀ {n : Nat}, (∀ k, k < n → f k = g k) → cn9 f n = cn9 g n
  | 0, _ => rfl
  | n + 1, h => by
    show cn9 f n + _ = cn9 g n + _
    rw [cn9_congr (fun k hk => h k (by omega)), h n (by omega)]
theorem cn9_add {f g h : Nat → Bool} : ∀ {n : Nat}, (∀ k, k < n → (f k = true ↔ g k = true ∨ h k = true) ∧ ¬ (g k = true ∧ h k = true)) → cn9 f n = cn9 g n + cn9 h n
  | 0, _ => rfl
  | n + 1, hh => by
    have ih := cn9_add (fun k hk => hh k (by omega) : ∀ k, k < n → (f k = true ↔ g k = true ∨ h k = true) ∧ ¬ (g k = true ∧ h k = true))
    obtain ⟨h1, h2⟩ := hh n (by omega)
    have e : f n = (g n || h n) := by
      rw [Bool.eq_iff_iff, Bool.or_eq_true]
      exact h1
    show cn9 f n + (if f n = true then 1 else 0) = cn9 g n + (if g n = true then 1 else 0) + (cn9 h n + (if h n = true then 1 else 0))
    rw [e]
    cases a : g n <;> cases b : h n
    · show cn9 f n + 0 = cn9 g n + 0 + (cn9 h n + 0); omega
    · show cn9 f n + 1 = cn9 g n + 0 + (cn9 h n + 1); omega
    · show cn9 f n + 1 = cn9 g n + 1 + (cn9 h n + 0); omega
    · exact absurd ⟨a, b⟩ h2
theorem cn9_zero {f : Nat → Bool} : ∀ {n : Nat}, (∀ k, k < n → f k = false) → cn9 f n = 0
  | 0, _ => rfl
  | n + 1, h => by
    show cn9 f n + _ = 0
    rw [cn9_zero (fun k hk => h k (by omega)), h n (by omega)]
    rfl
theorem cn9_one {c : Nat} : ∀ {n : Nat}, c < n → cn9 (fun p => decide (p = c)) n = 1
  | 0, h => absurd h (Nat.not_lt_zero c)
  | n + 1, h => by
    show cn9 _ n + _ = 1
    by_cases e : n = c
    · rw [cn9_zero (fun k hk => by simp; omega)]
      simp [e]
    · rw [cn9_one (by omega)]
      simp [e]
theorem sbw9_none {C : CS} {o : Int32} {b : Int} (h : nx9 C o b = none) : sbw9 C o b = 0 := by
  refine cn9_zero (fun p hp => ?_)
  cases e : thr C o b p with
  | false => rfl
  | true =>
    obtain ⟨h1, c, h2, h3, h4, h5, h6⟩ := thr_iff.mp e
    have := nxs_none h c h2
    rw [chl_iff.mpr ⟨h3, h4, h5⟩] at this
    cases this
theorem sbw9_some {n np c : Nat} {ρ : RH} {J : List Nat} {C : CS} {o : Int32} {b : Int} (hG : GD n np ρ J C) (h : nx9 C o b = some c) : sbw9 C o b = 1 + sbw9 C (nI c) (-1) + sbw9 C o (ck C c) := by
  have hI := hG.1
  obtain ⟨hc, h2, hmin⟩ := nxs_some h
  obtain ⟨hct, hco, hcb⟩ := chl_iff.mp h2
  have hkk : ∀ k, k < 20 → C.1 k = true → C.2.2.1 k = o → b < ck C k → k ≠ c → ck C c < ck C k := fun k hk ht ho hb hne => by
    have h3 := hmin k hk (chl_iff.mpr ⟨ht, ho, hb⟩)
    by_cases e : ck C c = ck C k
    · have := ck_inj (hG.2.2.1 c hc hct) (hG.2.2.1 k hk ht) e
      exact absurd (hG.2.2.2.1 c k hc hk hct ht (by rw [hco, ho]) this).symm hne
    · omega
  have hdk : ∀ k, k < 20 → C.1 k = true → C.2.2.1 k = o → dep C (nI k) = dep C (nI c) := fun k hk ht ho => by
    rw [dep_rec hI hk ht, dep_rec hI hc hct, ho, hco]
  have e1 : sbw9 C o b = cn9 (fun p => decide (p = c) || thr C (nI c) (-1) p) 20 + sbw9 C o (ck C c) := by
    refine cn9_add (fun p hp => ⟨?_, ?_⟩)
    · rw [Bool.or_eq_true, decide_eq_true_eq, thr_iff, thr_iff, thr_iff]
      constructor
      · rintro ⟨h1, k, k1, k2, k3, k4, k5⟩
        by_cases e : k = c
        · subst e
          by_cases e2 : p = k
          · exact Or.inl (Or.inl e2)
          · obtain ⟨q, q1, q2, q3, q4⟩ := wi_kid hI k1 p hp h1 k5 e2
            exact Or.inl (Or.inr ⟨h1, q, q1, q2, q3, ck_nn, q4⟩)
        · exact Or.inr ⟨h1, k, k1, k2, k3, hkk k k1 k2 k3 k4 e, k5⟩
      · rintro ((rfl | ⟨h1, k, k1, k2, k3, k4, k5⟩) | ⟨h1, k, k1, k2, k3, k4, k5⟩)
        · exact ⟨hct, p, hc, hct, hco, hcb, wi_self hI hc hct⟩
        · exact ⟨h1, c, hc, hct, hco, hcb, wi_up hI hc hct k1 k2 k3 p hp h1 k5⟩
        · exact ⟨h1, k, k1, k2, k3, by omega, k5⟩
    · rintro ⟨h1, h2⟩
      obtain ⟨p1, k, k1, k2, k3, k4, k5⟩ := thr_iff.mp h2
      have hwc : wi C (nI p) c = true := by
        rw [Bool.or_eq_true, decide_eq_true_eq] at h1
        rcases h1 with rfl | h1
        · exact wi_self hI hc hct
        · obtain ⟨-, q, q1, q2, q3, q4, q5⟩ := thr_iff.mp h1
          exact wi_up hI hc hct q1 q2 q3 p hp p1 q5
      have := wi_one hI k1 hc (hdk k k1 k2 k3) p hp p1 k5 hwc
      subst this
      omega
  have e2 : cn9 (fun p => decide (p = c) || thr C (nI c) (-1) p) 20 = cn9 (fun p => decide (p = c)) 20 + cn9 (thr C (nI c) (-1)) 20 := by
    refine cn9_add (fun p hp => ⟨by rw [Bool.or_eq_true], ?_⟩)
    rintro ⟨h1, h2⟩
    have h1 : p = c := by simpa using h1
    subst h1
    obtain ⟨p1, k, k1, k2, k3, k4, k5⟩ := thr_iff.mp h2
    have d1 := dep_rec hI k1 k2
    rw [k3] at d1
    have hne : p ≠ k := fun e => by subst e; omega
    have := wi_dep hI k1 p hp p1 k5 hne
    omega
  rw [e1, e2, cn9_one hc]
  rfl
/-- how many are still to come -/
def mm9 (C : CS) : Nat → Int32 → Int → Nat
  | 0, o, b => sbw9 C o b
  | f + 1, o, b => sbw9 C o b + (if o = -1 then 0 else mm9 C f (C.2.2.1 o.toNatClampNeg) (ck C o.toNatClampNeg))
theorem mm9_up {C : CS} : ∀ (f : Nat) (o : Int32) (b : Int), chT C f o → mm9 C (f + 1) o b = mm9 C f o b := by
  intro f
  induction f with
  | zero =>
    intro a b h
    have h : a = -1 := h
    subst h
    rfl
  | succ f ih =>
    intro a b h
    rcases h with rfl | ⟨p, h1, rfl, h3, h4⟩
    · rfl
    · have hc : (nI p).toNatClampNeg = p := cl_n (by omega)
      have e : mm9 C (f + 1) (C.2.2.1 p) (ck C p) = mm9 C f (C.2.2.1 p) (ck C p) := ih _ _ h4
      show sbw9 C (nI p) b + (if nI p = -1 then 0 else mm9 C (f + 1) (C.2.2.1 (nI p).toNatClampNeg) (ck C (nI p).toNatClampNeg)) = sbw9 C (nI p) b + (if nI p = -1 then 0 else mm9 C f (C.2.2.1 (nI p).toNatClampNeg) (ck C (nI p).toNatClampNeg))
      rw [hc, e]
theorem mm_rec {np p : Nat} {C : CS} {b : Int} (hI : INV np C) (hp : p < 20) (ht : C.1 p = true) : mm9 C 20 (nI p) b = sbw9 C (nI p) b + mm9 C 20 (C.2.2.1 p) (ck C p) := by
  have hc : (nI p).toNatClampNeg = p := cl_n (by omega)
  have hm : nI p ≠ -1 := nI_m1 (by omega)
  have := mm9_up 19 _ (ck C p) (hI.par hp ht)
  show sbw9 C (nI p) b + (if nI p = -1 then 0 else mm9 C 19 (C.2.2.1 (nI p).toNatClampNeg) (ck C (nI p).toNatClampNeg)) = _
  rw [if_neg hm, hc, ← this]
theorem mm_top {C : CS} {b : Int} : mm9 C 20 (-1) b = sbw9 C (-1) b := by
  show sbw9 C (-1) b + (if (-1 : Int32) = -1 then 0 else mm9 C 19 (C.2.2.1 (-1 : Int32).toNatClampNeg) (ck C (-1 : Int32).toNatClampNeg)) = sbw9 C (-1) b
  rw [if_pos rfl, Nat.add_zero]
/-- a place of the walk: the top, or a provision that is there -/
def plc (C : CS) (o : Int32) : Prop := o = -1 ∨ ∃ p, p < 20 ∧ o = nI p ∧ C.1 p = true
def stp (C : CS) (o : Int32) (b : Int) : Nat := 2 * mm9 C 20 o b + dep C o + 1
def wk9 (C : CS) : Nat → Int32 → Int → List Nat
  | 0, _, _ => []
  | f + 1, o, b => match nx9 C o b with
    | some c => c :: wk9 C f (nI c) (-1)
    | none => if o = -1 then [] else wk9 C f (C.2.2.1 o.toNatClampNeg) (ck C o.toNatClampNeg)
def wkf (C : CS) (o : Int32) (b : Int) : List Nat := wk9 C (stp C o b) o b
theorem nx_plc {C : CS} {o : Int32} {b : Int} {c : Nat} (h : nx9 C o b = some c) : c < 20 ∧ C.1 c = true ∧ C.2.2.1 c = o := by
  obtain ⟨hc, h2, -⟩ := nxs_some h
  obtain ⟨hct, hco, -⟩ := chl_iff.mp h2
  exact ⟨hc, hct, hco⟩
theorem mm_some {n np c : Nat} {ρ : RH} {J : List Nat} {C : CS} {o : Int32} {b : Int} (hG : GD n np ρ J C) (ho : plc C o) (h : nx9 C o b = some c) : mm9 C 20 o b = 1 + mm9 C 20 (nI c) (-1) := by
  obtain ⟨hc, hct, hco⟩ := nx_plc h
  have h1 := sbw9_some hG h
  rw [mm_rec hG.1 hc hct, hco]
  rcases ho with rfl | ⟨p, hp, rfl, ht⟩
  · rw [mm_top, mm_top, h1]; omega
  · rw [mm_rec hG.1 hp ht, mm_rec hG.1 hp ht, h1]
    omega
theorem stp_some {n np c : Nat} {ρ : RH} {J : List Nat} {C : CS} {o : Int32} {b : Int} (hG : GD n np ρ J C) (ho : plc C o) (h : nx9 C o b = some c) : stp C o b = stp C (nI c) (-1) + 1 := by
  obtain ⟨hc, hct, hco⟩ := nx_plc h
  unfold stp
  rw [mm_some hG ho h, dep_rec hG.1 hc hct, hco]
  omega
theorem stp_none {n np p : Nat} {ρ : RH} {J : List Nat} {C : CS} {b : Int} (hG : GD n np ρ J C) (hp : p < 20) (ht : C.1 p = true) (h : nx9 C (nI p) b = none) : stp C (nI p) b = stp C (C.2.2.1 p) (ck C p) + 1 := by
  unfold stp
  rw [mm_rec hG.1 hp ht, sbw9_none h, dep_rec hG.1 hp ht]
  omega
theorem wkf_some {n np c : Nat} {ρ : RH} {J : List Nat} {C : CS} {o : Int32} {b : Int} (hG : GD n np ρ J C) (ho : plc C o) (h : nx9 C o b = some c) : wkf C o b = c :: wkf C (nI c) (-1) := by
  unfold wkf
  rw [stp_some hG ho h]
  simp only [wk9, h]
theorem wkf_none {n np p : Nat} {ρ : RH} {J : List Nat} {C : CS} {b : Int} (hG : GD n np ρ J C) (hp : p < 20) (ht : C.1 p = true) (h : nx9 C (nI p) b = none) : wkf C (nI p) b = wkf C (C.2.2.1 p) (ck C p) := by
  have hc : (nI p).toNatClampNeg = p := cl_n (by omega)
  have hm : nI p ≠ -1 := nI_m1 (by omega)
  unfold wkf
  rw [stp_none hG hp ht h]
  simp only [wk9, h, if_neg hm, hc]
theorem wkf_end {C : CS} {b : Int} (h : nx9 C (-1) b = none) : wkf C (-1) b = [] := by
  unfold wkf stp
  simp only [wk9, h]
  rfl
theorem plc_par {np p : Nat} {C : CS} (hI : INV np C) (hp : p < 20) (ht : C.1 p = true) : plc C (C.2.2.1 p) := by
  rcases INV_out hI hp ht with h | ⟨r, a, b, c⟩
  · exact Or.inl h
  · exact Or.inr ⟨r, a, b, c⟩
theorem wkf_len {n np : Nat} {ρ : RH} {J : List Nat} {C : CS} (hG : GD n np ρ J C) : ∀ (f : Nat) (o : Int32) (b : Int), plc C o → stp C o b ≤ f → (wkf C o b).length = mm9 C 20 o b ∧ ∀ p ∈ wkf C o b, p < 20 ∧ C.1 p = true := by
  intro f
  induction f with
  | zero => intro o b _ h; unfold stp at h; omega
  | succ f ih =>
    intro o b ho hf
    cases h : nx9 C o b with
    | some c =>
      obtain ⟨hc, hct, hco⟩ := nx_plc h
      have := ih (nI c) (-1) (Or.inr ⟨c, hc, rfl, hct⟩) (by have := stp_some hG ho h; omega)
      rw [wkf_some hG ho h, mm_some hG ho h]
      refine ⟨by rw [List.length_cons, this.1]; omega, fun p hp => ?_⟩
      rcases List.mem_cons.mp hp with rfl | hp
      · exact ⟨hc, hct⟩
      · exact this.2 p hp
    | none =>
      rcases ho with rfl | ⟨p, hp, rfl, ht⟩
      · rw [wkf_end h, mm_top, sbw9_none h]
        exact ⟨rfl, fun p hp => absurd hp List.not_mem_nil⟩
      · have := ih (C.2.2.1 p) (ck C p) (plc_par hG.1 hp ht) (by have := stp_none hG hp ht h; omega)
        rw [wkf_none hG hp ht h, mm_rec hG.1 hp ht, sbw9_none h, Nat.zero_add]
        exact this
/-- the whole code in its order -/
def ls9 (C : CS) : List Nat := wkf C (-1) (-1)
theorem ls9_len {n np : Nat} {ρ : RH} {J : List Nat} {C : CS} (hG : GD n np ρ J C) : (ls9 C).length = cn9 C.1 20 ∧ ∀ p ∈ ls9 C, p < 20 ∧ C.1 p = true := by
  have h := wkf_len hG _ (-1) (-1) (Or.inl rfl) (Nat.le_refl _)
  refine ⟨?_, h.2⟩
  have e : ls9 C = wkf C (-1) (-1) := rfl
  rw [e, h.1, mm_top]
  refine cn9_congr (fun p hp => ?_)
  cases ht : C.1 p with
  | false =>
    cases e : thr C (-1) (-1) p with
    | false => rfl
    | true => have := (thr_iff.mp e).1; rw [ht] at this; cases this
  | true =>
    obtain ⟨k, k1, k2, k3, k4⟩ := wi_all hG.1 p hp ht
    exact thr_iff.mpr ⟨ht, k, k1, k2, k3, ck_nn, k4⟩
theorem ls9_stp {n np : Nat} {ρ : RH} {J : List Nat} {C : CS} (hG : GD n np ρ J C) : stp C (-1) (-1) ≤ 41 ∧ (ls9 C).length ≤ 20 := by
  have h := wkf_len hG _ (-1) (-1) (Or.inl rfl) (Nat.le_refl _)
  have h1 := (ls9_len hG).1
  have h2 := cn9_le (f := C.1) 20
  have e : ls9 C = wkf C (-1) (-1) := rfl
  rw [e] at h1 ⊢
  have e2 : dep C (-1) = 0 := rfl
  unfold stp
  omega
