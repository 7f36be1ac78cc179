/-! What a view tells in all, as one number; a call that is refused changes nothing of it. -/
def al1 (C : CS) (cm : Nat → Int32) : Nat → Nat → Int64 → Int64
  | 0, _, x => x
  | r + 1, k, x => al1 C cm r (k + 1) (((((31 : Int64)) * x) + ((C.2.2.2.2.1 k).toInt64)) + (((7 : Int64)) * ((cm k).toInt64)))
def al2 (C : CS) : Nat → Nat → Int64 → Int64
  | 0, _, x => x
  | r + 1, k, x => al2 C r (k + 1) ((((((31 : Int64)) * x) + ((lb9 C k).toInt64)) + (((7 : Int64)) * ((pa9 C k).toInt64))) + (((3 : Int64)) * ((wc9 C k).toInt64)))
def av9 (C : CS) (cm : Nat → Int32) (cf : Nat → Nat → Bool) (J : List Nat) (a b : Nat) : Int64 := al2 C b 0 (al1 C cm a 0 (pl8 C (ls9 C) 11 + (((31 : Int64)) * ((nI (pcl cf J)).toInt64))))
def AV (n np : Nat) (γ : RH) (d kn te : Int32) (a b : Nat) : Int64 := av9 (vw9 n np γ d kn te) (cm9 γ kn) (cf9 γ kn (vw9 n np γ d kn te)) (or9 γ n d kn te) a b
theorem q_all61 {σ : SG} {ν : NU} {γ ρ : RH} {n np b : Nat} {post : Int64 → Prop} (h : SIM σ ν γ n np) (e3 : ρ 0 3 = nI b) (hb : b ≤ np) : ∀ (r k : Nat) (x : Int64), k + r = b → post (al2 (cv9 n np γ) r k x) → wL_all_61 post (r + 1) σ ν ρ x (nI k) := by
  have h20 := h.h8.2.1
  intro r
  induction r with
  | zero =>
    intro k x hk hp
    unfold wL_all_61
    refine ⟨k14 (i := 3) (by decide), ?_⟩
    rw [show ((3 : Int32)).toNatClampNeg = 3 from rfl, e3, ti_n (by omega), ti_n (by omega), if_neg (by omega)]
    exact hp
  | succ r ih =>
    intro k x hk hp
    unfold wL_all_61
    refine ⟨k14 (i := 3) (by decide), ?_⟩
    rw [show ((3 : Int32)).toNatClampNeg = 3 from rfl, e3, ti_n (by omega), ti_n (by omega), if_pos (by omega)]
    have hin : ¬ ¬ (0 ≤ (nI k).toInt ∧ (nI k).toInt < np) := fun z => z (by rw [ti_n (by omega)]; omega)
    refine y_label h (fun z => absurd z hin) (fun k1 hk1 e1 => y_parent h (fun z => absurd z hin) (fun k2 hk2 e2 => y_words h (fun z => absurd z hin) (fun k3 hk3 e3' => ?_)))
    have q1 : k = k1 := nI_inj (by omega) (by omega) e1
    have q2 : k = k2 := nI_inj (by omega) (by omega) e2
    have q3 : k = k3 := nI_inj (by omega) (by omega) e3'
    subst q1 q2 q3
    rw [nI_1]
    exact ih (k + 1) _ (by omega) hp
theorem q_all18 {σ : SG} {ν : NU} {γ ρ : RH} {n np a b : Nat} {post : Int64 → Prop} (h : SIM σ ν γ n np) (e2 : ρ 0 2 = nI a) (e3 : ρ 0 3 = nI b) (ha : a ≤ n) (hb : b ≤ np) : ∀ (r k : Nat) (x : Int64), k + r = a → post (al2 (cv9 n np γ) b 0 (al1 (cv9 n np γ) (cm9 γ (γ 34 0)) r k x)) → wL_all_18 post (r + 1) σ ν ρ x (nI k) := by
  have h40 := h.h8.1
  intro r
  induction r with
  | zero =>
    intro k x hk hp
    unfold wL_all_18
    refine ⟨k14 (i := 2) (by decide), ?_⟩
    rw [show ((2 : Int32)).toNatClampNeg = 2 from rfl, e2, ti_n (by omega), ti_n (by omega), if_neg (by omega)]
    exact ⟨b + 1, q_all61 h e3 hb b 0 x (by omega) hp⟩
  | succ r ih =>
    intro k x hk hp
    unfold wL_all_18
    refine ⟨k14 (i := 2) (by decide), ?_⟩
    rw [show ((2 : Int32)).toNatClampNeg = 2 from rfl, e2, ti_n (by omega), ti_n (by omega), if_pos (by omega)]
    have hin : ¬ ¬ (0 ≤ (nI k).toInt ∧ (nI k).toInt < n) := fun z => z (by rw [ti_n (by omega)]; omega)
    refine y_state h (fun z => absurd z hin) (fun k1 hk1 e1 => y_commences h (fun z => absurd z hin) (fun k2 hk2 e2' => ?_))
    have q1 : k = k1 := nI_inj (by omega) (by omega) e1
    have q2 : k = k2 := nI_inj (by omega) (by omega) e2'
    subst q1 q2
    rw [nI_1]
    exact ih (k + 1) _ (by omega) hp
theorem q_all {σ : SG} {ν : NU} {γ ρ : RH} {n np a b : Nat} {post : Int64 → Prop} (h : SIM σ ν γ n np) (e2 : ρ 0 2 = nI a) (e3 : ρ 0 3 = nI b) (ha : a ≤ n) (hb : b ≤ np) (k : post (AV n np γ (γ 33 0) (γ 34 0) (γ 35 0) a b)) : wpL_all σ ν ρ post := by
  unfold wpL_all
  refine y_print h (y_conflicts h ⟨a + 1, ?_⟩)
  exact q_all18 h e2 e3 ha hb a 0 _ (by omega) k
theorem lcmp_same {x : Int64} : (lg_cmp x x).toInt = 0 := by
  unfold lg_cmp
  rw [if_neg (by simp), if_pos rfl]
  decide
