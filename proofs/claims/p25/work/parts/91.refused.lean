/-! What the law must be refused, is refused, and nothing of the view is changed. -/
theorem hx_iob {Q : Int32 → Prop} (h : Q (-1381)) : hx9 IOB Q := Or.inl ⟨rfl, h⟩
theorem hx_iae {Q : Int32 → Prop} (h : Q (-1382)) : hx9 IAE Q := Or.inr (Or.inl ⟨rfl, h⟩)
theorem hx_ise {Q : Int32 → Prop} (h : Q (-1383)) : hx9 ISE Q := Or.inr (Or.inr ⟨rfl, h⟩)
theorem i81 {A B : Prop} (h : A) : if (-1381 : Int32).toInt = (-1381) then A else B := by rw [if_pos (by decide)]; exact h
theorem i82 {A B : Prop} (h : A) : if (-1382 : Int32).toInt = (-1382) then A else B := by rw [if_pos (by decide)]; exact h
theorem i_both {c : Prop} [Decidable c] {A B : Prop} (a : A) (b : B) : if c then A else B := by split <;> assumption
theorem sb_r {c : Int32} {r : Nat} (hr : r ≤ 29) (h1 : -1000 ≤ c.toInt) (h2 : c.toInt ≤ 10000) : (c - nI r).toInt = c.toInt - r := by
  rw [zb_sub (by rw [ti_n (by omega)]; omega) (by rw [ti_n (by omega)]; omega), ti_n (by omega)]
theorem ad_r {c : Int32} {r : Nat} (hr : r ≤ 29) (h1 : -1000 ≤ c.toInt) (h2 : c.toInt ≤ 10000) : (c + nI r).toInt = c.toInt + r := by
  rw [zb_add (by rw [ti_n (by omega)]; omega) (by rw [ti_n (by omega)]; omega), ti_n (by omega)]
def RF (σ : SG) (ν : NU) (γ ρ : RH) (n np : Nat) (x4 x5 : Int32) (x6 : Int64) : Prop := SIM σ ν γ n np ∧ (∃ T : Nat, T ≤ 650 ∧ γ 0 0 = nI T ∧ ρ 0 0 = nI T) ∧ ρ 0 2 = nI n ∧ ρ 0 3 = nI np ∧ (x4 ≠ -1 ∧ ¬ (0 ≤ x4.toInt ∧ x4.toInt < np)) ∧ ¬ (0 ≤ x5.toInt ∧ x5.toInt < n) ∧ x6 = AV n np γ (γ 33 0) (γ 34 0) (γ 35 0) n np
section RFS
variable {σ : SG} {ν : NU} {γ ρ : RH} {n np X : Nat} {x3 x4 x5 : Int32} {x6 : Int64} {post : Int32 → SG → NU → Prop}
theorem okLab_no {a b : Int32} (h : ¬ (1 ≤ a.toInt ∧ a.toInt ≤ 99)) : ¬ okLab a b := by
  rintro ⟨N, L, h1, h2, -, -, e, -⟩
  rw [e, ti_n (by omega)] at h
  omega
theorem okLab_no2 {a b : Int32} (h : ¬ (0 ≤ b.toInt ∧ b.toInt ≤ 728)) : ¬ okLab a b := by
  rintro ⟨N, L, h1, h2, h3, -, -, e⟩
  rw [e, ti_n (by omega)] at h
  omega
theorem hw9_no {C : CS} {p q : Int32} (h : ¬ (0 ≤ p.toInt ∧ p.toInt < np)) (h20 : np ≤ 20) : ¬ hw9 np C p q := by
  rintro ⟨k, j, h1, e, -⟩
  rw [e, ti_n (by omega)] at h
  omega
theorem okd_no {d : Int32} (h : ¬ (0 ≤ d.toInt ∧ d.toInt ≤ 5000)) : ¬ okd d := h
set_option maxRecDepth 100000 in
theorem r870 (h : RF σ ν γ ρ n np x4 x5 x6) (k : post 1 σ ν) : jL_isRefused_870 (nI X) post σ ν ρ x6 1 := by
  obtain ⟨hS, -, e2, e3, -, -, e6⟩ := h
  unfold jL_isRefused_870
  rw [if_neg z1I]
  refine q_all hS e2 e3 (Nat.le_refl _) (Nat.le_refl _) ?_
  rw [e6, if_pos lcmp_same]
  exact k
set_option maxRecDepth 100000 in
theorem r855 (h : RF σ ν γ ρ n np x4 x5 x6) (k : post 1 σ ν) (hnp : 0 < np) {y : Int32} (hy : ¬ (1 ≤ y.toInt ∧ y.toInt ≤ 99)) : jL_isRefused_855 (nI X) post σ ν ρ x6 0 y := by
  have h20 := h.1.h8.2.1
  unfold jL_isRefused_855
  have ok : okI9 n np 4 0 y := ⟨fun z => absurd z (by decide), fun _ => by rw [z0I]; omega, fun z => absurd z (by decide)⟩
  try unfold wpL_does_4
  exact y_instruct h.1 (fun z => absurd ok z) (fun _ _ => hx_iae (i82 (r870 h k))) (fun _ z => absurd (z.2 rfl) (okLab_no hy)) (fun _ z => absurd (z.2 rfl) (okLab_no hy))
set_option maxRecDepth 100000 in
theorem r814 (h : RF σ ν γ ρ n np x4 x5 x6) (k : post 1 σ ν) (hX : X < 2147483648) : jL_isRefused_814 (nI X) post σ ν ρ x3 x4 x6 := by
  have h20 := h.1.h8.2.1
  obtain ⟨hS, -, e2, e3, hx4, -, -⟩ := id h
  unfold jL_isRefused_814
  refine ⟨k14 (i := 3) (by decide), ?_⟩
  rw [show ((3 : Int32)).toNatClampNeg = 3 from rfl, e3, ti_n (by omega)]
  by_cases c : np = 0
  · rw [if_pos (by omega)]
    exact r870 h k
  · rw [if_neg (by omega)]
    have no : ¬ okI9 n np 5 0 x4 := fun z => (z.2.2 rfl).elim hx4.1 hx4.2
    have hr : X % 30 ≤ 29 := by omega
    have er : (nI X) - (nI X) / ((30 : Int32)) * ((30 : Int32)) = nI (X % 30) := md9 (by omega) (by decide) (by decide)
    try unfold wpL_does_4
    refine y_instruct hS (fun _ => hx_iob (i81 (i_both (r855 h k (by omega) (by decide)) (r855 h k (by omega) ?_)))) (fun z => absurd z no) (fun z => absurd z no) (fun z => absurd z no)
    rw [er, sb_r hr (by decide) (by decide), z0I]
    omega
set_option maxRecDepth 100000 in
theorem r802 (h : RF σ ν γ ρ n np x4 x5 x6) (k : post 1 σ ν) (hX : X < 2147483648) (hnp : 0 < np) {y : Int32} (hy : ¬ (1 ≤ y.toInt ∧ y.toInt ≤ 7)) : jL_isRefused_802 (nI X) post σ ν ρ x3 x4 x6 0 y := by
  unfold jL_isRefused_802
  have ok : okI9 n np y 0 0 := ⟨fun z => absurd (by rw [z]; decide) hy, fun _ => by rw [z0I]; omega, fun z => absurd (by rw [z]; decide) hy⟩
  try unfold wpL_does_4
  exact y_instruct h.1 (fun z => absurd ok z) (fun _ _ => hx_iae (i82 (r814 h k hX))) (fun _ z => absurd z.1 hy) (fun _ z => absurd z.1 hy)
theorem t_silent {A B : Prop} (h : B) : if (1 : Int32).toInt = 0 then A else B := by rw [if_neg z1I]; exact h
theorem in_0 (hn : 0 < n) : 0 ≤ (0 : Int32).toInt ∧ (0 : Int32).toInt < n := by rw [z0I]; omega
set_option maxRecDepth 100000 in
theorem r775 (h : RF σ ν γ ρ n np x4 x5 x6) (k : post 1 σ ν) (hX : X < 2147483648) (hn : 0 < n) (hnp : 0 < np) {y : Int32} (hy : ¬ (5 ≤ y.toInt ∧ y.toInt ≤ 5000)) : jL_isRefused_775 (nI X) post σ ν ρ x3 x4 x6 0 y := by
  have hr : X % 30 ≤ 29 := by omega
  have er : (nI X) - (nI X) / ((30 : Int32)) * ((30 : Int32)) = nI (X % 30) := md9 (by omega) (by decide) (by decide)
  have no : ¬ (okd 5 ∧ (5 : Int32).toInt ≤ y.toInt ∧ y.toInt ≤ 5000) := fun z => hy z.2
  unfold jL_isRefused_775
  try unfold wpL_silent_3 wpL_tells_3
  refine y_suspend h.1 (fun z => absurd (in_0 hn) z) (fun _ _ => hx_iae (i82 (i_both (r802 h k hX hnp (by decide)) (r802 h k hX hnp ?_)))) (fun _ _ _ z => absurd z no) (fun _ _ _ z => absurd z no)
  rw [er, sb_r hr (by decide) (by decide), z0I]
  omega
set_option maxRecDepth 100000 in
theorem r742 (h : RF σ ν γ ρ n np x4 x5 x6) (k : post 1 σ ν) (hX : X < 2147483648) (hn : 0 < n) (hnp : 0 < np) {y : Int32} (hy : ¬ (0 ≤ y.toInt ∧ y.toInt ≤ 5000)) : jL_isRefused_742 (nI X) post σ ν ρ x3 x4 x6 0 y := by
  have hr : X % 30 ≤ 29 := by omega
  have er : (nI X) - (nI X) / ((30 : Int32)) * ((30 : Int32)) = nI (X % 30) := md9 (by omega) (by decide) (by decide)
  have no : ¬ (okd y ∧ y.toInt ≤ (5001 : Int32).toInt ∧ (5001 : Int32).toInt ≤ 5000) := fun z => hy z.1
  unfold jL_isRefused_742
  try unfold wpL_silent_3 wpL_tells_3
  refine y_suspend h.1 (fun z => absurd (in_0 hn) z) (fun _ _ => hx_iae (i82 (i_both (r775 h k hX hn hnp (by decide)) (r775 h k hX hn hnp ?_)))) (fun _ _ _ z => absurd z no) (fun _ _ _ z => absurd z no)
  rw [er, sb_r hr (by decide) (by decide)]
  have : (4 : Int32).toInt = 4 := by decide
  omega
set_option maxRecDepth 100000 in
theorem r712 (h : RF σ ν γ ρ n np x4 x5 x6) (k : post 1 σ ν) (hX : X < 2147483648) (hn : 0 < n) (hnp : 0 < np) {y : Int32} (hy : ¬ (0 ≤ y.toInt ∧ y.toInt ≤ 5000)) : jL_isRefused_712 (nI X) post σ ν ρ x3 x4 x6 0 y := by
  have hr : X % 30 ≤ 29 := by omega
  have er : (nI X) - (nI X) / ((30 : Int32)) * ((30 : Int32)) = nI (X % 30) := md9 (by omega) (by decide) (by decide)
  have no : ¬ okd y := hy
  unfold jL_isRefused_712
  try unfold wpL_silent_2 wpL_tells_2
  refine y_strike h.1 (fun z => absurd (in_0 hn) z) (fun _ _ => hx_iae (i82 (i_both (r742 h k hX hn hnp (by decide)) (r742 h k hX hn hnp ?_)))) (fun _ _ _ z => absurd z no) (fun _ _ _ z => absurd z no)
  rw [er, sb_r hr (by decide) (by decide), ti_m1]
  omega
set_option maxRecDepth 100000 in
theorem r682 (h : RF σ ν γ ρ n np x4 x5 x6) (k : post 1 σ ν) (hX : X < 2147483648) (hn : 0 < n) (hnp : 0 < np) {y : Int32} (hy : ¬ (0 ≤ y.toInt ∧ y.toInt ≤ 5000)) : jL_isRefused_682 (nI X) post σ ν ρ x3 x4 x6 0 y := by
  have hr : X % 30 ≤ 29 := by omega
  have er : (nI X) - (nI X) / ((30 : Int32)) * ((30 : Int32)) = nI (X % 30) := md9 (by omega) (by decide) (by decide)
  have no : ¬ okd y := hy
  unfold jL_isRefused_682
  try unfold wpL_silent_1 wpL_tells_1
  refine y_order h.1 (fun z => absurd (in_0 hn) z) (fun _ _ => hx_iae (i82 (i_both (r712 h k hX hn hnp ?_) (r712 h k hX hn hnp (by decide))))) (fun _ _ _ z => absurd z no) (fun _ _ _ z => absurd z no)
  rw [er, ad_r hr (by decide) (by decide)]
  have : (5001 : Int32).toInt = 5001 := by decide
  omega
set_option maxRecDepth 100000 in
theorem r650 (h : RF σ ν γ ρ n np x4 x5 x6) (k : post 1 σ ν) (hX : X < 2147483648) (hnp : 0 < n → 0 < np) : jL_isRefused_650 (nI X) post σ ν ρ x3 x4 x6 1 := by
  have h40 := h.1.h8.1
  have hr : X % 30 ≤ 29 := by omega
  have er : (nI X) - (nI X) / ((30 : Int32)) * ((30 : Int32)) = nI (X % 30) := md9 (by omega) (by decide) (by decide)
  unfold jL_isRefused_650
  rw [if_neg z1I]
  refine ⟨k14 (i := 2) (by decide), ?_⟩
  rw [show ((2 : Int32)).toNatClampNeg = 2 from rfl, h.2.2.1, ti_n (by omega)]
  by_cases c : n = 0
  · rw [if_pos (by omega)]
    exact r814 h k hX
  · rw [if_neg (by omega)]
    refine i_both (r682 h k hX (by omega) (hnp (by omega)) (by decide)) (r682 h k hX (by omega) (hnp (by omega)) ?_)
    rw [er, sb_r hr (by decide) (by decide), ti_m1]
    omega
set_option maxRecDepth 100000 in
theorem tm_no {p1 p2 p3 p4 : Int32} (h : ¬ okT n p1 p2 p3 p4) (h2 : p1 ≠ 2) (hS : SIM σ ν γ n np) {ps : SG → NU → Prop} {px : String → Prop} (k : px IAE) : wpX6_terms σ ν p1 p2 p3 p4 ps px := y_terms hS (fun z => absurd z h2) (fun _ _ => k) (fun _ z => absurd z h)
set_option maxRecDepth 100000 in
theorem r588 (h : RF σ ν γ ρ n np x4 x5 x6) (k : post 1 σ ν) (hX : X < 2147483648) (hnp : 0 < n → 0 < np) {y : Int32} (hy : y ≠ -1 ∧ ¬ okd y) : jL_isRefused_588 (nI X) post σ ν ρ x3 x4 x5 x6 0 y := by
  obtain ⟨hS, -, -, -, -, hx5, -⟩ := id h
  unfold jL_isRefused_588
  try unfold wpL_silent_0 wpL_tells_0
  refine tm_no (fun z => z.2.2.2.elim hy.1 hy.2) (by decide) hS (hx_iae (i82 ?_))
  try unfold wpL_silent_1 wpL_tells_1
  refine y_order hS (fun _ => hx_iob (i81 ?_)) (fun _ z => absurd z hx5) (fun k9 hk e => absurd ⟨by rw [e, ti_n (by have := hS.h8.1; omega)]; omega, by rw [e, ti_n (by have := hS.h8.1; omega)]; omega⟩ hx5) (fun k9 hk e => absurd ⟨by rw [e, ti_n (by have := hS.h8.1; omega)]; omega, by rw [e, ti_n (by have := hS.h8.1; omega)]; omega⟩ hx5)
  try unfold wpL_silent_2 wpL_tells_2
  refine y_strike hS (fun _ => hx_iob (i81 ?_)) (fun _ z => absurd z hx5) (fun k9 hk e => absurd ⟨by rw [e, ti_n (by have := hS.h8.1; omega)]; omega, by rw [e, ti_n (by have := hS.h8.1; omega)]; omega⟩ hx5) (fun k9 hk e => absurd ⟨by rw [e, ti_n (by have := hS.h8.1; omega)]; omega, by rw [e, ti_n (by have := hS.h8.1; omega)]; omega⟩ hx5)
  try unfold wpL_silent_3 wpL_tells_3
  refine y_suspend hS (fun _ => hx_iob (i81 ?_)) (fun _ z => absurd z hx5) (fun k9 hk e => absurd ⟨by rw [e, ti_n (by have := hS.h8.1; omega)]; omega, by rw [e, ti_n (by have := hS.h8.1; omega)]; omega⟩ hx5) (fun k9 hk e => absurd ⟨by rw [e, ti_n (by have := hS.h8.1; omega)]; omega, by rw [e, ti_n (by have := hS.h8.1; omega)]; omega⟩ hx5)
  exact r650 h k hX hnp
set_option maxRecDepth 100000 in
theorem r555 (h : RF σ ν γ ρ n np x4 x5 x6) (k : post 1 σ ν) (hX : X < 2147483648) (hnp : 0 < n → 0 < np) {y : Int32} (hy : ¬ (1 ≤ y.toInt ∧ y.toInt ≤ 7)) : jL_isRefused_555 (nI X) post σ ν ρ x3 x4 x5 x6 0 y := by
  have hr : X % 30 ≤ 29 := by omega
  have er : (nI X) - (nI X) / ((30 : Int32)) * ((30 : Int32)) = nI (X % 30) := md9 (by omega) (by decide) (by decide)
  unfold jL_isRefused_555
  generalize hg : ((-2 : Int32)) - (nI X - nI X / ((30 : Int32)) * ((30 : Int32))) = g9
  try unfold wpL_silent_0 wpL_tells_0
  refine tm_no (fun z => hy z.2.2.1) (by decide) h.1 (hx_iae (i82 (i_both (r588 h k hX hnp ⟨by decide, ?_⟩) (r588 h k hX hnp ⟨?_, ?_⟩))))
  · exact fun z => absurd z.2 (by decide)
  · intro e
    have := congrArg Int32.toInt e
    rw [← hg, er, sb_r hr (by decide) (by decide), ti_m1] at this
    have : (-2 : Int32).toInt = -2 := by decide
    omega
  · intro z
    have := z.1
    rw [← hg, er, sb_r hr (by decide) (by decide)] at this
    have : (-2 : Int32).toInt = -2 := by decide
    omega
set_option maxRecDepth 100000 in
theorem r524 (h : RF σ ν γ ρ n np x4 x5 x6) (k : post 1 σ ν) (hX : X < 2147483648) (hnp : 0 < n → 0 < np) {y : Int32} (hy : ¬ okd y) : jL_isRefused_524 (nI X) post σ ν ρ x3 x4 x5 x6 0 y := by
  have hr : X % 30 ≤ 29 := by omega
  have er : (nI X) - (nI X) / ((30 : Int32)) * ((30 : Int32)) = nI (X % 30) := md9 (by omega) (by decide) (by decide)
  unfold jL_isRefused_524
  try unfold wpL_silent_0 wpL_tells_0
  refine tm_no (fun z => hy (z.2.1 rfl)) (by decide) h.1 (hx_iae (i82 (i_both (r555 h k hX hnp (by decide)) (r555 h k hX hnp ?_))))
  rw [er, sb_r hr (by decide) (by decide), z0I]
  omega
set_option maxRecDepth 100000 in
theorem r492 (h : RF σ ν γ ρ n np x4 x5 x6) (k : post 1 σ ν) (hX : X < 2147483648) (hnp : 0 < n → 0 < np) {y : Int32} (hy : ¬ (0 ≤ y.toInt ∧ y.toInt ≤ 2)) : jL_isRefused_492 (nI X) post σ ν ρ x3 x4 x5 x6 0 y := by
  have hr : X % 30 ≤ 29 := by omega
  have er : (nI X) - (nI X) / ((30 : Int32)) * ((30 : Int32)) = nI (X % 30) := md9 (by omega) (by decide) (by decide)
  unfold jL_isRefused_492
  try unfold wpL_silent_0 wpL_tells_0
  refine tm_no (fun z => hy z.1) (fun e => hy (by rw [e]; decide)) h.1 (hx_iae (i82 (i_both (r524 h k hX hnp ?_) (r524 h k hX hnp (fun z => absurd z.1 (by decide))))))
  intro z
  have := z.2
  rw [er, ad_r hr (by decide) (by decide)] at this
  have : (5001 : Int32).toInt = 5001 := by decide
  omega
set_option maxRecDepth 100000 in
theorem r421 (h : RF σ ν γ ρ n np x4 x5 x6) (k : post 1 σ ν) (hX : X < 2147483648) (hnp : 0 < n → 0 < np) : jL_isRefused_421 (nI X) post σ ν ρ x3 x4 x5 x6 1 := by
  have hr : X % 30 ≤ 29 := by omega
  have er : (nI X) - (nI X) / ((30 : Int32)) * ((30 : Int32)) = nI (X % 30) := md9 (by omega) (by decide) (by decide)
  obtain ⟨hS, -, -, -, -, hx5, -⟩ := id h
  have h40 := hS.h8.1
  have no : ∀ k9, k9 < n → x5 = nI k9 → False := fun k9 hk e => hx5 ⟨by rw [e, ti_n (by omega)]; omega, by rw [e, ti_n (by omega)]; omega⟩
  unfold jL_isRefused_421
  rw [if_neg z1I]
  generalize hg : ((-1 : Int32)) - (nI X - nI X / ((30 : Int32)) * ((30 : Int32))) = g9
  try unfold wpL_does_14
  refine y_state hS (fun _ => hx_iob (i81 ?_)) (fun k9 hk e => (no k9 hk e).elim)
  try unfold wpL_does_15
  refine y_commences hS (fun _ => hx_iob (i81 ?_)) (fun k9 hk e => (no k9 hk e).elim)
  try unfold wpL_silent_0 wpL_tells_0
  refine y_terms hS (fun _ _ => hx_iob (i81 (i_both (r492 h k hX hnp (by decide)) (r492 h k hX hnp ?_)))) (fun z => absurd (z rfl) hx5) (fun z => absurd (z rfl) hx5)
  rw [← hg, er, sb_r hr (by decide) (by decide), ti_m1]
  omega
set_option maxRecDepth 100000 in
theorem r379 (h : RF σ ν γ ρ n np x4 x5 x6) (k : post 1 σ ν) (hX : X < 2147483648) (hnp : 0 < n → 0 < np) : ∀ (r w : Nat), w + r = 14 → 7 ≤ w → wL_isRefused_379 (nI X) post (r + 1) σ ν ρ x3 x4 x5 x6 1 (nI w) := by
  obtain ⟨hS, -, -, -, hx4, -, -⟩ := id h
  have h20 := hS.h8.2.1
  have no : ∀ k9, k9 < np → x4 = nI k9 → False := fun k9 hk e => hx4.2 ⟨by rw [e, ti_n (by omega)]; omega, by rw [e, ti_n (by omega)]; omega⟩
  intro r
  induction r with
  | zero =>
    intro w hw h7
    unfold wL_isRefused_379
    rw [ti_n (by omega), if_neg (by omega)]
    exact r421 h k hX hnp
  | succ r ih =>
    intro w hw h7
    unfold wL_isRefused_379
    rw [ti_n (by omega), if_pos (by omega), if_neg z1I]
    obtain ⟨P, hP⟩ : ∃ P : Int32 → SG → NU → Prop, P = (fun (r156 : Int32) (t157 : SG) (vv158 : NU) => if r156.toInt = (-1381) then (wL_isRefused_379 (nI X) post (r + 1) t157 vv158 ρ x3 x4 x5 x6 ((1 : Int32)) (nI w + (1 : Int32))) else (wL_isRefused_379 (nI X) post (r + 1) t157 vv158 ρ x3 x4 x5 x6 ((0 : Int32)) (nI w + (1 : Int32)))) := ⟨_, rfl⟩
    have go : P (-1381) σ ν := by
      rw [hP]
      refine i81 ?_
      rw [nI_1]
      exact ih (w + 1) (by omega) (by omega)
    rw [← hP]
    have hw9' : ∀ {q : Int32}, ¬ hw9 np (cv9 n np γ) x4 q := hw9_no hx4.2 h20
    unfold wpL_does
    rw [ti_n (by omega)]
    rcases (show w = 7 ∨ w = 8 ∨ w = 9 ∨ w = 10 ∨ w = 11 ∨ w = 12 ∨ w = 13 by omega) with rfl | rfl | rfl | rfl | rfl | rfl | rfl
    · rw [if_neg (by decide), if_neg (by decide), if_neg (by decide), if_neg (by decide), if_neg (by decide), if_neg (by decide), if_neg (by decide), if_pos (by decide)]
      try unfold wpL_does_7
      exact y_label hS (fun _ => hx_iob go) (fun k9 hk e => (no k9 hk e).elim)
    · rw [if_neg (by decide), if_neg (by decide), if_neg (by decide), if_neg (by decide), if_neg (by decide), if_neg (by decide), if_neg (by decide), if_neg (by decide), if_pos (by decide)]
      try unfold wpL_does_8
      exact y_parent hS (fun _ => hx_iob go) (fun k9 hk e => (no k9 hk e).elim)
    · rw [if_neg (by decide), if_neg (by decide), if_neg (by decide), if_neg (by decide), if_neg (by decide), if_neg (by decide), if_neg (by decide), if_neg (by decide), if_neg (by decide), if_pos (by decide)]
      try unfold wpL_does_9
      exact y_words hS (fun _ => hx_iob go) (fun k9 hk e => (no k9 hk e).elim)
    · rw [if_neg (by decide), if_neg (by decide), if_neg (by decide), if_neg (by decide), if_neg (by decide), if_neg (by decide), if_neg (by decide), if_neg (by decide), if_neg (by decide), if_neg (by decide), if_pos (by decide)]
      try unfold wpL_does_10
      exact y_wordAt hS (fun _ => hx_iob go) (fun k9 j9 hk e => (no k9 hk e).elim)
    · rw [if_neg (by decide), if_neg (by decide), if_neg (by decide), if_neg (by decide), if_neg (by decide), if_neg (by decide), if_neg (by decide), if_neg (by decide), if_neg (by decide), if_neg (by decide), if_neg (by decide), if_pos (by decide)]
      try unfold wpL_does_11
      exact y_wordAnew hS (fun _ => hx_iob go) (fun _ => hx_iob go) (fun k9 j9 hk e => (no k9 hk e).elim)
    · rw [if_neg (by decide), if_neg (by decide), if_neg (by decide), if_neg (by decide), if_neg (by decide), if_neg (by decide), if_neg (by decide), if_neg (by decide), if_neg (by decide), if_neg (by decide), if_neg (by decide), if_neg (by decide), if_pos (by decide)]
      try unfold wpL_does_12
      exact y_origin hS (fun _ => hx_iob go) (fun k9 j9 hk e => (no k9 hk e).elim)
    · rw [if_neg (by decide), if_neg (by decide), if_neg (by decide), if_neg (by decide), if_neg (by decide), if_neg (by decide), if_neg (by decide), if_neg (by decide), if_neg (by decide), if_neg (by decide), if_neg (by decide), if_neg (by decide), if_neg (by decide), if_pos (by decide)]
      try unfold wpL_does_13
      exact y_refers hS (fun _ => hx_iob go) (fun k9 j9 hk e => (no k9 hk e).elim)
set_option maxRecDepth 100000 in
theorem r337 (h : RF σ ν γ ρ n np x4 x5 x6) (k : post 1 σ ν) (hX : X < 2147483648) (hnp : 0 < n → 0 < np) {y : Int32} (hy : ¬ (0 ≤ y.toInt ∧ y.toInt ≤ 2)) : jL_isRefused_337 (nI X) post σ ν ρ x3 x4 x5 x6 0 y := by
  have hr : X % 30 ≤ 29 := by omega
  have er : (nI X) - (nI X) / ((30 : Int32)) * ((30 : Int32)) = nI (X % 30) := md9 (by omega) (by decide) (by decide)
  have hneg : (((-1 : Int32)) - nI (X % 30)).toInt < 0 := by rw [sb_r hr (by decide) (by decide), ti_m1]; omega
  unfold jL_isRefused_337
  rw [er]
  generalize ((-1 : Int32)) - nI (X % 30) = g9 at hneg ⊢
  try unfold wpL_does_5
  refine y_look h.1 (fun _ => hx_iae (i82 ?_)) (fun z => absurd z.2.2 hy)
  try unfold wpL_does_6
  refine y_provisionAt h.1 (fun _ => hx_iob (i81 ⟨8, Nat.le_refl _, r379 h k hX hnp 7 7 rfl (Nat.le_refl _)⟩)) (fun k9 hk e => ?_)
  rw [e, ti_n hk] at hneg
  omega
set_option maxRecDepth 100000 in
theorem r308 (h : RF σ ν γ ρ n np x4 x5 x6) (k : post 1 σ ν) (hX : X < 2147483648) (hnp : 0 < n → 0 < np) {y : Int32} (hy : ¬ (0 ≤ y.toInt ∧ y.toInt ≤ (γ 0 0).toInt)) : jL_isRefused_308 (nI X) post σ ν ρ x3 x4 x5 x6 0 y := by
  have hr : X % 30 ≤ 29 := by omega
  have er : (nI X) - (nI X) / ((30 : Int32)) * ((30 : Int32)) = nI (X % 30) := md9 (by omega) (by decide) (by decide)
  unfold jL_isRefused_308
  rw [er]
  try unfold wpL_does_5
  refine y_look h.1 (fun _ => hx_iae (i82 (i_both (r337 h k hX hnp (by decide)) (r337 h k hX hnp ?_)))) (fun z => absurd z.2.1 hy)
  rw [sb_r hr (by decide) (by decide), ti_m1]
  omega
set_option maxRecDepth 100000 in
theorem r275 (h : RF σ ν γ ρ n np x4 x5 x6) (k : post 1 σ ν) (hX : X < 2147483648) (hnp : 0 < n → 0 < np) {y : Int32} (hy : ¬ okd y) : jL_isRefused_275 (nI X) post σ ν ρ x3 x4 x5 x6 0 y := by
  have hr : X % 30 ≤ 29 := by omega
  have er : (nI X) - (nI X) / ((30 : Int32)) * ((30 : Int32)) = nI (X % 30) := md9 (by omega) (by decide) (by decide)
  obtain ⟨-, ⟨T, hT, eT, eT2⟩, -⟩ := id h
  unfold jL_isRefused_275
  rw [er]
  try unfold wpL_does_5
  refine y_look h.1 (fun _ => hx_iae (i82 (i_both ⟨k14 (i := 0) (by decide), r308 h k hX hnp ?_⟩ (r308 h k hX hnp (fun z => absurd z.1 (by decide)))))) (fun z => absurd z.1 hy)
  rw [show ((0 : Int32)).toNatClampNeg = 0 from rfl, eT2, eT, nI_1, nI_add, ti_n (by omega), ti_n (by omega)]
  omega
set_option maxRecDepth 100000 in
theorem r191 (h : RF σ ν γ ρ n np x4 x5 x6) (k : post 1 σ ν) (hX : X < 2147483648) (hnp : 0 < n → 0 < np) {y : Int32} (hy : ¬ (0 ≤ y.toInt ∧ y.toInt ≤ 728)) : jL_isRefused_191 (nI X) post σ ν ρ x3 x4 x5 x6 0 y := by
  have hr : X % 30 ≤ 29 := by omega
  have er : (nI X) - (nI X) / ((30 : Int32)) * ((30 : Int32)) = nI (X % 30) := md9 (by omega) (by decide) (by decide)
  have e26 : (nI X) - (nI X) / ((26 : Int32)) * ((26 : Int32)) = nI (X % 26) := md9 (by omega) (by decide) (by decide)
  obtain ⟨hS, -, -, -, hx4, hx5, -⟩ := id h
  have h20 := hS.h8.2.1
  have h40 := hS.h8.1
  have top : ¬ ¬ ((-1 : Int32) = -1 ∨ (0 ≤ (-1 : Int32).toInt ∧ (-1 : Int32).toInt < np)) := fun z => z (Or.inl rfl)
  have e27 : ((27 : Int32)) * (((1 : Int32)) + nI (X % 26)) = nI (27 * (1 + X % 26)) := by rw [li1, nI_add, li27, pk_mul]
  have no27 : ¬ okLab 5 (nI (27 * (1 + X % 26))) := by
    rintro ⟨N, L, -, -, h3, h4, -, e⟩
    have : 27 * (1 + X % 26) = L := nI_inj (by omega) (by omega) e
    omega
  unfold jL_isRefused_191
  rw [er, e26, e27]
  generalize hg : ((-1 : Int32)) - nI (X % 30) = g9
  try unfold wpL_does_3
  refine y_enact hS (fun z => absurd z top) (fun _ _ => hx_iae (i82 ?_)) (fun _ z => absurd z (okLab_no2 hy)) (fun _ z => absurd z (okLab_no2 hy))
  try unfold wpL_does_3
  refine y_enact hS (fun z => absurd z top) (fun _ _ => hx_iae (i82 ?_)) (fun _ z => absurd z no27) (fun _ z => absurd z no27)
  have n1 : ¬ okI9 n np 1 x4 0 := fun z => hx4.2 (z.2.1 (by decide))
  have n7 : ¬ okI9 n np 7 x5 0 := fun z => hx5 (z.1 rfl)
  try unfold wpL_does_4
  refine y_instruct hS (fun _ => hx_iob (i81 ?_)) (fun z => absurd z n1) (fun z => absurd z n1) (fun z => absurd z n1)
  try unfold wpL_does_4
  refine y_instruct hS (fun _ => hx_iob (i81 (i_both (r275 h k hX hnp (fun z => absurd z.2 (by decide))) (r275 h k hX hnp ?_)))) (fun z => absurd z n7) (fun z => absurd z n7) (fun z => absurd z n7)
  intro z
  have := z.1
  rw [← hg, sb_r hr (by decide) (by decide), ti_m1] at this
  omega
set_option maxRecDepth 100000 in
theorem r160 (h : RF σ ν γ ρ n np x4 x5 x6) (k : post 1 σ ν) (hX : X < 2147483648) (hnp : 0 < n → 0 < np) {y : Int32} (hy : ¬ (1 ≤ y.toInt ∧ y.toInt ≤ 99)) : jL_isRefused_160 (nI X) post σ ν ρ x3 x4 x5 x6 0 y := by
  have hr : X % 30 ≤ 29 := by omega
  have er : (nI X) - (nI X) / ((30 : Int32)) * ((30 : Int32)) = nI (X % 30) := md9 (by omega) (by decide) (by decide)
  have top : ¬ ¬ ((-1 : Int32) = -1 ∨ (0 ≤ (-1 : Int32).toInt ∧ (-1 : Int32).toInt < np)) := fun z => z (Or.inl rfl)
  unfold jL_isRefused_160
  rw [er]
  try unfold wpL_does_3
  refine y_enact h.1 (fun z => absurd z top) (fun _ _ => hx_iae (i82 (i_both (r191 h k hX hnp ?_) (r191 h k hX hnp (by decide))))) (fun _ z => absurd z (okLab_no hy)) (fun _ z => absurd z (okLab_no hy))
  rw [ad_r hr (by decide) (by decide)]
  have : (729 : Int32).toInt = 729 := by decide
  omega
set_option maxRecDepth 100000 in
theorem r114 (h : RF σ ν γ ρ n np x4 x5 x6) (k : post 1 σ ν) (hX : X < 2147483648) (hnp : 0 < n → 0 < np) {y : Int32} (hy : ¬ (0 ≤ y.toInt ∧ y.toInt ≤ 139)) : jL_isRefused_114 (nI X) post σ ν ρ x3 x4 x5 x6 0 y := by
  have hr : X % 30 ≤ 29 := by omega
  have er : (nI X) - (nI X) / ((30 : Int32)) * ((30 : Int32)) = nI (X % 30) := md9 (by omega) (by decide) (by decide)
  obtain ⟨hS, -, -, -, hx4, hx5, -⟩ := id h
  have n4 : ¬ (x4 = -1 ∨ (0 ≤ x4.toInt ∧ x4.toInt < np)) := fun z => z.elim hx4.1 hx4.2
  unfold jL_isRefused_114 wpL_does_2
  rw [er, if_neg (by decide)]
  refine y_word0 hS (fun _ => hx_iae (i82 ?_)) (fun z => absurd z hy) (fun z => absurd z hy)
  try unfold wpL_does_3
  refine y_enact hS (fun _ => hx_iob (i81 (i_both (r160 h k hX hnp (by decide)) (r160 h k hX hnp ?_)))) (fun z => absurd z n4) (fun z => absurd z n4) (fun z => absurd z n4)
  rw [sb_r hr (by decide) (by decide), z0I]
  omega
set_option maxRecDepth 100000 in
theorem r84 (h : RF σ ν γ ρ n np x4 x5 x6) (k : post 1 σ ν) (hX : X < 2147483648) (hnp : 0 < n → 0 < np) {y : Int32} (hy : ¬ (1 ≤ y.toInt ∧ y.toInt ≤ 500)) : jL_isRefused_84 (nI X) post σ ν ρ x3 x4 x5 x6 0 y := by
  have hr : X % 30 ≤ 29 := by omega
  have er : (nI X) - (nI X) / ((30 : Int32)) * ((30 : Int32)) = nI (X % 30) := md9 (by omega) (by decide) (by decide)
  unfold jL_isRefused_84
  rw [er]
  generalize hg : ((-1 : Int32)) - nI (X % 30) = g9
  try unfold wpL_does_0
  refine y_pass h.1 (fun _ => hx_iae (i82 (i_both (r114 h k hX hnp (by decide)) (r114 h k hX hnp ?_)))) (fun z => absurd z hy) (fun z => absurd z hy)
  rw [← hg, sb_r hr (by decide) (by decide), ti_m1]
  omega
set_option maxRecDepth 100000 in
theorem r57 (hS : SIM σ ν γ n np) (hT : ∃ T : Nat, T ≤ 650 ∧ γ 0 0 = nI T ∧ ρ 0 0 = nI T) (e2 : ρ 0 2 = nI n) (e3 : ρ 0 3 = nI np) (hx4 : x4 ≠ -1 ∧ ¬ (0 ≤ x4.toInt ∧ x4.toInt < np)) (hx5 : ¬ (0 ≤ x5.toInt ∧ x5.toInt < n)) (k : post 1 σ ν) (hX : X < 2147483648) (hnp : 0 < n → 0 < np) : jL_isRefused_57 (nI X) post σ ν ρ x3 x4 x5 := by
  have hr : X % 30 ≤ 29 := by omega
  have er : (nI X) - (nI X) / ((30 : Int32)) * ((30 : Int32)) = nI (X % 30) := md9 (by omega) (by decide) (by decide)
  unfold jL_isRefused_57
  refine q_all hS e2 e3 (Nat.le_refl _) (Nat.le_refl _) ?_
  have h : RF σ ν γ ρ n np x4 x5 (AV n np γ (γ 33 0) (γ 34 0) (γ 35 0) n np) := ⟨hS, hT, e2, e3, hx4, hx5, rfl⟩
  refine i_both (r84 h k hX hnp (by decide)) (r84 h k hX hnp ?_)
  rw [er, sb_r hr (by decide) (by decide), z0I]
  omega
set_option maxRecDepth 100000 in
theorem r34 (hS : SIM σ ν γ n np) (hT : ∃ T : Nat, T ≤ 650 ∧ γ 0 0 = nI T ∧ ρ 0 0 = nI T) (e2 : ρ 0 2 = nI n) (e3 : ρ 0 3 = nI np) (hx4 : x4 ≠ -1 ∧ ¬ (0 ≤ x4.toInt ∧ x4.toInt < np)) (k : post 1 σ ν) (hX : X < 2147483648) (hnp : 0 < n → 0 < np) : jL_isRefused_34 (nI X) post σ ν ρ x3 x4 := by
  have h40 := hS.h8.1
  have hr : X % 30 ≤ 29 := by omega
  have er : (nI X) - (nI X) / ((30 : Int32)) * ((30 : Int32)) = nI (X % 30) := md9 (by omega) (by decide) (by decide)
  unfold jL_isRefused_34
  by_cases c : x3.toInt = 0
  · rw [if_pos c]
    refine ⟨k14 (i := 2) (by decide), ?_⟩
    rw [show ((2 : Int32)).toNatClampNeg = 2 from rfl, e2, er, nI_add]
    refine r57 hS hT e2 e3 hx4 ?_ k hX hnp
    rw [ti_n (by omega)]
    omega
  · rw [if_neg c, er]
    refine r57 hS hT e2 e3 hx4 ?_ k hX hnp
    rw [sb_r hr (by decide) (by decide), ti_m1]
    omega
set_option maxRecDepth 100000 in
theorem r11 (hS : SIM σ ν γ n np) (hT : ∃ T : Nat, T ≤ 650 ∧ γ 0 0 = nI T ∧ ρ 0 0 = nI T) (e2 : ρ 0 2 = nI n) (e3 : ρ 0 3 = nI np) (k : post 1 σ ν) (hX : X < 2147483648) (hnp : 0 < n → 0 < np) {y : Int32} : jL_isRefused_11 (nI X) post σ ν ρ y := by
  have h20 := hS.h8.2.1
  have hr : X % 30 ≤ 29 := by omega
  have er : (nI X) - (nI X) / ((30 : Int32)) * ((30 : Int32)) = nI (X % 30) := md9 (by omega) (by decide) (by decide)
  unfold jL_isRefused_11
  by_cases c : y.toInt = 0
  · rw [if_pos c]
    refine ⟨k14 (i := 3) (by decide), ?_⟩
    rw [show ((3 : Int32)).toNatClampNeg = 3 from rfl, e3, er, nI_add]
    refine r34 hS hT e2 e3 ⟨nI_m1 (by omega), ?_⟩ k hX hnp
    rw [ti_n (by omega)]
    omega
  · have e9 : (((-2 : Int32)) - nI (X % 30)).toInt = -2 - (X % 30 : Nat) := by
      rw [sb_r hr (by decide) (by decide), show ((-2 : Int32)).toInt = -2 from by decide]
    rw [if_neg c, er]
    refine r34 hS hT e2 e3 ⟨fun z => ?_, ?_⟩ k hX hnp
    · have := congrArg Int32.toInt z
      rw [e9, ti_m1] at this
      omega
    · rw [e9]
      omega
end RFS
/-- whoever is refused, nothing is changed -/
theorem q_refused {σ : SG} {ν : NU} {γ ρ : RH} {n np X : Nat} {post : Int32 → SG → NU → Prop} (hS : SIM σ ν γ n np) (hT : ∃ T : Nat, T ≤ 650 ∧ γ 0 0 = nI T ∧ ρ 0 0 = nI T) (e2 : ρ 0 2 = nI n) (e3 : ρ 0 3 = nI np) (hX : X < 2147483648) (k : post 1 σ ν) : wpL_isRefused σ ν ρ (nI X) post := by
  have hnp : 0 < n → 0 < np := fun hn => by
    obtain ⟨-, -, -, -, h7, h8, -⟩ := hS.h8.2.2.2.2.1 0 hn
    by_cases c : γ 13 0 = 7
    · have := h7 c; omega
    · have := h8 c; omega
  unfold wpL_isRefused
  exact i_both (r11 hS hT e2 e3 k hX hnp) (r11 hS hT e2 e3 k hX hnp)
