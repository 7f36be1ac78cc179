/-! What the law holds sound of a view, is sound. -/
theorem ef9_in {γ : RH} {d kn te : Int32} {i : Nat} (h : ef9 γ d kn te i = true) : cm9 γ kn i ≠ -1 ∧ (cm9 γ kn i).toInt ≤ d.toInt ∧ ((γ 24 i) >>> (te &&& 31)) &&& 1 = 1 ∧ ov9 γ d i = false := by
  unfold ef9 at h
  simp only [Bool.and_eq_true, Bool.not_eq_true', decide_eq_true_eq, decide_eq_false_iff_not] at h
  exact ⟨h.1, h.2.1, h.2.2.1, h.2.2.2.1⟩
theorem i_m1 {A B : Prop} (h : A) : if (-1 : Int32).toInt = (-1) then A else B := by rw [if_pos ti_m1]; exact h
theorem nI_10 {m : Nat} (h : m % 2 = 1) (e : m % 2 < 2) : nI (m % 2) = 1 := by rw [h]; rfl
theorem sb_1 : ∀ b, b < 2 → (((nI b).toInt = 1 ↔ nI b = 1) ∧ (nI b = 1 ↔ b = 1) ∧ ((nI b).toInt = 0 ↔ b = 0)) := by decide +kernel
/-- what is not in effect is idle -/
theorem q_s96 {σ : SG} {ν : NU} {γ ρ : RH} {n np X i : Nat} {post : Int32 → SG → NU → Prop} {κ : SG → NU → RH → Int32 → Int32 → Prop} {y : Int32} (hS : SIM σ ν γ n np) (hi : i < n) (k : κ σ ν ρ 1 (nI (i + 1))) (hy : y.toInt = 0 → (cv9 n np γ).2.2.2.2.1 i = 0) : jL_areSound_96 (nI X) κ post σ ν ρ (nI i) (cm9 γ (γ 34 0) i) ((cv9 n np γ).2.2.2.2.1 i) y := by
  have h40 := hS.h8.1
  unfold jL_areSound_96
  refine y_commences hS (fun z => absurd (show 0 ≤ (nI i).toInt ∧ (nI i).toInt < n by rw [ti_n (by omega)]; omega) z) (fun k1 hk1 e1 => ?_)
  have q1 : i = k1 := nI_inj (by omega) (by omega) e1
  subst q1
  rw [if_pos rfl, nI_1]
  by_cases c : y.toInt = 0
  · rw [hy c, if_neg (by decide), if_pos (by decide), if_pos c, if_pos (by decide)]
    exact k
  · rcases (SRC_vw (d := γ 33 0) (kn := γ 34 0) (te := γ 35 0) hS.h8).2 i with e | e | e
    · rw [show (cv9 n np γ).2.2.2.2.1 i = 0 from e, if_neg (by decide), if_pos (by decide), if_neg c]
      exact k
    · rw [show (cv9 n np γ).2.2.2.2.1 i = 1 from e, if_neg (by decide), if_pos (by decide), if_neg c]
      exact k
    · rw [show (cv9 n np γ).2.2.2.2.1 i = 2 from e, if_neg (by decide), if_pos (by decide), if_neg c]
      exact k
theorem te_bit {te md sn t : Nat} (ht : t < 3) : (te + 8 * md + 65536 * sn) / 2 ^ t % 2 = te / 2 ^ t % 2 := by
  rcases (show t = 0 ∨ t = 1 ∨ t = 2 by omega) with rfl | rfl | rfl <;> omega
theorem q_s6 {σ : SG} {ν : NU} {γ ρ : RH} {n np X : Nat} {post : Int32 → SG → NU → Prop} (hS : SIM σ ν γ n np) (e2 : ρ 0 2 = nI n) (hL : LKI γ ρ n) (hV : LKV γ ρ) (k : jL_areSound_143 (nI X) post σ ν ρ 1) : ∀ (r i : Nat), i + r = n → wL_areSound_6 (nI X) post (r + 1) σ ν ρ 1 (nI i) := by
  have hD := hS.h8
  have h40 := hD.1
  intro r
  induction r with
  | zero =>
    intro i hi
    unfold wL_areSound_6
    refine ⟨k14 (i := 2) (by decide), ?_⟩
    rw [show ((2 : Int32)).toNatClampNeg = 2 from rfl, e2, ti_n (by omega), ti_n (by omega), if_neg (by omega)]
    exact k
  | succ r ih =>
    intro i hi
    have ih := ih (i + 1) (by omega)
    unfold wL_areSound_6
    refine ⟨k14 (i := 2) (by decide), ?_⟩
    rw [show ((2 : Int32)).toNatClampNeg = 2 from rfl, e2, ti_n (by omega), ti_n (by omega), if_pos (by omega), if_neg z1I]
    refine q_begins hD hL hV (by omega) (y_state hS (fun z => absurd (show 0 ≤ (nI i).toInt ∧ (nI i).toInt < n by rw [ti_n (by omega)]; omega) z) (fun k1 hk1 e1 => ?_))
    have q1 : i = k1 := nI_inj (by omega) (by omega) e1
    subst q1
    obtain ⟨l5, -, l7, -, ⟨d, hd, ed⟩, t, ht, et⟩ := id hV
    obtain ⟨-, ⟨te, md, sn, t1, t2, t3, t4, -, t6, t7⟩, -⟩ := hL.1 i (by omega)
    have hci : (nI i).toNatClampNeg = i := cl_n (by omega)
    have hvi : vp_in (nI i) 40 := vi_n (by omega) (by decide)
    -- what is in effect
    have hef : ∀ {A : Prop}, (cm9 γ (γ 34 0) i ≠ -1 → (cm9 γ (γ 34 0) i).toInt ≤ (γ 33 0).toInt → ((γ 24 i) >>> (γ 35 0 &&& 31)) &&& 1 = 1 → ov9 γ (γ 33 0) i = false → False) → A → (cv9 n np γ).2.2.2.2.1 i = 0 := fun h _ => by
      by_cases c : (cv9 n np γ).2.2.2.2.1 i = 0
      · exact c
      · obtain ⟨a1, a2, a3, a4⟩ := ef9_in (st_idle hD c).2
        exact (h a1 a2 a3 a4).elim
    refine ⟨hvi, ?_⟩
    rw [hci, show ((5 : Int32)).toNatClampNeg = 5 from rfl, show ((7 : Int32)).toNatClampNeg = 7 from rfl, l5, l7]
    by_cases c1 : (cm9 γ (γ 34 0) i).toInt < 0
    · rw [if_pos c1]
      refine q_s96 hS (by omega) ih (hef (fun a1 _ _ _ => ?_))
      rcases cm9_ok (kn := γ 34 0) hD hk1 with e | e
      · exact a1 e
      · have := e.1; omega
    rw [if_neg c1]
    refine ⟨k14 (i := 5) (by decide), ?_⟩
    by_cases c2 : (cm9 γ (γ 34 0) i).toInt ≤ (γ 33 0).toInt
    rotate_left
    · rw [if_neg c2]
      exact q_s96 hS (by omega) ih (hef (fun _ a2 _ _ => c2 a2))
    rw [if_pos c2]
    refine ⟨hvi, k14 (i := 7) (by decide), ?_⟩
    have hb2 : te / 2 ^ t % 2 < 2 := Nat.mod_lt _ (by decide)
    rw [t7, et, sh_rt (by omega) ht, bo_1, te_bit ht, sh_r16 (by omega), li1]
    rw [et, t4, sh_rt (by omega) ht, bo_1] at hef
    obtain ⟨b1, -, -⟩ := sb_1 _ hb2
    have esn : (te + 8 * md + 65536 * sn) / 2 ^ 16 = sn := by omega
    rw [esn]
    by_cases c3 : (nI (te / 2 ^ t % 2)).toInt = 1
    rotate_left
    · rw [if_neg c3]
      exact q_s96 hS (by omega) ih (hef (fun _ _ a3 _ => c3 (b1.mpr a3)))
    rw [if_pos c3]
    rcases t6 with ⟨s1, s2⟩ | ⟨s1, s2⟩
    · subst s2
      rw [if_pos (by decide)]
      exact q_s96 hS (by omega) ih (fun z => absurd z z1I)
    · rw [pk_sub (by omega), ti_n (by omega), if_neg (by omega)]
      refine ⟨k14 (i := 5) (by decide), ?_⟩
      by_cases c4 : ((sn - 1 : Nat) : Int) ≤ (γ 33 0).toInt
      · rw [if_pos c4]
        refine q_s96 hS (by omega) ih (hef (fun _ _ _ a4 => ?_))
        unfold ov9 at a4
        rw [s2, ti_n (by omega), decide_eq_false (nI_m1 (show sn - 1 < 2147483648 by omega)), Bool.not_false, Bool.true_and, decide_eq_false_iff_not] at a4
        exact a4 c4
      · rw [if_neg c4]
        exact q_s96 hS (by omega) ih (fun z => absurd z z1I)
/-! what is there, as bits -/
theorem sh_20 : ∀ t, t < 20 → (((nI t) &&& 31).toBitVec.smod 32).toNat = t := by decide +kernel
theorem sh_p1 : ∀ t, t < 20 → (1 : Int32) <<< (nI t &&& 31) = nI (2 ^ t) := by decide +kernel
theorem sh_r20 {a t : Nat} (h : a < 2 ^ 31) (ht : t < 20) : nI a >>> (nI t &&& 31) = nI (a / 2 ^ t) := pk_shrN h _ t (sh_20 t ht)
def BT (B : Nat) (pre : List Nat) : Prop := B < 2 ^ 20 ∧ ∀ p, p < 20 → (B.testBit p = true ↔ p ∈ pre)
theorem BT_0 : BT 0 [] := ⟨by decide, fun p _ => by simp⟩
theorem BT_up {B p : Nat} {pre : List Nat} (h : BT B pre) (hp : p < 20) : BT (B ||| 2 ^ p) (pre ++ [p]) := by
  refine ⟨Nat.or_lt_two_pow h.1 (Nat.pow_lt_pow_right (by decide) hp), fun q hq => ?_⟩
  rw [Nat.testBit_or, Nat.testBit_two_pow, Bool.or_eq_true, h.2 q hq, List.mem_append, List.mem_singleton, decide_eq_true_eq]
  exact or_congr Iff.rfl eq_comm
theorem BT_bit {B p : Nat} {pre : List Nat} (h : BT B pre) (hp : p < 20) : (((nI B >>> (nI p &&& 31)) &&& (1 : Int32)).toInt = 1 ↔ p ∈ pre) ∧ (((nI B >>> (nI p &&& 31)) &&& (1 : Int32)).toInt = 0 ↔ ¬ p ∈ pre) := by
  have hB := h.1
  have h2 : B / 2 ^ p % 2 < 2 := Nat.mod_lt _ (by decide)
  have hb := h.2 p hp
  rw [Nat.testBit_eq_decide_div_mod_eq, decide_eq_true_eq] at hb
  rw [sh_r20 (by omega) hp, bo_1, ti_n (by omega), ← hb]
  generalize B / 2 ^ p % 2 = m at h2 ⊢
  omega
theorem pcl_le {f : Nat → Nat → Bool} : ∀ {l : List Nat}, pcl f l ≤ l.length * l.length
  | [] => Nat.le_refl _
  | x :: l => by
    have h1 := pcl_le (f := f) (l := l)
    have h2 : l.countP (f x) ≤ l.length := List.countP_le_length
    have h3 : (l.length + 1) * (l.length + 1) = l.length * l.length + l.length + l.length + 1 := by
      rw [Nat.add_mul, Nat.mul_add]; omega
    show l.countP (f x) + pcl f l ≤ (l.length + 1) * (l.length + 1)
    omega
theorem q_s776 {σ : SG} {ν : NU} {γ ρ : RH} {n np X : Nat} {post : Int32 → SG → NU → Prop} (hS : SIM σ ν γ n np) (k : post 1 σ ν) : jL_areSound_776 (nI X) post σ ν ρ 1 := by
  have h40 := hS.h8.1
  unfold jL_areSound_776
  rw [if_neg z1I]
  refine y_conflicts hS ?_
  have h1 := pcl_le (f := cf9 γ (γ 34 0) (cv9 n np γ)) (l := or9 γ n (γ 33 0) (γ 34 0) (γ 35 0))
  have h2 : (or9 γ n (γ 33 0) (γ 34 0) (γ 35 0)).length ≤ n := tn9_len
  have h3 : (or9 γ n (γ 33 0) (γ 34 0) (γ 35 0)).length * (or9 γ n (γ 33 0) (γ 34 0) (γ 35 0)).length ≤ 40 * 40 := Nat.mul_le_mul (by omega) (by omega)
  rw [ti_n (by omega), if_neg (by omega)]
  exact k
theorem lb9_no {C : CS} {k : Nat} (h : ¬ C.1 k = true) : lb9 C k = -1 := by unfold lb9; rw [if_neg h]
theorem lb9_in {n np k : Nat} {γ : RH} {J : List Nat} {C : CS} (hG : GD n np γ J C) (hk : k < 20) (h : C.1 k = true) : lb9 C k = nI (lbN C k) ∧ 1000 ≤ lbN C k ∧ lbN C k < 100000 := by
  obtain ⟨a, b, c, -⟩ := okl_lb (hG.2.2.1 k hk h)
  refine ⟨?_, b, c⟩
  unfold lb9
  rw [if_pos h, a]
/-- those that are not there tell nothing -/
theorem q_s687 {σ : SG} {ν : NU} {γ ρ : RH} {n np X B : Nat} {post : Int32 → SG → NU → Prop} (hS : SIM σ ν γ n np) (e3 : ρ 0 3 = nI np) (hB : BT B (ls9 (cv9 n np γ))) (k : post 1 σ ν) : ∀ (r i : Nat), i + r = np → wL_areSound_687 (nI X) post (r + 1) σ ν ρ 1 (nI B) (nI i) := by
  have hD := hS.h8
  have h20 := hD.2.1
  have hG := hS.gd
  intro r
  induction r with
  | zero =>
    intro i hi
    unfold wL_areSound_687
    refine ⟨k14 (i := 3) (by decide), ?_⟩
    rw [show ((3 : Int32)).toNatClampNeg = 3 from rfl, e3, ti_n (by omega), ti_n (by omega), if_neg (by omega)]
    exact q_s776 hS k
  | succ r ih =>
    intro i hi
    have ih := ih (i + 1) (by omega)
    have hin : ¬ ¬ (0 ≤ (nI i).toInt ∧ (nI i).toInt < np) := fun z => z (by rw [ti_n (by omega)]; omega)
    have hi20 : i < 20 := by omega
    obtain ⟨bt1, bt0⟩ := BT_bit hB hi20
    unfold wL_areSound_687
    refine ⟨k14 (i := 3) (by decide), ?_⟩
    rw [show ((3 : Int32)).toNatClampNeg = 3 from rfl, e3, ti_n (by omega), ti_n (by omega), if_pos (by omega), if_neg z1I]
    refine y_label hS (fun z => absurd z hin) (fun k1 hk1 e1 => ?_)
    have q1 : i = k1 := nI_inj (by omega) (by omega) e1
    subst q1
    by_cases c : (cv9 n np γ).1 i = true
    · obtain ⟨a1, a2, a3⟩ := lb9_in hG hi20 c
      have hm := ls9_all hG hi20 c
      have hl : ¬ (lb9 (cv9 n np γ) i).toInt = -1 := by rw [a1, ti_n (by omega)]; omega
      rw [if_neg hl]
      unfold jL_areSound_715
      rw [if_neg (fun z => (bt0.mp z) hm)]
      unfold jL_areSound_730
      rw [if_pos rfl]
      refine y_label hS (fun z => absurd z hin) (fun k2 hk2 e2 => ?_)
      have q2 : i = k2 := nI_inj (by omega) (by omega) e2
      subst q2
      rw [if_neg hl, nI_1]
      exact ih
    · have hm : ¬ i ∈ ls9 (cv9 n np γ) := fun z => c ((ls9_len hG).2 i z).2
      have hl : (lb9 (cv9 n np γ) i).toInt = -1 := by rw [lb9_no c, ti_m1]
      rw [if_pos hl]
      unfold jL_areSound_715
      rw [if_pos (bt0.mpr hm)]
      unfold jL_areSound_730
      rw [if_pos rfl]
      refine y_label hS (fun z => absurd z hin) (fun k2 hk2 e2 => ?_)
      have q2 : i = k2 := nI_inj (by omega) (by omega) e2
      subst q2
      rw [if_pos hl]
      refine y_parent hS (fun z => absurd z hin) (fun k3 hk3 e3 => ?_)
      have q3 : i = k3 := nI_inj (by omega) (by omega) e3
      subst q3
      rw [show pa9 (cv9 n np γ) i = -1 from if_neg c, if_pos ti_m1]
      refine y_words hS (fun z => absurd z hin) (fun k4 hk4 e4 => ?_)
      have q4 : i = k4 := nI_inj (by omega) (by omega) e4
      subst q4
      rw [show wc9 (cv9 n np γ) i = -1 from if_neg c, if_pos ti_m1, nI_1]
      exact ih
/-- words: where they come from, what they refer to -/
theorem q_s565 {σ : SG} {ν : NU} {γ ρ : RH} {n np X m : Nat} {post : Int32 → SG → NU → Prop} {κ1 : SG → NU → RH → Int32 → Int32 → Int32 → Int32 → Prop} {κ : SG → NU → RH → Int32 → Int32 → Int32 → Int32 → Int32 → Int32 → Prop} {x7 x9 x10 x12 x14 y : Int32} (hS : SIM σ ν γ n np) (e3 : ρ 0 3 = nI np) (hm : m < 140) (hy : 100 ≤ m → m < 120 → y = lb9 (cv9 n np γ) (m - 100)) (k : κ σ ν ρ 1 x7 x9 x10 x12 (x14 + 2)) : jL_areSound_565 (nI X) κ1 κ post σ ν ρ x7 x9 x10 x12 x14 (nI m) y 1 := by
  have h20 := hS.h8.2.1
  have hG := hS.gd
  unfold jL_areSound_565
  rw [if_neg z1I, ti_n (by omega)]
  by_cases c1 : m < 100
  · rw [if_pos (by omega)]
    exact k
  rw [if_neg (by omega)]
  by_cases c2 : m < 120
  rotate_left
  · rw [if_neg (by omega)]
    exact k
  have hy := hy (by omega) c2
  have e100 : nI m - (100 : Int32) = nI (m - 100) := by rw [li100, pk_sub (by omega)]
  rw [if_pos (by omega)]
  refine ⟨k14 (i := 3) (by decide), ?_⟩
  rw [show ((3 : Int32)).toNatClampNeg = 3 from rfl, e3, e100, ti_n (by omega), ti_n (by omega)]
  by_cases c3 : m - 100 < np
  · rw [if_pos (by omega)]
    refine y_label hS (fun z => absurd (show 0 ≤ (nI (m - 100)).toInt ∧ (nI (m - 100)).toInt < np by rw [ti_n (by omega)]; omega) z) (fun k1 hk1 e1 => ?_)
    have q1 : m - 100 = k1 := nI_inj (by omega) (by omega) e1
    rw [← q1, hy, if_pos rfl]
    exact k
  · rw [if_neg (by omega)]
    unfold jL_areSound_611
    refine ⟨k14 (i := 3) (by decide), ?_⟩
    rw [show ((3 : Int32)).toNatClampNeg = 3 from rfl, e3, e100, ti_n (by omega), ti_n (by omega), if_neg (by omega)]
    have hno : ¬ (cv9 n np γ).1 (m - 100) = true := fun z => c3 (hG.1.1 _ (by omega) z)
    rw [hy, lb9_no hno, if_pos ti_m1]
    exact k
theorem q_s479 {σ : SG} {ν : NU} {γ ρ : RH} {n np X m p j i : Nat} {post : Int32 → SG → NU → Prop} {κ1 : SG → NU → RH → Int32 → Int32 → Int32 → Int32 → Prop} {κ : SG → NU → RH → Int32 → Int32 → Int32 → Int32 → Int32 → Int32 → Prop} {x7 x9 x12 y : Int32} (hS : SIM σ ν γ n np) (e2 : ρ 0 2 = nI n) (e3 : ρ 0 3 = nI np) (hp : p < np) (hpt : (cv9 n np γ).1 p = true) (hj : j < ((cv9 n np γ).2.2.2.1 p).length) (hj12 : j < 12) (hx : ((cv9 n np γ).2.2.2.1 p)[j] = (nI m, nI i)) (hm : m < 140) (hi : i < n) (hi1 : (cv9 n np γ).2.2.2.2.1 i = 1) (hy1 : m < 100 → y = -1) (hy : 100 ≤ m → m < 120 → y = lb9 (cv9 n np γ) (m - 100)) (hy2 : y = -1 ∨ 999 < y.toInt) (k : ∀ σ', SIM σ' ν γ n np → κ σ' ν ρ 1 x7 x9 (nI p) x12 (nI j + 2)) : jL_areSound_479 (nI X) κ1 κ post σ ν ρ x7 x9 (nI p) x12 (nI j) (nI m) (nI i) y := by
  have h20 := hS.h8.2.1
  have h40 := hS.h8.1
  unfold jL_areSound_479
  rw [ti_n (show m < 2147483648 by omega), if_neg (by omega), if_pos (by omega)]
  refine y_wordAnew hS (fun z => absurd (show 0 ≤ (nI p).toInt ∧ (nI p).toInt < np by rw [ti_n (by omega)]; omega) z) (fun z => absurd z (by rw [ti_n (by omega)]; omega)) (fun k1 j1 hk1 e1 hj1 e2' σ' hS' => ?_)
  have q1 : p = k1 := nI_inj (by omega) (by omega) e1
  have q2 : j = j1 := nI_inj (by omega) (by omega) e2'
  subst q1 q2
  have ew : wat9 (cv9 n np γ) p j = nI m := by
    unfold wat9
    rw [if_pos hpt, List.getElem?_eq_getElem hj, hx]
  rw [ew, ti_n (show m < 2147483648 by omega), if_pos rfl, ti_n (show i < 2147483648 by omega), if_neg (by omega)]
  refine ⟨k14 (i := 2) (by decide), ?_⟩
  rw [show ((2 : Int32)).toNatClampNeg = 2 from rfl, e2, ti_n (by omega), if_pos (by omega)]
  refine y_state hS' (fun z => absurd (show 0 ≤ (nI i).toInt ∧ (nI i).toInt < n by rw [ti_n (by omega)]; omega) z) (fun k2 hk2 e4 => ?_)
  have q3 : i = k2 := nI_inj (by omega) (by omega) e4
  subst q3
  rw [hi1, if_pos (by decide)]
  have fin := q_s565 (X := X) (post := post) (κ1 := κ1) (κ := κ) (x7 := x7) (x9 := x9) (x10 := nI p) (x12 := x12) (x14 := nI j) hS' e3 hm hy (k σ' hS')
  by_cases c1 : m < 100
  · rw [if_pos (by omega), if_pos (by rw [hy1 c1]; exact ti_m1)]
    exact fin
  · rw [if_neg (by omega)]
    by_cases c2 : y.toInt = -1
    · rw [if_pos c2]
      exact fin
    · have h9 : ¬ y.toInt ≤ 999 := fun z => hy2.elim (fun e => c2 (by rw [e]; exact ti_m1)) (fun e => by omega)
      rw [if_neg c2, if_neg h9]
      exact fin
theorem q_s417 {γ ρ : RH} {n np X p B : Nat} {post : Int32 → SG → NU → Prop} {κ1 : SG → NU → RH → Int32 → Int32 → Int32 → Int32 → Prop} {x9 : Int32} (e2 : ρ 0 2 = nI n) (e3 : ρ 0 3 = nI np) (hX : X < 2147483648) (hp : p < np) (hpt : (cv9 n np γ).1 p = true) (hl : ((cv9 n np γ).2.2.2.1 p).length ≤ 12) (k : ∀ σ ν, SIM σ ν γ n np → κ1 σ ν ρ 1 (nI (B ||| 2 ^ p)) (nI p) (x9 + 1)) : ∀ (r t : Nat), t + r = 6 → ∀ (σ : SG) (ν : NU), SIM σ ν γ n np → wL_areSound_417 (nI X) κ1 post (r + 1) σ ν ρ 1 (nI B) x9 (nI p) (nI ((cv9 n np γ).2.2.2.1 p).length) (nI (2 * t)) := by
  have go : ∀ (σ : SG) (ν : NU), SIM σ ν γ n np → jL_areSound_641 (nI X) κ1 post σ ν ρ 1 (nI B) x9 (nI p) := fun σ ν hS => by
    have h20 := hS.h8.2.1
    unfold jL_areSound_641
    rw [sh_p1 p (by omega), bo_or]
    exact k σ ν hS
  intro r
  induction r with
  | zero =>
    intro t ht σ ν hS
    unfold wL_areSound_417
    rw [ti_n (by omega), ti_n (by omega), if_neg (by omega)]
    exact go σ ν hS
  | succ r ih =>
    intro t ht σ ν hS
    have h20 := hS.h8.2.1
    have h40 := hS.h8.1
    have hG := hS.gd
    unfold wL_areSound_417
    rw [ti_n (show 2 * t < 2147483648 by omega), ti_n (by omega)]
    by_cases c : 2 * t < ((cv9 n np γ).2.2.2.1 p).length
    rotate_left
    · rw [if_neg (by omega)]
      exact go σ ν hS
    rw [if_pos (by omega), if_neg z1I]
    have hw : ¬ ¬ hw9 np (cv9 n np γ) (nI p) (nI (2 * t)) := fun z => z ⟨p, 2 * t, hp, rfl, hpt, c, rfl⟩
    obtain ⟨hok, -⟩ := hG.2.2.2.2.1 p (by omega) hpt _ (List.getElem_mem c)
    obtain ⟨i, hi, ei, hi1⟩ := (SRC_vw (d := γ 33 0) (kn := γ 34 0) (te := γ 35 0) hS.h8).1 p (by omega) hpt _ (List.getElem_mem c)
    obtain ⟨m, hm, em⟩ := in_nI (N := 140) hok.1 (by have := hok.2; omega)
    have hx : ((cv9 n np γ).2.2.2.1 p)[2 * t] = (nI m, nI i) := Prod.ext em ei
    have nx : ∀ σ' ν', SIM σ' ν' γ n np → wL_areSound_417 (nI X) κ1 post (r + 1) σ' ν' ρ 1 (nI B) x9 (nI p) (nI ((cv9 n np γ).2.2.2.1 p).length) (nI (2 * t) + 2) := fun σ' ν' hS' => by
      rw [show (2 : Int32) = nI 2 from rfl, nI_add, show 2 * t + 2 = 2 * (t + 1) by omega]
      exact ih (t + 1) (by omega) σ' ν' hS'
    refine y_wordAt hS (fun z => absurd z hw) (fun k1 j1 hk1 a1 ht1 hj1 b1 => ?_)
    have q1 : p = k1 := nI_inj (by omega) (by omega) a1
    subst q1
    have q2 : 2 * t = j1 := nI_inj (by omega) (by omega) b1
    subst q2
    refine y_origin hS (fun z => absurd z hw) (fun k2 j2 hk2 a2 ht2 hj2 b2 => ?_)
    have q3 : p = k2 := nI_inj (by omega) (by omega) a2
    subst q3
    have q4 : 2 * t = j2 := nI_inj (by omega) (by omega) b2
    subst q4
    rw [em, ei]
    refine ⟨k14 (i := 3) (by decide), ?_, ?_⟩
    · rw [show ((3 : Int32)).toNatClampNeg = 3 from rfl, e3]
      intro z
      have := congrArg Int32.toInt z
      rw [ti_n (by omega), z0I] at this
      omega
    have far : jL_areSound_467 (nI X) κ1 (wL_areSound_417 (nI X) κ1 post (r + 1)) post σ ν ρ (nI B) x9 (nI p) (nI ((cv9 n np γ).2.2.2.1 p).length) (nI (2 * t)) (nI m) (nI i) := by
      unfold jL_areSound_467
      refine y_refers hS (fun z => absurd z hw) (fun k5 j5 hk5 a5 ht5 hj5 b5 m5 i5 hm5 hi5 x5 σ' ν' hS' => ?_)
      have q5 : p = k5 := nI_inj (by omega) (by omega) a5
      subst q5
      have q6 : 2 * t = j5 := nI_inj (by omega) (by omega) b5
      subst q6
      rw [hx] at x5
      have q7 : m = m5 := nI_inj (by omega) (by omega) (Prod.mk.inj x5).1
      have q8 : i = i5 := nI_inj (by omega) (by omega) (Prod.mk.inj x5).2
      subst q7 q8
      refine q_s479 hS' e2 e3 hp hpt c (by omega) hx hm hi hi1 (fun h => ?_) (fun h h' => ?_) ?_ (fun σ2 hS2 => nx σ2 ν' hS2)
      · unfold rf9; rw [if_pos h]
      · unfold rf9; rw [if_neg (by omega), if_pos h']
      · have lab : ∀ (C : CS) (q : Nat) (J : List Nat), q < 20 → GD n np γ J C → lb9 C q = -1 ∨ 999 < (lb9 C q).toInt := fun C q J hq hG => by
          by_cases cc : C.1 q = true
          · obtain ⟨a1, a2, a3⟩ := lb9_in hG hq cc
            right
            rw [a1, ti_n (by omega)]
            omega
          · exact Or.inl (lb9_no cc)
        unfold rf9
        by_cases w1 : m < 100
        · rw [if_pos w1]; exact Or.inl rfl
        · rw [if_neg w1]
          by_cases w2 : m < 120
          · rw [if_pos w2]; exact lab _ _ _ (by omega) hG
          · rw [if_neg w2]; exact lab _ _ _ (by omega) (GD_vw hS.h8)
    by_cases w1 : (nI p).toInt = (nI X - nI X / ρ 0 ((3 : Int32)).toNatClampNeg * ρ 0 ((3 : Int32)).toNatClampNeg).toInt
    · rw [if_pos w1]
      exact far
    · rw [if_neg w1]
      by_cases w2 : (nI m).toInt < 120
      · rw [if_pos w2]
        exact far
      · rw [if_neg w2]
        rw [ti_n (by omega)] at w2
        exact q_s479 hS e2 e3 hp hpt c (by omega) hx hm hi hi1 (fun _ => rfl) (fun _ h' => by omega) (Or.inl rfl) (fun σ2 hS2 => nx σ2 ν hS2)
/-- beside whom, or in whom, a provision stands -/
theorem q_key {σ : SG} {ν : NU} {ρ : RH} {m : Nat} {post : Int32 → Prop} (hm : m < 100000) (k : post (nI (kyN m))) : wpL_key σ ν ρ (nI m) post := by
  have e1 : nI m - nI m / (1000 : Int32) * (1000 : Int32) = nI (m % 1000) := md9 (by omega) (by decide) (by decide)
  have e2 : nI m / (1000 : Int32) = nI (m / 1000) := pk_div (by omega) (by decide) (by decide)
  unfold wpL_key
  rw [e1, e2, ti_n (by omega), li1000, li27, pk_mul, pk_mul]
  unfold kyN at k
  by_cases c : m % 1000 < 27
  · rw [if_pos c] at k
    rw [if_pos (by omega), nI_add, Nat.mul_comm (m / 1000) 1000]
    exact k
  · rw [if_neg c] at k
    rw [if_neg (by omega), nI_add, Nat.mul_comm (m / 1000) 1000]
    exact k
theorem q_s345 {σ : SG} {ν : NU} {γ ρ : RH} {n np X a p : Nat} {post : Int32 → SG → NU → Prop} {κ1 : SG → NU → RH → Int32 → Int32 → Int32 → Int32 → Prop} {x7 x9 x12 : Int32} {b : Nat} (hS : SIM σ ν γ n np) (ha : a < np) (hb : b < np) (hp : p < np) (hbt : (cv9 n np γ).1 b = true) (hpt : (cv9 n np γ).1 p = true) (hc : ((cv9 n np γ).2.2.1 p = nI b ∧ b = a) ∨ ((cv9 n np γ).2.2.1 p ≠ nI b ∧ ck (cv9 n np γ) b < ck (cv9 n np γ) p)) (k : ∃ f, f ≤ 7 ∧ wL_areSound_417 (nI X) κ1 post f σ ν ρ 1 x7 x9 (nI p) x12 0) : jL_areSound_345 (nI X) κ1 post σ ν ρ 1 x7 (nI a) x9 (nI p) ((cv9 n np γ).2.2.1 p) x12 (nI b) := by
  have h20 := hS.h8.2.1
  have hG := hS.gd
  unfold jL_areSound_345
  rw [if_neg z1I, ti_n (show a < 2147483648 by omega), if_neg (by omega), ti_n (show b < 2147483648 by omega), if_neg (by omega)]
  rcases hc with ⟨h1, h2⟩ | ⟨h1, h2⟩
  · rw [h1, ti_n (by omega), if_pos rfl, if_pos (by omega)]
    exact k
  · rw [if_neg (fun z => h1 (ti_eq.mp (by rw [ti_n (by omega)]; exact z.symm)))]
    refine y_label hS (fun z => absurd (show 0 ≤ (nI b).toInt ∧ (nI b).toInt < np by rw [ti_n (by omega)]; omega) z) (fun k1 hk1 e1 => ?_)
    have q1 : b = k1 := nI_inj (by omega) (by omega) e1
    subst q1
    obtain ⟨b1, -, b3⟩ := lb9_in hG (by omega) hbt
    obtain ⟨p1, -, p3⟩ := lb9_in hG (by omega) hpt
    rw [b1]
    refine q_key b3 (y_label hS (fun z => absurd (show 0 ≤ (nI p).toInt ∧ (nI p).toInt < np by rw [ti_n (by omega)]; omega) z) (fun k2 hk2 e2 => ?_))
    have q2 : p = k2 := nI_inj (by omega) (by omega) e2
    subst q2
    rw [p1]
    refine q_key p3 ?_
    rw [ck_ti (hG.2.2.1 _ (by omega) hbt), ck_ti (hG.2.2.1 _ (by omega) hpt), if_pos h2]
    exact k
theorem q_s301 {σ : SG} {ν : NU} {γ ρ : RH} {n np X a p : Nat} {post : Int32 → SG → NU → Prop} {κ1 : SG → NU → RH → Int32 → Int32 → Int32 → Int32 → Prop} {x7 x9 x12 : Int32} (hS : SIM σ ν γ n np) (ha : a < np) (hp : p < np) (hpt : (cv9 n np γ).1 p = true) (k : ∃ f, f ≤ 7 ∧ wL_areSound_417 (nI X) κ1 post f σ ν ρ 1 x7 x9 (nI p) x12 0) : ∀ (d t b : Nat), t + d ≤ 19 → b < np → (cv9 n np γ).1 b = true → BH (cv9 n np γ) p d b → wL_areSound_301 (nI X) κ1 post (d + 1) σ ν ρ 1 x7 (nI a) x9 (nI p) ((cv9 n np γ).2.2.1 p) x12 (nI b) (nI t) := by
  have h20 := hS.h8.2.1
  have hG := hS.gd
  intro d
  induction d with
  | zero =>
    intro t b htd hb hbt h
    obtain ⟨h1, h2, h3⟩ := h
    unfold wL_areSound_301
    rw [ti_n (show t < 2147483648 by omega), if_pos (by omega), ti_n (show b < 2147483648 by omega), if_neg (by omega)]
    refine y_parent hS (fun z => absurd (show 0 ≤ (nI b).toInt ∧ (nI b).toInt < np by rw [ti_n (by omega)]; omega) z) (fun k1 hk1 e1 => ?_)
    have q1 : b = k1 := nI_inj (by omega) (by omega) e1
    subst q1
    rw [show pa9 (cv9 n np γ) b = (cv9 n np γ).2.2.1 b from if_pos hbt, if_pos (by rw [h2])]
    exact q_s345 hS ha hb hp hbt hpt (Or.inr ⟨h1, h3⟩) k
  | succ d ih =>
    intro t b htd hb hbt h
    obtain ⟨h1, h2, r, hr, hrt, er, h3⟩ := h
    have hrn : r < np := hG.1.1 r hr hrt
    unfold wL_areSound_301
    rw [ti_n (show t < 2147483648 by omega), if_pos (by omega), ti_n (show b < 2147483648 by omega), if_neg (by omega)]
    refine y_parent hS (fun z => absurd (show 0 ≤ (nI b).toInt ∧ (nI b).toInt < np by rw [ti_n (by omega)]; omega) z) (fun k1 hk1 e1 => ?_)
    have q1 : b = k1 := nI_inj (by omega) (by omega) e1
    subst q1
    rw [show pa9 (cv9 n np γ) b = (cv9 n np γ).2.2.1 b from if_pos hbt, if_neg (fun z => h2 (ti_eq.mp z).symm), if_neg (fun z => h1 (ti_eq.mp (by rw [ti_n (by omega)]; exact z.symm)))]
    refine y_parent hS (fun z => absurd (show 0 ≤ (nI b).toInt ∧ (nI b).toInt < np by rw [ti_n (by omega)]; omega) z) (fun k2 hk2 e2 => ?_)
    have q2 : b = k2 := nI_inj (by omega) (by omega) e2
    subst q2
    rw [show pa9 (cv9 n np γ) b = (cv9 n np γ).2.2.1 b from if_pos hbt, er, nI_1]
    exact ih (t + 1) r (by omega) hrn hrt h3
/-- the first, and each that comes behind another -/
theorem q_s292 {σ : SG} {ν : NU} {γ ρ : RH} {n np X p : Nat} {post : Int32 → SG → NU → Prop} {κ1 : SG → NU → RH → Int32 → Int32 → Int32 → Int32 → Prop} {x7 x9 x12 : Int32} {pre rest : List Nat} (hS : SIM σ ν γ n np) (hls : ls9 (cv9 n np γ) = pre ++ p :: rest) (hp : p < np) (hpt : (cv9 n np γ).1 p = true) (k : ∃ f, f ≤ 7 ∧ wL_areSound_417 (nI X) κ1 post f σ ν ρ 1 x7 x9 (nI p) x12 0) : jL_areSound_292 (nI X) κ1 post σ ν ρ x7 (oI pre.getLast?) x9 (nI p) ((cv9 n np γ).2.2.1 p) x12 1 := by
  have h20 := hS.h8.2.1
  have hG := hS.gd
  unfold jL_areSound_292
  rcases List.eq_nil_or_concat pre with e | ⟨pre0, a, e⟩
  · subst e
    refine ⟨np + 1, ?_⟩
    rw [show oI ([] : List Nat).getLast? = -1 from rfl]
    unfold wL_areSound_301
    rw [z0I, if_pos (by decide), if_pos (by decide)]
    unfold jL_areSound_345
    rw [if_neg z1I, if_pos (by decide), ls9_first hG hls, if_pos ti_m1]
    exact k
  · rw [List.concat_eq_append] at e
    subst e
    have hls' : ls9 (cv9 n np γ) = pre0 ++ a :: p :: rest := by rw [hls]; simp
    obtain ⟨ha20, hat⟩ := (ls9_len hG).2 a (by rw [hls']; simp)
    have ha : a < np := hG.1.1 a ha20 hat
    rw [List.getLast?_concat, oI_some]
    rcases ls9_next hG hls' with q | ⟨-, d, hd, q⟩
    · refine ⟨np + 1, ?_⟩
      have fin := q_s345 (X := X) (post := post) (κ1 := κ1) (x7 := x7) (x9 := x9) (x12 := x12) (ρ := ρ) hS ha ha hp hat hpt (Or.inl ⟨q, rfl⟩) k
      unfold wL_areSound_301
      rw [z0I, if_pos (by decide), ti_n (show a < 2147483648 by omega), if_neg (by omega)]
      refine y_parent hS (fun z => absurd (show 0 ≤ (nI a).toInt ∧ (nI a).toInt < np by rw [ti_n (by omega)]; omega) z) (fun k1 hk1 e1 => ?_)
      refine i_both fin ?_
      rw [if_pos (by rw [q, ti_n (by omega)])]
      exact fin
    · exact ⟨d + 1, q_s301 hS ha hp hpt k d 0 a (by omega) ha hat q⟩
theorem q_s152 {γ ρ : RH} {n np X : Nat} {post : Int32 → SG → NU → Prop} (e2 : ρ 0 2 = nI n) (e3 : ρ 0 3 = nI np) (hX : X < 2147483648) (k : ∀ σ ν, SIM σ ν γ n np → post 1 σ ν) : ∀ (r w : Nat) (pre rest : List Nat) (B : Nat) (σ : SG) (ν : NU), w + r = np + 1 → SIM σ ν γ n np → ls9 (cv9 n np γ) = pre ++ rest → (rest ≠ [] → pre.length = w) → pre.length ≤ w → BT B pre → wL_areSound_152 (nI X) post (r + 1) σ ν ρ 1 (nI B) (oI pre.getLast?) (nI w) := by
  intro r
  induction r with
  | zero =>
    intro w pre rest B σ ν hw hS hls h1 h2 hB
    have h20 := hS.h8.2.1
    have hG := hS.gd
    obtain ⟨hlen, hmem⟩ := ls9_len hG
    have hle : (ls9 (cv9 n np γ)).length ≤ np := Nat.le_trans (nodup_cn9 np _ (ls9_nodup hG) (fun x hx => ⟨hG.1.1 x (hmem x hx).1 (hmem x hx).2, (hmem x hx).2⟩)) (cn9_le np)
    have hr : rest = [] := by
      rcases rest with _ | ⟨p, rest⟩
      · rfl
      · have := h1 (by simp)
        rw [hls, List.length_append, List.length_cons] at hle
        omega
    rw [hr, List.append_nil] at hls
    unfold wL_areSound_152
    refine ⟨k14 (i := 3) (by decide), ?_⟩
    rw [show ((3 : Int32)).toNatClampNeg = 3 from rfl, e3, ti_n (by omega), ti_n (by omega), if_neg (by omega)]
    exact ⟨np + 1, q_s687 hS e3 (by rw [hls]; exact hB) (k σ ν hS) np 0 (by omega)⟩
  | succ r ih =>
    intro w pre rest B σ ν hw hS hls h1 h2 hB
    have h20 := hS.h8.2.1
    have hG := hS.gd
    obtain ⟨hlen, hmem⟩ := ls9_len hG
    have hle : (ls9 (cv9 n np γ)).length ≤ np := Nat.le_trans (nodup_cn9 np _ (ls9_nodup hG) (fun x hx => ⟨hG.1.1 x (hmem x hx).1 (hmem x hx).2, (hmem x hx).2⟩)) (cn9_le np)
    unfold wL_areSound_152
    refine ⟨k14 (i := 3) (by decide), ?_⟩
    rw [show ((3 : Int32)).toNatClampNeg = 3 from rfl, e3, ti_n (show w < 2147483648 by omega), ti_n (show np < 2147483648 by omega), if_pos (by omega), if_neg z1I]
    refine y_provisionAt hS (fun z => absurd z (by rw [ti_n (by omega)]; omega)) (fun k1 hk1 ek => ?_)
    have q1 : w = k1 := nI_inj (by omega) (by omega) ek
    subst q1
    rcases rest with _ | ⟨p, rest⟩
    · rw [List.append_nil] at hls
      rw [List.getElem?_eq_none (by rw [hls]; exact h2), oI_none, if_pos (by decide), if_pos ti_m1]
      refine ⟨k14 (i := 3) (by decide), ?_⟩
      rw [if_pos (by omega), nI_1]
      exact ih (w + 1) pre [] B σ ν (by omega) hS (by rw [hls, List.append_nil]) (fun z => absurd rfl z) (by omega) hB
    · have hpl : pre.length = w := h1 (by simp)
      have hg : (ls9 (cv9 n np γ))[w]? = some p := by
        rw [hls, ← hpl, List.getElem?_append_right (Nat.le_refl _), Nat.sub_self]
        rfl
      obtain ⟨hp20, hpt⟩ := hmem p (by rw [hls]; simp)
      have hp : p < np := hG.1.1 p hp20 hpt
      have hwn : w < np := by
        rw [hls, List.length_append, List.length_cons] at hle
        omega
      have hin : ¬ ¬ (0 ≤ (nI p).toInt ∧ (nI p).toInt < np) := fun z => z (by rw [ti_n (by omega)]; omega)
      have hl12 : ((cv9 n np γ).2.2.2.1 p).length ≤ 12 := ((hS.2.1.1 p hp20).2 hpt).2.2.1
      rw [hg, oI_some, ti_n (show p < 2147483648 by omega), if_neg (by omega)]
      refine y_parent hS (fun z => absurd z hin) (fun k2 hk2 e4 => ?_)
      have q2 : p = k2 := nI_inj (by omega) (by omega) e4
      subst q2
      refine y_words hS (fun z => absurd z hin) (fun k3 hk3 e5 => ?_)
      have q3 : p = k3 := nI_inj (by omega) (by omega) e5
      subst q3
      rw [show pa9 (cv9 n np γ) p = (cv9 n np γ).2.2.1 p from if_pos hpt, show wc9 (cv9 n np γ) p = nI ((cv9 n np γ).2.2.2.1 p).length from if_pos hpt]
      refine ⟨k14 (i := 3) (by decide), ?_⟩
      have hnd := ls9_nodup hG
      rw [hls] at hnd
      have hnp : ¬ p ∈ pre := fun z => (List.nodup_append.mp hnd).2.2 p z p List.mem_cons_self rfl
      rw [if_pos (by omega), if_pos ((BT_bit hB hp20).2.mpr hnp)]
      -- behind it all
      have nx : ∀ σ' ν', SIM σ' ν' γ n np → wL_areSound_152 (nI X) post (r + 1) σ' ν' ρ 1 (nI (B ||| 2 ^ p)) (nI p) (nI w + 1) := fun σ' ν' hS' => by
        have := ih (w + 1) (pre ++ [p]) rest (B ||| 2 ^ p) σ' ν' (by omega) hS' (by rw [hls]; simp) (fun _ => by simp [hpl]) (by simp [hpl]) (BT_up hB hp20)
        rw [List.getLast?_concat, oI_some, ← nI_1] at this
        exact this
      have fin : jL_areSound_229 (nI X) (wL_areSound_152 (nI X) post (r + 1)) post σ ν ρ (nI B) (oI pre.getLast?) (nI w) (nI p) ((cv9 n np γ).2.2.1 p) (nI ((cv9 n np γ).2.2.2.1 p).length) := by
        unfold jL_areSound_229
        rw [ti_n (show ((cv9 n np γ).2.2.2.1 p).length < 2147483648 by omega), if_neg (by omega), if_pos (by omega)]
        refine y_label hS (fun z => absurd z hin) (fun k4 hk4 e6 => ?_)
        have q4 : p = k4 := nI_inj (by omega) (by omega) e6
        subst q4
        obtain ⟨b1, b2, b3⟩ := lb9_in hG hp20 hpt
        rw [b1, ti_n (by omega), if_neg (by omega)]
        unfold wpL_does_10
        refine y_wordAt hS (fun _ => hx_iob (i81 ?_)) (fun k5 j5 hk5 e7 ht5 hj5 e8 => ?_)
        rotate_left
        · have q5 : p = k5 := nI_inj (by omega) (by omega) e7
          subst q5
          have q6 : ((cv9 n np γ).2.2.2.1 p).length = j5 := nI_inj (by omega) (by omega) e8
          omega
        unfold wpL_does_11
        refine y_wordAnew hS (fun z => absurd z hin) (fun z => absurd z (by rw [ti_n (by omega)]; omega)) (fun k6 j6 hk6 e9 hj6 e10 σ' hS' => ?_)
        have q7 : p = k6 := nI_inj (by omega) (by omega) e9
        subst q7
        have q8 : ((cv9 n np γ).2.2.2.1 p).length = j6 := nI_inj (by omega) hj6 e10
        have ew : wat9 (cv9 n np γ) p j6 = -1 := by
          unfold wat9
          rw [if_pos hpt, List.getElem?_eq_none (by omega)]
        rw [ew]
        refine i_m1 ?_
        exact q_s292 hS' hls hp hpt ⟨7, Nat.le_refl _, q_s417 e2 e3 hX hp hpt hl12 nx 6 0 rfl σ' ν hS'⟩
      rcases ls9_up hG (pre ++ [p]) rest (by rw [hls]; simp) p (by simp) with e | ⟨u, hu, hum, e⟩
      · rw [if_pos (by rw [e]; exact ti_m1)]
        exact fin
      · have hne : u ≠ p := fun z => by
          have hd := dep_rec hG.1 hp20 hpt
          rw [e, z] at hd
          omega
        have hup : u ∈ pre := by
          rcases List.mem_append.mp hum with h | h
          · exact h
          · exact absurd (List.mem_singleton.mp h) hne
        rw [if_neg (by rw [e, ti_n (by omega)]; omega), if_pos (by rw [e]; exact (BT_bit hB hu).1.mpr hup)]
        exact fin
/-- all of it -/
theorem q_sound {σ : SG} {ν : NU} {γ ρ : RH} {n np X : Nat} {post : Int32 → SG → NU → Prop} (hS : SIM σ ν γ n np) (hL : LKW γ ρ n np) (hX : X < 2147483648) (k : ∀ σ' ν', SIM σ' ν' γ n np → post 1 σ' ν') : wpL_areSound σ ν ρ (nI X) post := by
  obtain ⟨-, e2, e3, -, hV, -, hI⟩ := hL
  have h20 := hS.h8.2.1
  refine ⟨n + 1, q_s6 hS e2 hI hV ⟨np + 2, by omega, ?_⟩ n 0 (by omega)⟩
  exact q_s152 e2 e3 hX k (np + 1) 0 [] (ls9 (cv9 n np γ)) 0 σ ν (by omega) hS rfl (fun _ => rfl) (Nat.le_refl _) BT_0
