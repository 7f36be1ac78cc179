/-! What the reference answers of a view: its walk, how many are there, its print. -/
theorem li1000 : (1000 : Int32) = nI 1000 := rfl
theorem li27 : (27 : Int32) = nI 27 := rfl
theorem md9 {m d : Nat} (hm : m < 2 ^ 31) (h0 : 0 < d) (hd : d < 2 ^ 31) : nI m - nI m / nI d * nI d = nI (m % d) := by
  rw [pk_div hm h0 hd, pk_mul, pk_sub (Nat.div_mul_le_self m d)]
  congr 1
  have := Nat.div_add_mod m d
  rw [Nat.mul_comm] at this
  omega
theorem s_key {ρ : RH} {m : Nat} {post : Int32 → Prop} (hm : m < 100000) (k : post (nI (kyN m))) : wpX7_key ρ (nI m) post := by
  unfold wpX7_key
  rw [li1000, md9 (by omega) (by decide) (by decide), pk_div (by omega) (by decide) (by decide), li27, pk_mul, pk_mul, nI_add, nI_add, ti_n (by omega)]
  unfold kyN at k
  by_cases c : m % 1000 < 27
  · rw [if_pos c] at k
    rw [if_pos (by omega)]
    exact k
  · rw [if_neg c] at k
    rw [if_neg (by omega)]
    exact k
theorem s_rank {σ : SG} {ν : NU} {m : Nat} {post : Int32 → Prop} (hm : m < 100000) (k : post (nI (kyN m))) : wpX5_rank σ ν (nI m) post := by
  have e : nI m - nI (m % 1000) = nI (1000 * (m / 1000)) := by
    rw [pk_sub (Nat.mod_le m 1000)]
    congr 1
    omega
  unfold wpX5_rank
  rw [li1000, md9 (by omega) (by decide) (by decide), e, li27, pk_mul, nI_add, nI_add, ti_n (by omega)]
  unfold kyN at k
  by_cases c : m % 1000 < 27
  · rw [if_pos c, Nat.mul_comm 27] at k
    rw [if_pos (by omega)]
    exact k
  · rw [if_neg c] at k
    rw [if_neg (by omega)]
    exact k
theorem ck_ti {C : CS} {p : Nat} (h : okl (C.2.1 p)) : (nI (kyN (lbN C p))).toInt = ck C p := by
  have := kyN_lt (okl_lb h).2.2.1
  exact ti_n (by omega)
theorem oI_some {v : Nat} : oI (some v) = nI v := rfl
theorem oI_none : oI none = -1 := rfl
/-- what a query stands on: the rows of a view, whose code hangs together -/
def RV (n np : Nat) (ρ : RH) (C : CS) : Prop := RSC n ρ C ∧ ρ 12 0 = nI np ∧ np ≤ 20 ∧ ρ 11 0 = nI n ∧ n ≤ 40 ∧ INV np C ∧ ∀ p, p < 20 → C.1 p = true → okl (C.2.1 p)
theorem RV.off {n np : Nat} {ρ : RH} {C : CS} (h : RV n np ρ C) {k : Nat} (h1 : np ≤ k) (h2 : k < 20) : C.1 k = false := by
  cases e : C.1 k with
  | false => rfl
  | true => have := h.2.2.2.2.2.1.1 k h2 e; omega
theorem s_nextChild {n np : Nat} {ρ : RH} {C : CS} {o b : Int32} {post : Int32 → Prop} (h : RV n np ρ C) (k : post (oI (nx9 C o b.toInt))) : wpX7_nextChild ρ o b post := by
  obtain ⟨hR, hnp, h20, -, -, hI, hL⟩ := id h
  have hx : nx9 C o b.toInt = nxs C o b.toInt np := nxs_ext h20 (fun k h1 h2 => h.off h1 h2)
  rw [hx] at k
  have key : ∀ d j, j + d = np → wX7_nextChild_5 o b post (d + 1) ρ (oI (nxs C o b.toInt j)) (nI j) := by
    intro d
    induction d with
    | zero =>
      intro j hj
      have hjn : j = np := by omega
      subst hjn
      unfold wX7_nextChild_5
      rw [hnp, if_neg (by omega)]
      exact k
    | succ d ih =>
      intro j hj
      have hj20 : j < 20 := by omega
      have hc : (nI j).toNatClampNeg = j := cl_n (by omega)
      have hv : vp_in (nI j) 20 := vi_n hj20 (by decide)
      have hno : chl C o b.toInt j = false → jX7_nextChild_54 o b (wX7_nextChild_5 o b post (d + 1)) post ρ (oI (nxs C o b.toInt j)) (nI j) 0 := fun q => by
        unfold jX7_nextChild_54
        rw [if_pos z0I, li1, nI_add]
        have := ih (j + 1) (by omega)
        simp only [nxs, q] at this
        exact this
      unfold wX7_nextChild_5
      rw [hnp, ti_n (by omega), ti_n (by omega), if_pos (by omega), hc]
      refine ⟨hv, ?_⟩
      rw [(hR.1 j hj20).1]
      cases ht : C.1 j with
      | false =>
        rw [show bI (false = true) = 0 from bI_f (by decide), if_pos z0I]
        exact hno (by simp [chl, ht])
      | true =>
        rw [show bI (true = true) = 1 from bI_t rfl, if_neg z1I]
        obtain ⟨r1, r2, -⟩ := (hR.1 j hj20).2 ht
        obtain ⟨l1, l2, l3, -⟩ := okl_lb (hL j hj20 ht)
        have l4 := ck_ti (hL j hj20 ht)
        refine ⟨hv, ?_⟩
        rw [r2]
        by_cases e : C.2.2.1 j = o
        · rw [if_pos (ti_eq.mpr e)]
          refine ⟨hv, ?_⟩
          rw [r1, l1]
          refine s_key l3 ?_
          rw [l4]
          by_cases e2 : ck C j ≤ b.toInt
          · rw [if_pos e2]
            exact hno (by simp only [chl, decide_eq_false (show ¬ b.toInt < ck C j by omega), Bool.and_false])
          · rw [if_neg e2]
            have hch : chl C o b.toInt j = true := chl_iff.mpr ⟨ht, e, by omega⟩
            unfold jX7_nextChild_54
            rw [if_neg z1I, li1, nI_add, hc]
            have ih' := ih (j + 1) (by omega)
            simp only [nxs, hch, if_true] at ih'
            cases hx2 : nxs C o b.toInt j with
            | none =>
              rw [hx2] at ih'
              rw [oI_none, if_pos ti_m1]
              exact ih'
            | some m =>
              rw [hx2] at ih'
              obtain ⟨m1, m2, -⟩ := nxs_some hx2
              have mt := (chl_iff.mp m2).1
              have hcm : (nI m).toNatClampNeg = m := cl_n (by omega)
              obtain ⟨n1, n2, n3, -⟩ := okl_lb (hL m (by omega) mt)
              have n4 := ck_ti (hL m (by omega) mt)
              obtain ⟨s1, -, -⟩ := (hR.1 m (by omega)).2 mt
              rw [oI_some, ti_n (by omega), if_neg (by omega)]
              refine ⟨hv, ?_⟩
              rw [r1, l1]
              refine s_key l3 ⟨vi_n (by omega) (by decide), ?_⟩
              rw [hcm, s1, n1]
              refine s_key n3 ?_
              rw [l4, n4]
              by_cases e3 : ck C j < ck C m
              · rw [if_pos e3]
                simp only [e3, if_true] at ih'
                exact ih'
              · rw [if_neg e3]
                simp only [e3, if_false] at ih'
                exact ih'
        · rw [if_neg (fun q => e (ti_eq.mp q))]
          exact hno (by simp [chl, e])
  exact ⟨np + 1, key np 0 (by omega)⟩
theorem head_oI {l : List Nat} {c : Nat} : oI (c :: l).head? = nI c := rfl
/-- the next one behind o and all that is in it -/
theorem s_behind {n np : Nat} {ρ ρ0 : RH} {J : List Nat} {C : CS} {o : Int32} {post : Int32 → Prop} (h : RV n np ρ C) (hG : GD n np ρ0 J C) (ho : plc C o) (k : post (oI (wkf C o (-1)).head?)) : wpX7_behind ρ o post := by
  obtain ⟨hR, hnp, h20, -, -, hI, hL⟩ := id h
  unfold wpX7_behind
  refine s_nextChild h ?_
  rw [ti_m1]
  have key : ∀ (f : Nat) (a0 x : Int32) (b : Int), plc C x → stp C x b ≤ f → post (oI (wkf C x b).head?) → wX7_behind_9 a0 post (f + 1) ρ (oI (nx9 C x b)) x := by
    intro f
    induction f with
    | zero => intro a0 x b _ hs; unfold stp at hs; omega
    | succ f ih =>
      intro a0 x b hx hs hk
      unfold wX7_behind_9
      cases e : nx9 C x b with
      | some c =>
        obtain ⟨hc, hct, hco⟩ := nx_plc e
        rw [oI_some, ti_n (by omega), if_neg (by omega)]
        rw [wkf_some hG hx e, head_oI] at hk
        exact hk
      | none =>
        rw [oI_none, if_pos ti_m1]
        rcases hx with rfl | ⟨p, hp, rfl, ht⟩
        · rw [if_pos ti_m1]
          rw [wkf_end e] at hk
          exact hk
        · have hcp : (nI p).toNatClampNeg = p := cl_n (by omega)
          have hv : vp_in (nI p) 20 := vi_n hp (by decide)
          obtain ⟨r1, r2, -⟩ := (hR.1 p hp).2 ht
          obtain ⟨l1, l2, l3, -⟩ := okl_lb (hL p hp ht)
          have l4 := ck_ti (hL p hp ht)
          rw [ti_n (by omega), if_neg (by omega), hcp]
          refine ⟨hv, hv, ?_⟩
          rw [r1, l1]
          refine s_key l3 ?_
          rw [r2]
          refine s_nextChild h ⟨hv, ?_⟩
          rw [l4]
          rw [wkf_none hG hp ht e] at hk
          exact ih a0 _ _ (plc_par hI hp ht) (by have := stp_none hG hp ht e; omega) hk
  exact ⟨_, key _ o o (-1) ho (Nat.le_refl _) k⟩
theorem s_there {n np : Nat} {ρ : RH} {C : CS} {post : Int32 → Prop} (h : RV n np ρ C) (k : post (nI (cn9 C.1 20))) : wpX7_there ρ post := by
  obtain ⟨hR, hnp, h20, -, -, hI, hL⟩ := id h
  have he : cn9 C.1 20 = cn9 C.1 np := by
    have : ∀ m, np ≤ m → m ≤ 20 → cn9 C.1 m = cn9 C.1 np := by
      intro m
      induction m with
      | zero => intro h1 _; have : np = 0 := by omega
                rw [this]
      | succ m ih =>
        intro h1 h2
        by_cases e : np = m + 1
        · rw [e]
        · show cn9 C.1 m + (if C.1 m = true then 1 else 0) = _
          rw [ih (by omega) (by omega), h.off (by omega) (by omega)]
          rfl
    exact this 20 h20 (Nat.le_refl _)
  rw [he] at k
  have key : ∀ d j, j + d = np → wX7_there_4 post (d + 1) ρ (nI (cn9 C.1 j)) (nI j) := by
    intro d
    induction d with
    | zero =>
      intro j hj
      have hjn : j = np := by omega
      subst hjn
      unfold wX7_there_4
      rw [hnp, if_neg (by omega)]
      exact k
    | succ d ih =>
      intro j hj
      have hj20 : j < 20 := by omega
      have hc : (nI j).toNatClampNeg = j := cl_n (by omega)
      have hih := ih (j + 1) (by omega)
      have es : cn9 C.1 (j + 1) = cn9 C.1 j + (if C.1 j = true then 1 else 0) := rfl
      rw [es] at hih
      unfold wX7_there_4
      rw [hnp, ti_n (by omega), ti_n (by omega), if_pos (by omega), hc]
      refine ⟨vi_n hj20 (by decide), ?_⟩
      rw [(hR.1 j hj20).1]
      cases ht : C.1 j with
      | false =>
        rw [show bI (false = true) = 0 from bI_f (by decide), if_pos z0I]
        unfold jX7_there_27
        rw [Int32.add_zero, li1, nI_add]
        rw [ht] at hih
        exact hih
      | true =>
        rw [show bI (true = true) = 1 from bI_t rfl, if_neg z1I]
        unfold jX7_there_27
        rw [li1, nI_add, nI_add]
        rw [ht] at hih
        exact hih
  exact ⟨np + 1, key np 0 (by omega)⟩
/-- the print: a text, a provision, a list of them -/
def pw9 : TXT → Int64 → Int64
  | [], x => x
  | a :: t, x => pw9 t ((((31 : Int64)) * ((((31 : Int64)) * x) + a.1.toInt64)) + a.2.toInt64)
def p19 (C : CS) (x : Int64) (p : Nat) : Int64 := pw9 (C.2.2.2.1 p) ((((31 : Int64)) * ((((31 : Int64)) * ((((31 : Int64)) * x) + (nI p).toInt64)) + (C.2.1 p).toInt64)) + (nI (C.2.2.2.1 p).length).toInt64)
def pl8 (C : CS) : List Nat → Int64 → Int64
  | [], x => x
  | p :: l, x => pl8 C l (p19 C x p)
theorem pw9_snoc {a : Int32 × Int32} : ∀ {t : TXT} {x : Int64}, pw9 (t ++ [a]) x = (((31 : Int64)) * ((((31 : Int64)) * pw9 t x) + a.1.toInt64)) + a.2.toInt64
  | [], _ => rfl
  | _ :: t, _ => pw9_snoc (t := t)
theorem wkf_tl {n np c : Nat} {ρ0 : RH} {J : List Nat} {C : CS} (hG : GD n np ρ0 J C) {l : List Nat} : ∀ (f : Nat) (o : Int32) (b : Int), plc C o → stp C o b ≤ f → wkf C o b = c :: l → l = wkf C (nI c) (-1) := by
  intro f
  induction f with
  | zero => intro o b _ hs; unfold stp at hs; omega
  | succ f ih =>
    intro o b ho hs he
    cases e2 : nx9 C o b with
    | some c2 =>
      rw [wkf_some hG ho e2] at he
      injection he with h1 h2
      rw [← h1, ← h2]
    | none =>
      rcases ho with rfl | ⟨p, hp, rfl, ht⟩
      · rw [wkf_end e2] at he; cases he
      · rw [wkf_none hG hp ht e2] at he
        exact ih _ _ (plc_par hG.1 hp ht) (by have := stp_none hG hp ht e2; omega) he
theorem s_print {n np : Nat} {ρ ρ0 : RH} {J : List Nat} {C : CS} {post : Int64 → RH → Prop} (h : RV n np ρ C) (hG : GD n np ρ0 J C) (k : post (pl8 C (ls9 C) 11) ρ) : wpX7_behind ρ ((-1 : Int32)) (fun r4 => ∃ f, wX7_print_19 post f ρ ((11 : Int64)) r4) := by
  obtain ⟨hR, hnp, h20, -, -, hI, hL⟩ := id h
  refine s_behind h hG (Or.inl rfl) ?_
  have main : ∀ (f : Nat) (o : Int32) (x : Int64), plc C o → (wkf C o (-1)).length ≤ f → post (pl8 C (wkf C o (-1)) x) ρ → wX7_print_19 post (f + 1) ρ x (oI (wkf C o (-1)).head?) := by
    intro f
    induction f with
    | zero =>
      intro o x ho hl hk
      have e : wkf C o (-1) = [] := List.length_eq_zero_iff.mp (by omega)
      rw [e] at hk ⊢
      unfold wX7_print_19
      rw [show oI ([] : List Nat).head? = -1 from rfl, if_pos ti_m1]
      exact hk
    | succ f ih =>
      intro o x ho hl hk
      unfold wX7_print_19
      cases e : wkf C o (-1) with
      | nil =>
        rw [e] at hk
        rw [show oI ([] : List Nat).head? = -1 from rfl, if_pos ti_m1]
        exact hk
      | cons c l =>
        have hc : c < 20 ∧ C.1 c = true := (wkf_len hG _ o (-1) ho (Nat.le_refl _)).2 c (by rw [e]; exact List.mem_cons_self)
        obtain ⟨hc20, hct⟩ := hc
        have hcc : (nI c).toNatClampNeg = c := cl_n (by omega)
        have hv : vp_in (nI c) 20 := vi_n hc20 (by decide)
        have hl2 := wkf_tl hG _ o (-1) ho (Nat.le_refl _) e
        rw [head_oI, ti_n (by omega), if_neg (by omega), hcc]
        refine ⟨hv, hv, ?_⟩
        obtain ⟨r1, r2, rT⟩ := (hR.1 c hc20).2 hct
        obtain ⟨t1, t2, t3⟩ := rT
        rw [r1, t2]
        refine ⟨(C.2.2.2.1 c).length + 1, ?_⟩
        have words : ∀ d j, j + d = (C.2.2.2.1 c).length → ∀ y : Int64, y = pw9 ((C.2.2.2.1 c).take j) ((((31 : Int64)) * ((((31 : Int64)) * ((((31 : Int64)) * x) + (nI c).toInt64)) + (C.2.1 c).toInt64)) + (nI (C.2.2.2.1 c).length).toInt64) → wX7_print_60 (wX7_print_19 post (f + 1)) post (d + 1) ρ y (nI c) (nI j) := by
          intro d
          induction d with
          | zero =>
            intro j hj y hy
            unfold wX7_print_60
            refine ⟨hv, ?_⟩
            rw [hcc, t2, ti_n (by omega), ti_n (by omega), if_neg (by omega)]
            refine s_behind h hG (Or.inr ⟨c, hc20, rfl, hct⟩) ?_
            refine ih (nI c) y (Or.inr ⟨c, hc20, rfl, hct⟩) (by rw [← hl2]; rw [e] at hl; simpa using hl) ?_
            rw [← hl2]
            rw [List.take_of_length_le (by omega)] at hy
            rw [e] at hk
            have : pl8 C (c :: l) x = pl8 C l y := by rw [hy]; rfl
            rw [← this]
            exact hk
          | succ d ih2 =>
            intro j hj y hy
            have hjl : j < (C.2.2.2.1 c).length := by omega
            unfold wX7_print_60
            refine ⟨hv, ?_⟩
            rw [hcc, t2, ti_n (by omega), ti_n (by omega), if_pos (by omega), li12, pk_mul, nI_add, cl_n (by omega), (t3 j hjl).1, (t3 j hjl).2, li1, nI_add]
            refine ⟨vi_n (by omega) (by decide), vi_n (by omega) (by decide), ih2 (j + 1) (by omega) _ ?_⟩
            rw [List.take_succ_eq_append_getElem hjl, pw9_snoc, hy]
        exact words _ 0 (by omega) _ (by rfl)
  exact ⟨_, main _ (-1) 11 (Or.inl rfl) (Nat.le_refl _) k⟩
theorem s_provisionAt {n np : Nat} {ρ ρ0 : RH} {J : List Nat} {C : CS} {p1 : Int32} {post : Int32 → RH → Prop} (h : RV n np ρ C) (hG : GD n np ρ0 J C) (h0 : ¬ p1.toInt < 0) (k : post (oI (ls9 C)[p1.toNatClampNeg]?) ρ) : wpX7_behind ρ ((-1 : Int32)) (fun r6 => ∃ f, wX7_provisionAt_30 p1 post f ρ r6 ((0 : Int32))) := by
  refine s_behind h hG (Or.inl rfl) ?_
  have hp : p1 = nI p1.toNatClampNeg := by
    have hr := zb_rng p1
    have e : (p1.toNatClampNeg : Int) = p1.toInt := Int.toNat_of_nonneg (by omega)
    refine ti_inj ?_
    rw [ti_n (by omega), e]
  have hr := zb_rng p1
  have e9 : (p1.toNatClampNeg : Int) = p1.toInt := Int.toNat_of_nonneg (by omega)
  generalize p1.toNatClampNeg = K at *
  subst hp
  have main : ∀ (l : List Nat) (o : Int32) (d j : Nat), j + d = K → plc C o → wkf C o (-1) = l → post (oI l[d]?) ρ → wX7_provisionAt_30 (nI K) post (l.length + 1) ρ (oI l.head?) (nI j) := by
    intro l
    induction l with
    | nil =>
      intro o d j hj ho he hk
      unfold wX7_provisionAt_30
      split
      · rw [show oI ([] : List Nat).head? = -1 from rfl, if_pos ti_m1]
        exact hk
      · exact hk
    | cons c l ih =>
      intro o d j hj ho he hk
      have hc : c < 20 ∧ C.1 c = true := (wkf_len hG _ o (-1) ho (Nat.le_refl _)).2 c (by rw [he]; exact List.mem_cons_self)
      have hl2 := wkf_tl hG _ o (-1) ho (Nat.le_refl _) he
      unfold wX7_provisionAt_30
      rw [ti_n (by omega), ti_n (by omega)]
      cases d with
      | zero =>
        rw [if_neg (by omega)]
        exact hk
      | succ d =>
        rw [if_pos (by omega), head_oI, ti_n (by omega), if_neg (by omega), li1, nI_add]
        refine s_behind h hG (Or.inr ⟨c, hc.1, rfl, hc.2⟩) ?_
        rw [← hl2]
        exact ih (nI c) d (j + 1) (by omega) (Or.inr ⟨c, hc.1, rfl, hc.2⟩) hl2.symm (by simpa using hk)
  exact ⟨_, main (ls9 C) (-1) K 0 (by omega) (Or.inl rfl) rfl k⟩
