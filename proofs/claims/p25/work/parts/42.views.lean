/-! A view, in the reference: all that are in effect, done in their order. -/
def bi9 (ρ : RH) (kn : Int32) (i : Nat) : Int := (cm9 ρ kn i).toInt
def or9 (ρ : RH) (n : Nat) (d kn te : Int32) : List Nat := tn9 (bi9 ρ kn) (ef9 ρ d kn te) n
def vw9 (n np : Nat) (ρ : RH) (d kn te : Int32) : CS := run9 np ρ (ef9 ρ d kn te) (or9 ρ n d kn te) (c09 (aw9 ρ))
theorem okd_m1 {d : Int32} (h : okd d) : d ≠ -1 := by
  intro e
  subst e
  have := h.1
  rw [ti_m1] at this
  omega
theorem bg9_ok {n np : Nat} {ρ : RH} {kn : Int32} (hD : DAT n np ρ) : ∀ (f i : Nat), i < n → bg9 ρ kn f i = -1 ∨ okd (bg9 ρ kn f i) := by
  intro f
  induction f with
  | zero => intro i _; exact Or.inl rfl
  | succ f ih =>
    intro i hi
    obtain ⟨-, -, -, -, -, -, -, -, -, -, -, h0, h2, h27, -⟩ := hD.2.2.2.2.1 i hi
    show (if ρ 22 i = 2 then bg9 ρ kn f (ρ 23 i).toNatClampNeg else if ρ 22 i = 0 then ρ 23 i else if kn9 (ρ 26 i) kn = true then ρ 27 i else -1) = -1 ∨ okd (if ρ 22 i = 2 then bg9 ρ kn f (ρ 23 i).toNatClampNeg else if ρ 22 i = 0 then ρ 23 i else if kn9 (ρ 26 i) kn = true then ρ 27 i else -1)
    by_cases c2 : ρ 22 i = 2
    · rw [if_pos c2]
      obtain ⟨w, hw, e⟩ := h2 c2
      have hn := hD.1
      rw [e, cl_n (by omega)]
      exact ih w (by omega)
    · rw [if_neg c2]
      by_cases c0 : ρ 22 i = 0
      · rw [if_pos c0]; exact Or.inr (h0 c0)
      · rw [if_neg c0]
        by_cases ck : kn9 (ρ 26 i) kn = true
        · rw [if_pos ck]
          refine Or.inr (h27 (fun e => ?_))
          simp [kn9, e] at ck
        · rw [if_neg ck]; exact Or.inl rfl
theorem cm9_ok {n np i : Nat} {ρ : RH} {kn : Int32} (hD : DAT n np ρ) (hi : i < n) : cm9 ρ kn i = -1 ∨ okd (cm9 ρ kn i) := by
  unfold cm9
  split
  · exact bg9_ok hD _ _ hi
  · exact Or.inl rfl
theorem ef9_cm {ρ : RH} {d kn te : Int32} {i : Nat} (h : ef9 ρ d kn te i = true) : cm9 ρ kn i ≠ -1 ∧ (cm9 ρ kn i).toInt ≤ d.toInt := by
  unfold ef9 at h
  simp only [Bool.and_eq_true, Bool.not_eq_true', decide_eq_false_iff_not, decide_eq_true_eq] at h
  exact ⟨h.1, h.2.1⟩
theorem ti_inj {x y : Int32} (h : x.toInt = y.toInt) : x = y := ti_eq.mp h
theorem RSC.st {n : Nat} {ρ ρ' : RH} {C : CS} {i : Nat} {x : Int32} (h : RSC n ρ C) (e : ρ' = u2 ρ 36 i x) : RSC n ρ' (st9 C i x) := by
  refine ⟨fun p hp => ?_, fun k hk => ?_⟩
  · rw [e, u2_oth (by decide), u2_oth (by decide), u2_oth (by decide)]
    obtain ⟨h1, h2⟩ := h.1 p hp
    exact ⟨h1, fun ht => ⟨(h2 ht).1, (h2 ht).2.1, (h2 ht).2.2.same (u2_oth (by decide)) (u2_oth (by decide)) (u2_oth (by decide))⟩⟩
  · refine ⟨?_, ((h.2 k hk).2).same (by rw [e]; exact u2_oth (by decide)) (by rw [e]; exact u2_oth (by decide))⟩
    rw [e, u2_at]
    show _ = va_up C.2.2.2.2.1 i x k
    by_cases q : k = i
    · rw [if_pos q, q, va_up_self]
    · rw [if_neg q, va_up_ne _ _ q]; exact (h.2 k hk).1
/-- one of them is done and marked, in the reference -/
theorem s_step {n np i : Nat} {ρ ρ1 : RH} {C : CS} {d kn te : Int32} {post : Int32 → RH → Prop} (hD : DAT n np ρ) (g : lgD ρ ρ1) (h : RSC n ρ1 C) (hi : i < n) (hI : INV np C)
    (k : ∀ (r x : Int32) (t : RH), (r = 0 ∧ x = 2) ∨ (r = 1 ∧ x = 1) → RSC n (u2 t 36 i x) (step9 np ρ (ef9 ρ d kn te) C i) → lgD ρ (u2 t 36 i x) → post r t) : wpX7_does ρ1 (nI i) d kn te post := by
  have hD1 := hD.same g.lo
  have hn := hD.1
  have e9 : do9 np ρ1 C (ef9 ρ1 d kn te) i (pv9 ρ1 i) (sw9 ρ1 i) (aw9 ρ1 i) = do9 np ρ C (ef9 ρ d kn te) i (pv9 ρ i) (sw9 ρ i) (aw9 ρ i) := by
    rw [pv9_same g.lo, sw9_same g.lo, aw9_same g.lo, do9_same g.lo, show ef9 ρ1 d kn te = ef9 ρ d kn te from funext (ef9_same g)]
  refine s_does (p := pv9 ρ1 i) (s := sw9 ρ1 i) (f := aw9 ρ1 i) h hD1.wd hi hn hD1.2.2.2.1 hD1.2.1 (hD1.di hi) hI (fun hd ρ' r1 r2 => ?_) (fun C' hd ρ' r1 r2 => ?_)
  · rw [e9] at hd
    refine k 0 2 ρ' (Or.inl ⟨rfl, rfl⟩) ?_ ((g.tr r2).tr (lgD.u (by decide) (by decide)))
    unfold step9
    rw [hd]
    exact r1.st rfl
  · rw [e9] at hd
    refine k 1 1 ρ' (Or.inr ⟨rfl, rfl⟩) ?_ ((g.tr r2).tr (lgD.u (by decide) (by decide)))
    unfold step9
    rw [hd]
    exact r1.st rfl
/-- what was found among the first j: the least one behind the last -/
def PK (ρ : RH) (d kn te : Int32) (lb li : Int) (j : Nat) (x7 x8 : Int32) : Prop :=
  (x7 = -1 ∧ x8 = 5001 ∧ ∀ k, k < j → ef9 ρ d kn te k = true → ¬ cd9 (bi9 ρ kn) lb li k) ∨
  ∃ m, m < j ∧ x7 = nI m ∧ x8 = cm9 ρ kn m ∧ ef9 ρ d kn te m = true ∧ cd9 (bi9 ρ kn) lb li m ∧ ∀ k, k < j → ef9 ρ d kn te k = true → cd9 (bi9 ρ kn) lb li k → bi9 ρ kn m ≤ bi9 ρ kn k ∧ (bi9 ρ kn m = bi9 ρ kn k → m ≤ k)
theorem PK_step {ρ : RH} {d kn te : Int32} {lb li : Int} {j n np : Nat} {x7 x8 : Int32} (hD : DAT n np ρ) (hd : d.toInt ≤ 5000) (hj : j < n) (h : PK ρ d kn te lb li j x7 x8) :
    (¬ (ef9 ρ d kn te j = true ∧ cd9 (bi9 ρ kn) lb li j ∧ (cm9 ρ kn j).toInt < x8.toInt) → PK ρ d kn te lb li (j + 1) x7 x8) ∧
    (ef9 ρ d kn te j = true → cd9 (bi9 ρ kn) lb li j → (cm9 ρ kn j).toInt < x8.toInt → PK ρ d kn te lb li (j + 1) (nI j) (cm9 ρ kn j)) := by
  have t5 : (5001 : Int32).toInt = 5001 := by decide
  constructor
  · intro hno
    rcases h with ⟨h1, h2, h3⟩ | ⟨m, h1, h2, h3, h4, h5, h6⟩
    · refine Or.inl ⟨h1, h2, fun k hk he hc => ?_⟩
      by_cases e : k = j
      · subst e
        refine hno ⟨he, hc, ?_⟩
        have := (ef9_cm he).2
        rw [h2, t5]
        omega
      · exact h3 k (by omega) he hc
    · refine Or.inr ⟨m, by omega, h2, h3, h4, h5, fun k hk he hc => ?_⟩
      by_cases e : k = j
      · subst e
        have : ¬ (cm9 ρ kn k).toInt < x8.toInt := fun q => hno ⟨he, hc, q⟩
        rw [h3] at this
        refine ⟨by unfold bi9; omega, fun _ => by omega⟩
      · exact h6 k (by omega) he hc
  · intro he hc hl
    refine Or.inr ⟨j, by omega, rfl, rfl, he, hc, fun k hk he2 hc2 => ?_⟩
    by_cases e : k = j
    · subst e; exact ⟨Int.le_refl _, fun _ => Nat.le_refl _⟩
    · rcases h with ⟨h1, h2, h3⟩ | ⟨m, h1, h2, h3, h4, h5, h6⟩
      · exact absurd hc2 (h3 k (by omega) he2)
      · have := (h6 k (by omega) he2 hc2).1
        rw [h3] at hl
        unfold bi9 at *
        refine ⟨by omega, fun q => by omega⟩
theorem s_scan {n np : Nat} {ρ ρ1 : RH} {d kn te x5 x6 : Int32} {κ : RH → Int32 → Int32 → Int32 → Prop} {post : RH → Prop} (hD : DAT n np ρ) (hd : d.toInt ≤ 5000) (g1 : lgD ρ ρ1)
    (fin9 : ∀ x7 x8, PK ρ d kn te x5.toInt x6.toInt n x7 x8 → if x7.toInt = (-1) then jX7_views_231 d kn te κ post ρ1 x5 x6 x7 x8 ((0 : Int32)) else jX7_views_231 d kn te κ post ρ1 x5 x6 x7 x8 ((1 : Int32))) :
    ∀ e j, j + e = n → ∀ x7 x8, PK ρ d kn te x5.toInt x6.toInt j x7 x8 → wX7_views_136 d kn te κ post (e + 1) ρ1 x5 x6 x7 x8 (nI j) := by
  have hD1 := hD.same g1.lo
  have hn := hD.1
  intro e
  induction e with
  | zero =>
    intro j hj x7 x8 hp
    have hjn : j = n := by omega
    subst hjn
    unfold wX7_views_136
    rw [hD1.2.2.1, if_neg (by omega)]
    exact fin9 x7 x8 hp
  | succ e ih =>
    intro j hj x7 x8 hp
    have hjn : j < n := by omega
    obtain ⟨q1, q2⟩ := PK_step hD hd hjn hp
    unfold wX7_views_136
    rw [hD1.2.2.1, ti_n (by omega), ti_n (by omega), if_pos (by omega)]
    refine s_commencesBy hD1.wd hn hjn ?_
    rw [cm9_same g1]
    have fin : ∀ y0 : Int32, (y0.toInt = 0 ↔ ¬ cd9 (bi9 ρ kn) x5.toInt x6.toInt j) → jX7_views_180 d kn te κ (wX7_views_136 d kn te κ post (e + 1)) post ρ1 x5 x6 x7 x8 (nI j) (cm9 ρ kn j) y0 := by
      intro y0 hy
      unfold jX7_views_180
      refine s_isInEffect hD1.wd hn hjn ?_
      rw [ef9_same g1, li1, nI_add]
      split
      · next c => exact ih (j + 1) (by omega) _ _ (q1 (fun z => (bI_z.mp c) z.1))
      · next c =>
        have he : ef9 ρ d kn te j = true := by
          by_cases u : ef9 ρ d kn te j = true
          · exact u
          · exact absurd (bI_z.mpr u) c
        split
        · next c2 => exact ih (j + 1) (by omega) _ _ (q1 (fun z => (hy.mp c2) z.2.1))
        · next c2 =>
          have hc : cd9 (bi9 ρ kn) x5.toInt x6.toInt j := by
            by_cases u : cd9 (bi9 ρ kn) x5.toInt x6.toInt j
            · exact u
            · exact absurd (hy.mpr u) c2
          split
          · next c3 => exact ih (j + 1) (by omega) _ _ (q2 he hc c3)
          · next c3 => exact ih (j + 1) (by omega) _ _ (q1 (fun z => c3 z.2.2))
    unfold cd9 bi9 at fin
    split
    · next c =>
      split
      · next c2 =>
        split
        · next c3 => exact fin 0 ⟨fun _ => by omega, fun _ => z0I⟩
        · next c3 => exact fin 1 ⟨fun q => absurd q z1I, fun q => absurd (Or.inr ⟨by omega, by omega⟩) q⟩
      · next c2 => exact fin 0 ⟨fun _ => by omega, fun _ => z0I⟩
    · next c => exact fin 1 ⟨fun q => absurd q z1I, fun q => absurd (Or.inl (by omega)) q⟩
theorem s_views {n np : Nat} {ρ : RH} {d kn te : Int32} {post : RH → Prop} (hD : DAT n np ρ) (hd : d.toInt ≤ 5000) (k : ∀ ρ', RSC n ρ' (vw9 n np ρ d kn te) → lgD ρ ρ' → post ρ') : wpX7_views ρ d kn te post := by
  have hn := hD.1
  refine s_clear (n := n) (f := aw9 ρ) hD.2.2.1 hn (fun i hi => (hD.di hi).2.1) (fun ρ0 h0 g0 => ?_)
  have hsT : (or9 ρ n d kn te).Pairwise (ah9 (bi9 ρ kn)) := tn9_sorted
  have hmT : ∀ x, x ∈ or9 ρ n d kn te ↔ x < n ∧ ef9 ρ d kn te x = true := fun x => tn9_mem
  have hnd : (or9 ρ n d kn te).Nodup := tn9_nodup
  have hbr : ∀ k, k < n → ef9 ρ d kn te k = true → 0 ≤ bi9 ρ kn k := fun k hk he => by
    rcases cm9_ok (kn := kn) hD hk with q | q
    · exact absurd q (ef9_cm he).1
    · exact q.1
  have start : ∀ x5 x6 : Int32, PK ρ d kn te x5.toInt x6.toInt 0 (-1) 5001 := fun _ _ => Or.inl ⟨rfl, rfl, fun k hk => absurd hk (Nat.not_lt_zero k)⟩
  -- the loop over what is left
  have main : ∀ (rest pre : List Nat) (ρ1 : RH) (x5 x6 : Int32), or9 ρ n d kn te = pre ++ rest → LK (bi9 ρ kn) pre x5.toInt x6.toInt → GD n np ρ pre (run9 np ρ (ef9 ρ d kn te) pre (c09 (aw9 ρ))) → RSC n ρ1 (run9 np ρ (ef9 ρ d kn te) pre (c09 (aw9 ρ))) → lgD ρ ρ1 → wX7_views_120 d kn te post (rest.length + 2) ρ1 1 x5 x6 := by
    intro rest
    induction rest with
    | nil =>
      intro pre ρ1 x5 x6 hT hL hG hR g1
      unfold wX7_views_120
      rw [if_neg z1I]
      refine ⟨n + 1, s_scan hD hd g1 (fun x7 x8 hp => ?_) n 0 (by omega) (-1) 5001 (start _ _)⟩
      rcases hp with ⟨h1, h2, h3⟩ | ⟨m, h1, h2, h3, h4, h5, h6⟩
      · rw [if_pos (by rw [h1]; exact ti_m1)]
        unfold jX7_views_231
        rw [if_pos z0I]
        show wX7_views_120 d kn te post (0 + 1) ρ1 0 x5 x6
        unfold wX7_views_120
        rw [if_pos z0I]
        refine k ρ1 ?_ g1
        have : vw9 n np ρ d kn te = run9 np ρ (ef9 ρ d kn te) pre (c09 (aw9 ρ)) := by
          unfold vw9
          rw [hT, List.append_nil]
        rw [this]
        exact hR
      · exact absurd ((cd9_iff hsT hT hL (hbr m h1 h4) ((hmT m).mpr ⟨h1, h4⟩)).mp h5) List.not_mem_nil
    | cons r rest ihr =>
      intro pre ρ1 x5 x6 hT hL hG hR g1
      have hr : r < n ∧ ef9 ρ d kn te r = true := (hmT r).mp (by rw [hT]; exact List.mem_append_right _ List.mem_cons_self)
      unfold wX7_views_120
      rw [if_neg z1I]
      refine ⟨n + 1, s_scan hD hd g1 (fun x7 x8 hp => ?_) n 0 (by omega) (-1) 5001 (start _ _)⟩
      rcases hp with ⟨h1, h2, h3⟩ | ⟨m, h1, h2, h3, h4, h5, h6⟩
      · exact absurd ((cd9_iff hsT hT hL (hbr r hr.1 hr.2) ((hmT r).mpr hr)).mpr List.mem_cons_self) (h3 r hr.1 hr.2)
      · have hmr : m = r := by
          have hs2 := (List.pairwise_append.mp (hT ▸ hsT)).2.1
          refine pick9 hs2 ((cd9_iff hsT hT hL (hbr m h1 h4) ((hmT m).mpr ⟨h1, h4⟩)).mp h5) (fun k hk => ?_)
          have hkT : k ∈ or9 ρ n d kn te := by rw [hT]; exact List.mem_append_right _ hk
          have hkn := (hmT k).mp hkT
          exact h6 k hkn.1 hkn.2 ((cd9_iff hsT hT hL (hbr k hkn.1 hkn.2) hkT).mpr hk)
        subst hmr
        subst h2
        rw [ti_n (by omega), if_neg (by omega)]
        unfold jX7_views_231
        rw [if_neg z1I]
        have hpn : ∀ j ∈ pre, j < n := fun j hj => ((hmT j).mp (by rw [hT]; exact List.mem_append_left _ hj)).1
        have hmp : m ∉ pre := fun q => (List.nodup_append.mp (hT ▸ hnd)).2.2 m q m List.mem_cons_self rfl
        have go : ∀ (x : Int32) (t : RH), RSC n (u2 t 36 m x) (step9 np ρ (ef9 ρ d kn te) (run9 np ρ (ef9 ρ d kn te) pre (c09 (aw9 ρ))) m) → lgD ρ (u2 t 36 m x) → jX7_views_261 d kn te (wX7_views_120 d kn te post (rest.length + 2)) post t 1 (nI m) x8 0 (nI m) x := by
          intro x t r1 r2
          unfold jX7_views_261
          refine ⟨vi_n (by omega) (by decide), fun t11 e11 => ?_⟩
          rw [cl_n (by omega)] at e11
          subst e11
          rw [h3]
          refine ihr (pre ++ [m]) _ (cm9 ρ kn m) (nI m) (by rw [hT, List.append_assoc]; rfl) (Or.inr ⟨pre, m, rfl, rfl, ti_n (by omega)⟩) ?_ ?_ r2
          · rw [run9_snoc]
            exact GD_step hD hG hpn h1 hmp
          · rw [run9_snoc]
            exact r1
        refine s_step hD g1 hR h1 hG.1 (fun r x t hrx r1 r2 => ?_)
        rcases hrx with ⟨e1, e2⟩ | ⟨e1, e2⟩
        · subst e1; subst e2
          rw [if_pos z0I]
          exact go 2 t r1 r2
        · subst e1; subst e2
          rw [if_neg z1I]
          exact go 1 t r1 r2
  exact ⟨_, main (or9 ρ n d kn te) [] ρ0 (-1) (-1) rfl (Or.inl ⟨rfl, ti_m1, ti_m1⟩) (GD_c0 hD) h0 g0⟩
/-- what holds of a view -/
theorem GD_run {n np : Nat} {ρ : RH} {eff : Nat → Bool} (hD : DAT n np ρ) : ∀ (rest pre : List Nat) (C : CS), GD n np ρ pre C → (∀ j ∈ pre ++ rest, j < n) → (pre ++ rest).Nodup → GD n np ρ (pre ++ rest) (run9 np ρ eff rest C)
  | [], pre, C, h, _, _ => by rw [List.append_nil]; exact h
  | r :: rest, pre, C, h, hn, hd => by
    have e : pre ++ r :: rest = (pre ++ [r]) ++ rest := by rw [List.append_assoc]; rfl
    have hr : r ∉ pre := fun q => (List.nodup_append.mp hd).2.2 r q r List.mem_cons_self rfl
    rw [e] at hn hd ⊢
    exact GD_run hD rest (pre ++ [r]) _ (GD_step hD h (fun j hj => hn j (List.mem_append_left _ (List.mem_append_left _ hj))) (hn r (List.mem_append_left _ (List.mem_append_right _ List.mem_cons_self))) hr) hn hd
theorem GD_vw {n np : Nat} {ρ : RH} {d kn te : Int32} (hD : DAT n np ρ) : GD n np ρ (or9 ρ n d kn te) (vw9 n np ρ d kn te) :=
  GD_run hD (or9 ρ n d kn te) [] _ (GD_c0 hD) (fun j hj => (tn9_mem.mp hj).1) tn9_nodup
