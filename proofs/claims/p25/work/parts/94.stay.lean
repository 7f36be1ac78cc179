/-! A view of an earlier knowledge stays, whatever is made later on. -/
def RE (n : Nat) (kn : Int32) (γ γ' : RH) : Prop := ∀ i, i < n → (γ' 13 i = γ 13 i ∧ γ' 14 i = γ 14 i ∧ γ' 15 i = γ 15 i ∧ γ' 16 i = γ 16 i ∧ γ' 17 i = γ 17 i ∧ sw9 γ' i = sw9 γ i ∧ aw9 γ' i = aw9 γ i) ∧ (γ' 22 i = γ 22 i ∧ γ' 23 i = γ 23 i ∧ γ' 24 i = γ 24 i ∧ γ' 25 i = γ 25 i ∧ γ' 2 (γ 14 i).toNatClampNeg = γ 2 (γ 14 i).toNatClampNeg) ∧ (kn9 (γ' 26 i) kn = kn9 (γ 26 i) kn ∧ (kn9 (γ 26 i) kn = true → γ' 27 i = γ 27 i)) ∧ (kn9 (γ' 28 i) kn = kn9 (γ 28 i) kn ∧ (kn9 (γ 28 i) kn = true → γ' 29 i = γ 29 i)) ∧ (kn9 (γ' 30 i) kn = kn9 (γ 30 i) kn ∧ (kn9 (γ 30 i) kn = true → γ' 31 i = γ 31 i ∧ γ' 32 i = γ 32 i))
theorem bg9_re {n np : Nat} {γ γ' : RH} {kn : Int32} (hD : DAT n np γ) (h : RE n kn γ γ') : ∀ (f i : Nat), i < n → bg9 γ' kn f i = bg9 γ kn f i
  | 0, _, _ => rfl
  | f + 1, i, hi => by
    have h40 := hD.1
    obtain ⟨-, ⟨e22, e23, -, -, -⟩, ⟨e26, e27⟩, -, -⟩ := h i hi
    show (if γ' 22 i = 2 then bg9 γ' kn f (γ' 23 i).toNatClampNeg else if γ' 22 i = 0 then γ' 23 i else if kn9 (γ' 26 i) kn = true then γ' 27 i else -1) = (if γ 22 i = 2 then bg9 γ kn f (γ 23 i).toNatClampNeg else if γ 22 i = 0 then γ 23 i else if kn9 (γ 26 i) kn = true then γ 27 i else -1)
    rw [e22, e23, e26]
    by_cases c : γ 22 i = 2
    · obtain ⟨-, -, -, -, -, -, -, -, -, -, -, -, d22, -⟩ := hD.2.2.2.2.1 i hi
      obtain ⟨w, hw, ew⟩ := d22 c
      rw [if_pos c, if_pos c, ew, cl_n (by omega)]
      exact bg9_re hD h f w (by omega)
    · rw [if_neg c, if_neg c]
      by_cases c0 : γ 22 i = 0
      · rw [if_pos c0, if_pos c0]
      · rw [if_neg c0, if_neg c0]
        by_cases c1 : kn9 (γ 26 i) kn = true
        · rw [if_pos c1, if_pos c1, e27 c1]
        · rw [if_neg c1, if_neg c1]
theorem cm9_re {n np i : Nat} {γ γ' : RH} {kn : Int32} (hD : DAT n np γ) (h : RE n kn γ γ') (hi : i < n) : cm9 γ' kn i = cm9 γ kn i := by
  obtain ⟨⟨-, e14, -⟩, ⟨-, -, -, -, e2⟩, -⟩ := h i hi
  unfold cm9
  rw [e14, e2, bg9_re hD h _ i hi]
theorem ef9_re {n np i : Nat} {γ γ' : RH} {d kn te : Int32} (hD : DAT n np γ) (h : RE n kn γ γ') (hi : i < n) : ef9 γ' d kn te i = ef9 γ d kn te i := by
  obtain ⟨-, ⟨-, -, e24, e25, -⟩, -, ⟨e28, e29⟩, ⟨e30, e31⟩⟩ := h i hi
  have s0 : ov9 γ' d i = ov9 γ d i := by unfold ov9; rw [e25]
  have s1 : sk9 γ' d kn i = sk9 γ d kn i := by
    unfold sk9
    rw [e28]
    cases c : kn9 (γ 28 i) kn with
    | false => rw [Bool.false_and, Bool.false_and]
    | true => rw [e29 c]
  have s2 : su9 γ' d kn i = su9 γ d kn i := by
    unfold su9
    rw [e30]
    cases c : kn9 (γ 30 i) kn with
    | false => rw [Bool.false_and, Bool.false_and]
    | true => rw [(e31 c).1, (e31 c).2]
  unfold ef9
  rw [cm9_re hD h hi, e24, s0, s1, s2]
theorem or9_re {n np : Nat} {γ γ' : RH} {d kn te : Int32} (hD : DAT n np γ) (h : RE n kn γ γ') : or9 γ' n d kn te = or9 γ n d kn te := tn9_congr (fun i hi => ⟨by unfold bi9; rw [cm9_re hD h hi], ef9_re hD h hi⟩)
/-! the same code, but for the new words of instructions that are not done -/
def WS (C : CS) (f' : Nat → List Int32) : CS := (C.1, C.2.1, C.2.2.1, C.2.2.2.1, C.2.2.2.2.1, f')
def CE (n : Nat) (C C' : CS) : Prop := ∃ f', C' = WS C f' ∧ ∀ i, i < n → f' i = C.2.2.2.2.2 i
def OR (n : Nat) (U V : Option CS) : Prop := (U = none ∧ V = none) ∨ ∃ X Y, U = some X ∧ V = some Y ∧ CE n X Y
theorem OR_none {n : Nat} : OR n none none := Or.inl ⟨rfl, rfl⟩
theorem OR_some {n : Nat} {X Y : CS} (h : CE n X Y) : OR n (some X) (some Y) := Or.inr ⟨X, Y, rfl, rfl, h⟩
theorem OR_if {n : Nat} {c : Prop} [Decidable c] {A B A' B' : Option CS} (h1 : c → OR n A A') (h2 : ¬ c → OR n B B') : OR n (if c then A else B) (if c then A' else B') := by
  by_cases k : c
  · rw [if_pos k, if_pos k]; exact h1 k
  · rw [if_neg k, if_neg k]; exact h2 k
theorem OR_map {n : Nat} {F G : TXT → CS} (x : Option TXT) (h : ∀ t, CE n (F t) (G t)) : OR n (x.map F) (x.map G) := by
  cases x with
  | none => exact OR_none
  | some t => exact OR_some (h t)
theorem any9_np {C : CS} {np np' : Nat} {par lab but : Int32} (hI : ∀ q, q < 20 → C.1 q = true → q < np) (h : np ≤ np') (h20 : np' ≤ 20) : any9 (fh9 C par lab but) np' = any9 (fh9 C par lab but) np := by
  have : any9 (fh9 C par lab but) np' = true ↔ any9 (fh9 C par lab but) np = true := by
    rw [any9_iff, any9_iff]
    constructor
    · rintro ⟨k, hk, e⟩
      refine ⟨k, hI k (by omega) ?_, e⟩
      unfold fh9 at e
      rw [Bool.and_eq_true, Bool.and_eq_true] at e
      exact e.2.1
    · rintro ⟨k, hk, e⟩
      exact ⟨k, by omega, e⟩
  cases e1 : any9 (fh9 C par lab but) np' <;> cases e2 : any9 (fh9 C par lab but) np
  · rfl
  · rw [e1, e2] at this; exact this.mpr rfl
  · rw [e1, e2] at this; exact (this.mp rfl).symm
  · rfl
theorem do9_ce {n np np' i p : Nat} {γ γ' : RH} {C C' : CS} {eff eff' : Nat → Bool} {s f : List Int32} (hI : ∀ q, q < 20 → C.1 q = true → q < np) (h : np ≤ np') (h20 : np' ≤ 20) (hi : i < n) (g13 : γ' 13 i = γ 13 i) (g16 : γ' 16 i = γ 16 i) (g17 : γ' 17 i = γ 17 i) (h7 : γ 13 i = 7 → p < n ∧ γ' 13 p = γ 13 p ∧ eff' p = eff p) (hc : CE n C C') : OR n (do9 np γ C eff i p s f) (do9 np' γ' C' eff' i p s f) := by
  obtain ⟨f', rfl, hf⟩ := hc
  obtain ⟨a, b, c, d, e, w⟩ := C
  have hf : ∀ i, i < n → f' i = w i := hf
  have ha : ∀ par lab but, any9 (fh9 (a, b, c, d, e, f') par lab but) np' = any9 (fh9 (a, b, c, d, e, w) par lab but) np := fun par lab but => any9_np (C := (a, b, c, d, e, w)) hI h h20
  show OR n (do9 np γ (a, b, c, d, e, w) eff i p s f) (do9 np' γ' (a, b, c, d, e, f') eff' i p s f)
  unfold do9
  dsimp only
  rw [g13, g16, g17, hf i hi]
  refine OR_if (fun _ => ?_) (fun _ => OR_if (fun k7 => ?_) (fun _ => OR_if (fun _ => OR_none) (fun _ => OR_if (fun _ => ?_) (fun _ => OR_if (fun _ => ?_) (fun _ => OR_if (fun _ => ?_) (fun _ => OR_if (fun _ => ?_) (fun _ => OR_if (fun _ => ?_) (fun _ => ?_))))))))
  · rw [ha]
    exact OR_if (fun _ => OR_some ⟨f', rfl, hf⟩) (fun _ => OR_none)
  · obtain ⟨hp, e1, e2⟩ := h7 k7
    rw [e1, e2]
    refine OR_if (fun _ => OR_if (fun _ => OR_some ⟨va_up f' p f, rfl, fun j hj => ?_⟩) (fun _ => OR_some ⟨f', rfl, hf⟩)) (fun _ => OR_none)
    show va_up f' p f j = va_up w p f j
    by_cases q : j = p
    · rw [q, va_up_self, va_up_self]
    · rw [va_up_ne _ _ q, va_up_ne _ _ q]; exact hf j hj
  · exact OR_map _ (fun t => ⟨f', rfl, hf⟩)
  · exact OR_map _ (fun t => ⟨f', rfl, hf⟩)
  · exact OR_map _ (fun t => ⟨f', rfl, hf⟩)
  · rw [ha]
    exact OR_if (fun _ => OR_some ⟨f', rfl, hf⟩) (fun _ => OR_none)
  · rw [ha]
    exact OR_if (fun _ => OR_some ⟨f', rfl, hf⟩) (fun _ => OR_none)
  · exact OR_some ⟨f', rfl, hf⟩
theorem CE_st {n i : Nat} {C C' : CS} {x : Int32} (h : CE n C C') : CE n (st9 C i x) (st9 C' i x) := by
  obtain ⟨f', rfl, hf⟩ := h
  exact ⟨f', rfl, hf⟩
theorem step9_ce {n np np' i : Nat} {γ γ' : RH} {C C' : CS} {eff eff' : Nat → Bool} {kn : Int32} (hD : DAT n np γ) (hR : RE n kn γ γ') (he : ∀ j, j < n → eff' j = eff j) (hI : ∀ q, q < 20 → C.1 q = true → q < np) (h : np ≤ np') (h20 : np' ≤ 20) (hi : i < n) (hc : CE n C C') : CE n (step9 np γ eff C i) (step9 np' γ' eff' C' i) := by
  obtain ⟨⟨e13, e14, e15, e16, e17, esw, eaw⟩, -⟩ := hR i hi
  have epv : pv9 γ' i = pv9 γ i := by unfold pv9; rw [e15]
  obtain ⟨-, -, -, -, h7, -⟩ := hD.2.2.2.2.1 i hi
  have := do9_ce (eff := eff) (eff' := eff') (p := pv9 γ i) (s := sw9 γ i) (f := aw9 γ i) hI h h20 hi e13 e16 e17 (fun k7 => by
    have hp : pv9 γ i < n := by have := h7 k7; omega
    exact ⟨hp, (hR _ hp).1.1, he _ hp⟩) hc
  unfold step9
  rw [epv, esw, eaw]
  rcases this with ⟨u, v⟩ | ⟨X, Y, u, v, q⟩
  · rw [u, v]; exact CE_st hc
  · rw [u, v]; exact CE_st q
theorem run9_ce {n np np' : Nat} {γ γ' : RH} {eff eff' : Nat → Bool} {kn : Int32} (hD : DAT n np γ) (hR : RE n kn γ γ') (he : ∀ j, j < n → eff' j = eff j) (h : np ≤ np') (h20 : np' ≤ 20) : ∀ (rest pre : List Nat) (C C' : CS), GD n np γ pre C → (∀ j ∈ pre ++ rest, j < n) → (pre ++ rest).Nodup → CE n C C' → CE n (run9 np γ eff rest C) (run9 np' γ' eff' rest C')
  | [], _, _, _, _, _, _, hc => hc
  | r :: rest, pre, C, C', hG, hn, hd, hc => by
    have e : pre ++ r :: rest = (pre ++ [r]) ++ rest := by rw [List.append_assoc]; rfl
    have hr : r ∉ pre := fun q => (List.nodup_append.mp hd).2.2 r q r List.mem_cons_self rfl
    rw [e] at hn hd
    have hrn := hn r (List.mem_append_left _ (List.mem_append_right _ List.mem_cons_self))
    exact run9_ce hD hR he h h20 rest (pre ++ [r]) _ _ (GD_step hD hG (fun j hj => hn j (List.mem_append_left _ (List.mem_append_left _ hj))) hrn hr) hn hd (step9_ce hD hR he hG.1.1 h h20 hrn hc)
/-! all that is told of a code hangs on that alone -/
section WSS
variable {C : CS} {f' : Nat → List Int32}
theorem nxs_ws {o : Int32} {b : Int} : ∀ (j : Nat), nxs (WS C f') o b j = nxs C o b j
  | 0 => rfl
  | j + 1 => by
    show (if chl C o b j = true then (match nxs (WS C f') o b j with | none => some j | some m => if ck C j < ck C m then some j else some m) else nxs (WS C f') o b j) = _
    rw [nxs_ws j]
    rfl
theorem mm9_ws : ∀ (f : Nat) (o : Int32) (b : Int), mm9 (WS C f') f o b = mm9 C f o b
  | 0, _, _ => rfl
  | f + 1, o, b => by
    show sbw9 C o b + (if o = -1 then 0 else mm9 (WS C f') f (C.2.2.1 o.toNatClampNeg) (ck C o.toNatClampNeg)) = _
    rw [mm9_ws f]
    rfl
theorem wk9_ws : ∀ (f : Nat) (o : Int32) (b : Int), wk9 (WS C f') f o b = wk9 C f o b
  | 0, _, _ => rfl
  | f + 1, o, b => by
    have hn : nx9 (WS C f') o b = nx9 C o b := nxs_ws 20
    show (match nx9 (WS C f') o b with | some c => c :: wk9 (WS C f') f (nI c) (-1) | none => if o = -1 then [] else wk9 (WS C f') f (C.2.2.1 o.toNatClampNeg) (ck C o.toNatClampNeg)) = (match nx9 C o b with | some c => c :: wk9 C f (nI c) (-1) | none => if o = -1 then [] else wk9 C f (C.2.2.1 o.toNatClampNeg) (ck C o.toNatClampNeg))
    rw [hn]
    cases nx9 C o b with
    | some c =>
      show c :: wk9 (WS C f') f (nI c) (-1) = c :: wk9 C f (nI c) (-1)
      rw [wk9_ws f]
    | none =>
      show (if o = -1 then [] else wk9 (WS C f') f (C.2.2.1 o.toNatClampNeg) (ck C o.toNatClampNeg)) = (if o = -1 then [] else wk9 C f (C.2.2.1 o.toNatClampNeg) (ck C o.toNatClampNeg))
      rw [wk9_ws f]
theorem ls9_ws : ls9 (WS C f') = ls9 C := by
  have hs : stp (WS C f') (-1) (-1) = stp C (-1) (-1) := by
    unfold stp
    rw [mm9_ws]
    rfl
  unfold ls9 wkf
  rw [hs, wk9_ws]
theorem pl8_ws : ∀ (l : List Nat) (x : Int64), pl8 (WS C f') l x = pl8 C l x
  | [], _ => rfl
  | p :: l, x => pl8_ws l (p19 C x p)
theorem al1_ws {a : Nat} {cm cm' : Nat → Int32} (h : ∀ k, k < a → cm' k = cm k) : ∀ (r k : Nat) (x : Int64), k + r ≤ a → al1 (WS C f') cm' r k x = al1 C cm r k x
  | 0, _, _, _ => rfl
  | r + 1, k, x, hk => by
    show al1 (WS C f') cm' r (k + 1) (((((31 : Int64)) * x) + ((C.2.2.2.2.1 k).toInt64)) + (((7 : Int64)) * ((cm' k).toInt64))) = al1 C cm r (k + 1) (((((31 : Int64)) * x) + ((C.2.2.2.2.1 k).toInt64)) + (((7 : Int64)) * ((cm k).toInt64)))
    rw [h k (by omega)]
    exact al1_ws h r (k + 1) _ (by omega)
theorem al2_ws : ∀ (r k : Nat) (x : Int64), al2 (WS C f') r k x = al2 C r k x
  | 0, _, _ => rfl
  | r + 1, k, x => al2_ws r (k + 1) _
end WSS
theorem pcl_ce {f f' : Nat → Nat → Bool} : ∀ (l : List Nat), (∀ x ∈ l, ∀ y ∈ l, f' x y = f x y) → pcl f' l = pcl f l
  | [], _ => rfl
  | x :: l, h => by
    show l.countP (f' x) + pcl f' l = l.countP (f x) + pcl f l
    rw [pcl_ce l (fun y hy z hz => h y (List.mem_cons_of_mem _ hy) z (List.mem_cons_of_mem _ hz)), List.countP_congr (p := f' x) (q := f x) (fun y hy => by rw [h x List.mem_cons_self y (List.mem_cons_of_mem _ hy)])]
theorem AV_re {n np n' np' a b : Nat} {γ γ' : RH} {d kn te : Int32} (hD : DAT n np γ) (hR : RE n kn γ γ') (hn : n' = n ∨ (n' = n + 1 ∧ ef9 γ' d kn te n = false)) (hp : np ≤ np') (h20 : np' ≤ 20) (ha : a ≤ n) : AV n' np' γ' d kn te a b = AV n np γ d kn te a b := by
  have eo : or9 γ' n' d kn te = or9 γ n d kn te := by
    rcases hn with rfl | ⟨rfl, e⟩
    · exact or9_re hD hR
    · show (if ef9 γ' d kn te n = true then ins8 (bi9 γ' kn) n (tn9 (bi9 γ' kn) (ef9 γ' d kn te) n) else tn9 (bi9 γ' kn) (ef9 γ' d kn te) n) = _
      rw [if_neg (by rw [e]; decide)]
      exact or9_re hD hR
  have hc : CE n (vw9 n np γ d kn te) (vw9 n' np' γ' d kn te) := by
    unfold vw9
    rw [eo]
    exact run9_ce hD hR (fun j hj => ef9_re hD hR hj) hp h20 _ [] _ _ (GD_c0 hD) (fun j hj => (tn9_mem.mp hj).1) tn9_nodup ⟨aw9 γ', rfl, fun i hi => (hR i hi).1.2.2.2.2.2.2⟩
  obtain ⟨f', e, -⟩ := hc
  unfold AV av9
  rw [eo, e, ls9_ws, pl8_ws, al2_ws, al1_ws (a := a) (cm := cm9 γ kn) (fun k hk => cm9_re hD hR (by omega)) a 0 _ (by omega), pcl_ce (f := cf9 γ kn (vw9 n np γ d kn te)) _ (fun x hx y hy => ?_)]
  have hx : x < n := (tn9_mem.mp hx).1
  have hy : y < n := (tn9_mem.mp hy).1
  obtain ⟨⟨x13, x14, x15, -⟩, -⟩ := hR x hx
  obtain ⟨⟨y13, y14, y15, -⟩, -⟩ := hR y hy
  unfold cf9
  rw [x13, x14, x15, y13, y14, y15, cm9_re hD hR hx, cm9_re hD hR hy]
  rfl
/-! each kind of operation -/
theorem RE_ln {n : Nat} {γ γ' : RH} {kn : Int32} (g : lgn n γ γ') : RE n kn γ γ' := by
  intro i hi
  have r : ∀ j, 11 ≤ j → j < 33 → γ' j = γ j := g.1
  rw [sw9_ln g, aw9_ln g, r 13 (by omega) (by omega), r 14 (by omega) (by omega), r 15 (by omega) (by omega), r 16 (by omega) (by omega), r 17 (by omega) (by omega), r 22 (by omega) (by omega), r 23 (by omega) (by omega), r 24 (by omega) (by omega), r 25 (by omega) (by omega), r 26 (by omega) (by omega), r 27 (by omega) (by omega), r 28 (by omega) (by omega), r 29 (by omega) (by omega), r 30 (by omega) (by omega), r 31 (by omega) (by omega), r 32 (by omega) (by omega), g.2 i hi]
  exact ⟨⟨rfl, rfl, rfl, rfl, rfl, rfl, rfl⟩, ⟨rfl, rfl, rfl, rfl, rfl⟩, ⟨rfl, fun _ => rfl⟩, ⟨rfl, fun _ => rfl⟩, ⟨rfl, fun _ => ⟨rfl, rfl⟩⟩⟩
theorem kn9_m1 {k : Int32} : kn9 (-1) k = false := rfl
theorem kn9_late {T K : Nat} (hT : T < 2147483648) (h : K < T) : kn9 (nI T) (nI K) = false := by
  unfold kn9
  rw [ti_n hT, ti_n (by omega), decide_eq_false (show ¬ (T : Int) ≤ K by omega), Bool.and_false]
theorem RE_26 {n k T K : Nat} {γ : RH} {x : Int32} (h : γ 26 k = -1) (hT : T < 2147483648) (hK : K < T) : RE n (nI K) γ (u2 (u2 γ 26 k (nI T)) 27 k x) := by
  intro i hi
  have r : ∀ j, j ≠ 26 → j ≠ 27 → u2 (u2 γ 26 k (nI T)) 27 k x j = γ j := fun j h1 h2 => by rw [u2_oth h2, u2_oth h1]
  have s1 : sw9 (u2 (u2 γ 26 k (nI T)) 27 k x) = sw9 γ := by funext i; unfold sw9; rw [r 18 (by decide) (by decide), r 19 (by decide) (by decide)]
  have s2 : aw9 (u2 (u2 γ 26 k (nI T)) 27 k x) = aw9 γ := by funext i; unfold aw9; rw [r 20 (by decide) (by decide), r 21 (by decide) (by decide)]
  refine ⟨⟨by rw [r 13 (by decide) (by decide)], by rw [r 14 (by decide) (by decide)], by rw [r 15 (by decide) (by decide)], by rw [r 16 (by decide) (by decide)], by rw [r 17 (by decide) (by decide)], by rw [s1], by rw [s2]⟩, ⟨by rw [r 22 (by decide) (by decide)], by rw [r 23 (by decide) (by decide)], by rw [r 24 (by decide) (by decide)], by rw [r 25 (by decide) (by decide)], by rw [r 2 (by decide) (by decide)]⟩, ?_, ⟨by rw [r 28 (by decide) (by decide)], fun _ => by rw [r 29 (by decide) (by decide)]⟩, ⟨by rw [r 30 (by decide) (by decide)], fun _ => ⟨by rw [r 31 (by decide) (by decide)], by rw [r 32 (by decide) (by decide)]⟩⟩⟩
  by_cases e : i = k
  · subst e
    rw [h, kn9_m1]
    refine ⟨?_, fun z => by cases z⟩
    rw [u2_cell (fun z => absurd z.1 (by decide)), u2_hit]
    exact kn9_late hT hK
  · rw [u2_cell (fun z => absurd z.1 (by decide)), u2_cell (fun z => e z.2)]
    refine ⟨rfl, fun _ => ?_⟩
    rw [u2_cell (fun z => e z.2), u2_cell (fun z => absurd z.1 (by decide))]
theorem RE_28 {n k T K : Nat} {γ : RH} {x : Int32} (h : γ 28 k = -1) (hT : T < 2147483648) (hK : K < T) : RE n (nI K) γ (u2 (u2 γ 28 k (nI T)) 29 k x) := by
  intro i hi
  have r : ∀ j, j ≠ 28 → j ≠ 29 → u2 (u2 γ 28 k (nI T)) 29 k x j = γ j := fun j h1 h2 => by rw [u2_oth h2, u2_oth h1]
  have s1 : sw9 (u2 (u2 γ 28 k (nI T)) 29 k x) = sw9 γ := by funext i; unfold sw9; rw [r 18 (by decide) (by decide), r 19 (by decide) (by decide)]
  have s2 : aw9 (u2 (u2 γ 28 k (nI T)) 29 k x) = aw9 γ := by funext i; unfold aw9; rw [r 20 (by decide) (by decide), r 21 (by decide) (by decide)]
  refine ⟨⟨by rw [r 13 (by decide) (by decide)], by rw [r 14 (by decide) (by decide)], by rw [r 15 (by decide) (by decide)], by rw [r 16 (by decide) (by decide)], by rw [r 17 (by decide) (by decide)], by rw [s1], by rw [s2]⟩, ⟨by rw [r 22 (by decide) (by decide)], by rw [r 23 (by decide) (by decide)], by rw [r 24 (by decide) (by decide)], by rw [r 25 (by decide) (by decide)], by rw [r 2 (by decide) (by decide)]⟩, ⟨by rw [r 26 (by decide) (by decide)], fun _ => by rw [r 27 (by decide) (by decide)]⟩, ?_, ⟨by rw [r 30 (by decide) (by decide)], fun _ => ⟨by rw [r 31 (by decide) (by decide)], by rw [r 32 (by decide) (by decide)]⟩⟩⟩
  by_cases e : i = k
  · subst e
    rw [h, kn9_m1]
    refine ⟨?_, fun z => by cases z⟩
    rw [u2_cell (fun z => absurd z.1 (by decide)), u2_hit]
    exact kn9_late hT hK
  · rw [u2_cell (fun z => absurd z.1 (by decide)), u2_cell (fun z => e z.2)]
    refine ⟨rfl, fun _ => ?_⟩
    rw [u2_cell (fun z => e z.2), u2_cell (fun z => absurd z.1 (by decide))]
theorem RE_30 {n k T K : Nat} {γ : RH} {x y : Int32} (h : γ 30 k = -1) (hT : T < 2147483648) (hK : K < T) : RE n (nI K) γ (u2 (u2 (u2 γ 30 k (nI T)) 31 k x) 32 k y) := by
  intro i hi
  have r : ∀ j, j ≠ 30 → j ≠ 31 → j ≠ 32 → u2 (u2 (u2 γ 30 k (nI T)) 31 k x) 32 k y j = γ j := fun j h1 h2 h3 => by rw [u2_oth h3, u2_oth h2, u2_oth h1]
  have s1 : sw9 (u2 (u2 (u2 γ 30 k (nI T)) 31 k x) 32 k y) = sw9 γ := by funext i; unfold sw9; rw [r 18 (by decide) (by decide) (by decide), r 19 (by decide) (by decide) (by decide)]
  have s2 : aw9 (u2 (u2 (u2 γ 30 k (nI T)) 31 k x) 32 k y) = aw9 γ := by funext i; unfold aw9; rw [r 20 (by decide) (by decide) (by decide), r 21 (by decide) (by decide) (by decide)]
  refine ⟨⟨by rw [r 13 (by decide) (by decide) (by decide)], by rw [r 14 (by decide) (by decide) (by decide)], by rw [r 15 (by decide) (by decide) (by decide)], by rw [r 16 (by decide) (by decide) (by decide)], by rw [r 17 (by decide) (by decide) (by decide)], by rw [s1], by rw [s2]⟩, ⟨by rw [r 22 (by decide) (by decide) (by decide)], by rw [r 23 (by decide) (by decide) (by decide)], by rw [r 24 (by decide) (by decide) (by decide)], by rw [r 25 (by decide) (by decide) (by decide)], by rw [r 2 (by decide) (by decide) (by decide)]⟩, ⟨by rw [r 26 (by decide) (by decide) (by decide)], fun _ => by rw [r 27 (by decide) (by decide) (by decide)]⟩, ⟨by rw [r 28 (by decide) (by decide) (by decide)], fun _ => by rw [r 29 (by decide) (by decide) (by decide)]⟩, ?_⟩
  by_cases e : i = k
  · subst e
    rw [h, kn9_m1]
    refine ⟨?_, fun z => by cases z⟩
    rw [u2_cell (fun z => absurd z.1 (by decide)), u2_cell (fun z => absurd z.1 (by decide)), u2_hit]
    exact kn9_late hT hK
  · rw [u2_cell (fun z => absurd z.1 (by decide)), u2_cell (fun z => absurd z.1 (by decide)), u2_cell (fun z => e z.2)]
    refine ⟨rfl, fun _ => ⟨?_, ?_⟩⟩
    · rw [u2_cell (fun z => absurd z.1 (by decide)), u2_cell (fun z => e z.2), u2_cell (fun z => absurd z.1 (by decide))]
    · rw [u2_cell (fun z => e z.2), u2_cell (fun z => absurd z.1 (by decide)), u2_cell (fun z => absurd z.1 (by decide))]
theorem RE_lay {n np a : Nat} {γ : RH} {kn p1 p2 p3 la x : Int32} (hD : DAT n np γ) : RE n kn γ (u2 (lay9 n a γ p1 p2 p3 la) 12 0 x) := by
  intro i hi
  have h40 := hD.1
  have ne : ¬ i = n := by omega
  have r : ∀ j, j ≠ 12 → u2 (lay9 n a γ p1 p2 p3 la) 12 0 x j = lay9 n a γ p1 p2 p3 la j := fun j h1 => u2_oth h1
  obtain ⟨⟨m1, a1, b1⟩, ⟨m2, a2, b2⟩, -⟩ := hD.2.2.2.2.1 i hi
  have s1 : sw9 (u2 (lay9 n a γ p1 p2 p3 la) 12 0 x) i = sw9 γ i := by
    unfold sw9
    rw [r 18 (by decide), r 19 (by decide), show lay9 n a γ p1 p2 p3 la 18 i = γ 18 i from if_neg ne]
    refine wds_congr (fun k hk => ?_)
    rw [b1, cl_n (by omega)] at hk
    show (if 4 * n ≤ 4 * i + k ∧ 4 * i + k < 4 * n + 4 then γ 8 (4 * i + k - 4 * n) else γ 19 (4 * i + k)) = γ 19 (4 * i + k)
    rw [if_neg (by omega)]
  have s2 : aw9 (u2 (lay9 n a γ p1 p2 p3 la) 12 0 x) i = aw9 γ i := by
    unfold aw9
    rw [r 20 (by decide), r 21 (by decide), show lay9 n a γ p1 p2 p3 la 20 i = γ 20 i from if_neg ne]
    refine wds_congr (fun k hk => ?_)
    rw [b2, cl_n (by omega)] at hk
    show (if 4 * n ≤ 4 * i + k ∧ 4 * i + k < 4 * n + 4 then γ 10 (4 * i + k - 4 * n) else γ 21 (4 * i + k)) = γ 21 (4 * i + k)
    rw [if_neg (by omega)]
  rw [s1, s2, r 13 (by decide), r 14 (by decide), r 15 (by decide), r 16 (by decide), r 17 (by decide), r 22 (by decide), r 23 (by decide), r 24 (by decide), r 25 (by decide), r 2 (by decide), r 26 (by decide), r 27 (by decide), r 28 (by decide), r 29 (by decide), r 30 (by decide), r 31 (by decide), r 32 (by decide)]
  rw [show lay9 n a γ p1 p2 p3 la 26 i = γ 26 i from if_neg ne, show lay9 n a γ p1 p2 p3 la 28 i = γ 28 i from if_neg ne, show lay9 n a γ p1 p2 p3 la 30 i = γ 30 i from if_neg ne]
  exact ⟨⟨if_neg ne, if_neg ne, if_neg ne, if_neg ne, if_neg ne, rfl, rfl⟩, ⟨if_neg ne, if_neg ne, if_neg ne, if_neg ne, rfl⟩, ⟨rfl, fun _ => rfl⟩, ⟨rfl, fun _ => rfl⟩, ⟨rfl, fun _ => ⟨rfl, rfl⟩⟩⟩
/-- what is made today is not known by an earlier knowledge -/
theorem ef9_late {γ : RH} {n T K : Nat} {d te : Int32} (h : γ 2 (γ 14 n).toNatClampNeg = nI T) (hT : T < 2147483648) (hK : K < T) : ef9 γ d (nI K) te n = false := by
  have : cm9 γ (nI K) n = -1 := by
    unfold cm9
    rw [h, ti_n hT, ti_n (by omega), if_neg (by omega)]
  unfold ef9
  rw [this]
  rfl
