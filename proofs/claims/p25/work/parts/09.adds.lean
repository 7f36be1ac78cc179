/-! a list grows and takes elements. Written by wip/gen/hand3.py -/
theorem capn_le {n : Nat} (h : n ≤ 40) : capn n ≤ 60 ∧ n < capn n ∨ n = 1 := by
  unfold capn
  split <;> omega
/-- how many times a row of c places can grow, and how many places that makes -/
def gp9 : Nat → Nat → Nat
  | 0, _ => 0
  | f + 1, c => if 40 < c then 0 else gp9 f (capn c) + 1
def sp9 : Nat → Nat → Nat
  | 0, _ => 0
  | f + 1, c => if 40 < c then 0 else sp9 f (capn c) + capn c
theorem pot_up : ∀ c, c < 41 → c ≠ 1 → gp9 8 c = gp9 8 (capn c) + 1 ∧ sp9 8 c = sp9 8 (capn c) + capn c := by decide +kernel
theorem pot_lo : ∀ c, c < 41 → gp9 8 c ≤ 8 ∧ sp9 8 c ≤ 157 := by decide +kernel
theorem pot_le (c : Nat) : gp9 8 c ≤ 8 ∧ sp9 8 c ≤ 157 := by
  by_cases h : c < 41
  · exact pot_lo c h
  · have h1 : gp9 8 c = 0 := if_pos (by omega)
    have h2 : sp9 8 c = 0 := if_pos (by omega)
    rw [h1, h2]
    exact ⟨Nat.zero_le _, Nat.zero_le _⟩
theorem r3_oth9 {α : Type} {f : Nat → Nat → Nat → α} {k o : Nat} {g : Nat → α} {a : Nat} (h : a ≠ k) : r3 f k o g a = f a := by
  funext b
  exact r3_oth (fun q => h q.1)
theorem WPx.at9 {z : Nat} {G : Gl} {ad : Nat → Nat → Nat} {S : St} {X : va_W} {H : Heap} {t : State} (ht : t.heap = H) (hW : WPx z G ad S X H) : WPx z G ad S X t.heap := ht ▸ hW
theorem set_end9 {α : Type} (A : List α) (x y : α) : (A ++ [x]).set A.length y = A ++ [y] := by
  induction A with
  | nil => rfl
  | cons a A ih => exact congrArg (a :: ·) ih
/-- before a call that is given the mirror of the rows of objects -/
def PcM (z : Nat) (G : Gl) (ad : Nat → Nat → Nat) (S : St) (mi : Nat) (av : List Value) : Array Value → State → Prop := va_Pc av (fun U => Bc z G ad S U ∧ va_Mi "[Ljava/lang/Object;" mi U)
theorem PcM.blind {z : Nat} {G : Gl} {ad : Nat → Nat → Nat} {S : St} {mi : Nat} {av : List Value} : FrameBlind (PcM z G ad S mi av) := by
  intro a U g mk h
  obtain ⟨h1, ⟨h2, h3, h4⟩, h5⟩ := h
  exact ⟨h1, ⟨h2, h3, Ev.same (u := U) rfl rfl h4⟩, h5⟩
def Qxr (z : Nat) (G : Gl) (ad : Nat → Nat → Nat) (S : St) (N' : Nat) (g : Nat → Nat) : Array Value → State → Outcome → State → Prop := va_Qr (S := Unit) (fun _ => True) (fun _ a t => WPx z G ad S [xrow G ad a N' g] t.heap) (Az z)
def Qgr (z : Nat) (G : Gl) (ad : Nat → Nat → Nat) (σ : SG) (ν : NU) (ρ : RH) (lo : Int64) (o k : Nat) : Array Value → State → Outcome → State → Prop := va_Qr (S := Unit) (fun _ => True) (fun _ a t => WP z G (adup ad o a) (σ, nug ν o (capn k) (fun i => if i < k then ν 8 o i else 0), ρ, lo) t.heap) (Az z)
section RG
variable {p : Program} {l : Launch} {e : Env} {R : Room} {s : State} {m : MethodId} {args : Array Value} {below : List Frame} {meth : Method} {c : Code} {H : Heap} {locs : List Loc} {cells slots : Nat} {Q : State → Prop}
variable {cc : ByteArray} {pc : Nat} {ls : Array Slot} {rest : List Value} {z : Nat} {G : Gl} {ad : Nat → Nat → Nat} {Ts : List Cond} {own C : String} {index : Nat} {σ : SG} {ν : NU} {ρ : RH} {lo : Int64}
/-- a new row of objects beside the world -/
theorem r_newq (hx : p.tables.exec = Jvm.exec) (hb : c.code = cc) (hts : ∀ w ∈ Ts, w.before args s = true) (hown : s.vm.findClass own = some m.cls) (hlink : Cond.classLink own index "java/lang/Object" ∈ Ts) (hE : Ev z G s) (hz : z ≤ s.heap.size) {S : St} (hW : WP z G ad S H) (hS : va_S (Az z) s.heap H locs)
    {n : Int32} {N' : Nat} (hn : ¬ n < 0) (hN : n.toNatClampNeg = N') (hby : N' * 4 ≤ 536870912) (hcells : cells + 1 ≤ R.cells) (hslots : slots + N' ≤ R.slots) (hdg : decode cc pc = .ok (.anewarray index, 3))
    (kk : ∀ (q : Nat) (H1 : Heap), WPx z G ad S [xrow G ad q N' (fun _ => 0)] H1 → va_S (Az z) s.heap H1 locs → W p l e R s m args below meth c H1 locs (cells + 1) (slots + N') Q (F0 m (pc + 3) ls (.ref q :: rest))) : W p l e R s m args below meth c H locs cells slots Q (F0 m pc ls (.int n :: rest)) := by
  obtain ⟨L, hL, hP, hD⟩ := hW
  refine va_newq (C := "java/lang/Object") (N' := N') hx hb hown (hts _ hlink) (hE.2.2.2.2.2.2.2.2.1 "java/lang/Object" (List.mem_of_getElem? (i := 0) rfl)) hE.1 hP hD hS (fun q h => Nat.le_trans hz h) hn hN hby hcells hslots hdg (fun q cA H1 hK1 hP1 hD1 hS1 => ?_)
  have e : cA = G.2.1 4 := by
    obtain ⟨_, _, -, -, -, f1⟩ := (hK1.2 6 (cA, .object "java/lang/Object") rfl).2
    obtain ⟨_, _, -, -, -, f2⟩ := (hE.1.2 4 (G.2.1 4, .object "java/lang/Object") rfl).2
    exact Option.some.inj (f1.symm.trans f2)
  subst e
  exact kk q H1 ⟨L, hL, hP1, hD1⟩ hS1
theorem any_inst {S : St} {X : va_W} {L : List (Nat × Nat)} (hE : Ev z G s) (hL : ∀ k o, ex S.2.1 k o ↔ (k, o) ∈ L) (hP : va_P G.1 vwCl (L.map (cel G ad S) ++ X) H) {w : Nat} (hw : ex S.2.1 3 w) : va_Any "java/lang/Object" s H (ad 3 w) := by
  obtain ⟨q3, -, -, h3⟩ := WPx_at (X := X) (G := G) (ad := ad) hL hw
  refine va_rAny (q0 := q3) (ci := 3) (fs := fl_3 ad S.2.1 S.2.2.1 w (S.1 3 w)) (r := (RX0, TX0, 13)) hE.1 hP h3 rfl (fun comp c0 h1 h2 => ?_)
  obtain ⟨d0, t1, f1, f2, f3⟩ := Cond.castable_spec (va_Nw.use (A := #[]) rfl (hE.2.2.2.2.2.2.1 (RX0, "java/lang/Object") (List.mem_of_getElem? (i := 1) rfl)))
  cases h1.symm.trans f2
  cases h2.symm.trans f1
  exact f3
/-- a list's row is copied into the new one -/
theorem r_copyX {nL : Nat} (hx : p.tables.exec = Jvm.exec) (hb : c.code = cc) (hml : c.maxLocals = nL) (hsz : ls.size = nL) (hts : ∀ w ∈ Ts, w.before args s = true) (hown : s.vm.findClass own = some m.cls) (hE : Ev z G s) {q N' k : Nat} (hW : WPx z G ad (σ, ν, ρ, lo) [xrow G ad q N' (fun _ => 0)] H) (hS : va_S (Az z) s.heap H locs) (o : Nat) (he : ex ν 8 o) (hk : k ≤ ν 7 o 1) (hk2 : k ≤ N') (hN : N' < 2147483648) (hcl : ∀ i, i < k → ν 8 o i ≤ ν 99 0 0)
    (hlink : Cond.methodLink own index arraycopyName ∈ Ts) (hnat : Cond.native arraycopyName ∈ Ts) (hstat : Cond.static arraycopyName ∈ Ts) (hini : Cond.initialized "java/lang/System" ∈ Ts) (hframes : 1 ≤ R.frames) (hlocals : (rest.map fun v => v.category).sum + (nativeFrameWords "java/lang/System" "arraycopy" 5 + 11) ≤ R.locals) (hdg : decode cc pc = .ok (.invokestatic index, 3))
    (kk : ∀ (H1 : Heap) (locs1 : List Loc), WPx z G ad (σ, ν, ρ, lo) [xrow G ad q N' (fun i => if i < k then ν 8 o i else 0)] H1 → va_S (Az z) s.heap H1 locs1 → W p l e R s m args below meth c H1 locs1 cells slots Q (F0 m (pc + 3) ls rest)) : W p l e R s m args below meth c H locs cells slots Q (F0 m pc ls (.int (nI k) :: .int 0 :: .ref q :: .int 0 :: .ref (ad 8 o) :: rest)) := by
  obtain ⟨L, hL, hP, hD⟩ := hW
  obtain ⟨i8, -, -, h8⟩ := WPx_at (X := [xrow G ad q N' (fun _ => 0)]) (G := G) (ad := ad) (S := (σ, ν, ρ, lo)) hL he
  have hkk : (nI k).toNatClampNeg = k := nI_clamp (by omega)
  have hqX : (L.map (cel G ad (σ, ν, ρ, lo)) ++ [xrow G ad q N' (fun _ => 0)])[(L.map (cel G ad (σ, ν, ρ, lo))).length]? = some (xrow G ad q N' (fun _ => 0)) := by rw [List.getElem?_append_right (Nat.le_refl _), Nat.sub_self]; rfl
  have z0 : (0 : Int32).toNatClampNeg = 0 := by decide
  refine va_copyM (a := q) (a0 := ad 8 o) (c0 := G.2.1 4) (c1 := G.2.1 4) (n0 := ν 7 o 1) (n1 := N') (f := fun j => opn (ad 3) (ν 8 o j)) (g := fun _ => opn (ad 3) 0) (E0 := "java/lang/Object") (E1 := "java/lang/Object") hx hb (hml.trans hsz.symm) hown (hts _ hlink) (hts _ hnat) (hts _ hstat) (hts _ hini) hE.1 hP hD hS i8 (L.map (cel G ad (σ, ν, ρ, lo))).length 4 4 h8 hqX rfl rfl (by decide) (by decide) (nI_pos (by omega)) (by rw [z0, hkk]; omega) (by rw [z0, hkk]; omega) (fun i hi y hy => ?_) hframes hlocals hdg (fun H1 locs1 k1 k2 k3 => ?_)
  · rw [hkk] at hi
    rw [z0, Nat.zero_add] at hy
    unfold opn at hy
    split at hy
    · cases hy
    · next hne =>
      cases hy
      exact any_inst hE hL hP (show ν 8 o i - 1 < ν 99 0 0 by have := hcl i hi; omega)
  · rw [set_end9, z0, hkk] at k1 k2
    have e : va_cpy (fun j => opn (ad 3) (ν 8 o j)) (fun _ => opn (ad 3) 0) 0 0 k = fun i => opn (ad 3) (if i < k then ν 8 o i else 0) := by
      funext i
      unfold va_cpy
      by_cases h : i < k
      · rw [if_pos ⟨Nat.zero_le _, by omega⟩, if_pos h]
        congr 2
        omega
      · rw [if_neg (fun t => h (by omega)), if_neg h]
    rw [e] at k1 k2
    exact kk H1 locs1 ⟨L, hL, k1, k2⟩ k3
theorem r_alenX (hx : p.tables.exec = Jvm.exec) (hb : c.code = cc) (hE : Ev z G s) {X : va_W} (hW : WPx z G ad (σ, ν, ρ, lo) X H) (o : Nat) (he : ex ν 8 o) (hdg : decode cc pc = .ok (.arraylength, 1))
    (kk : W p l e R s m args below meth c H locs cells slots Q (F0 m (pc + 1) ls (.int (nI (ν 7 o 1)) :: rest))) : W p l e R s m args below meth c H locs cells slots Q (F0 m pc ls (.ref (ad 8 o) :: rest)) := by
  obtain ⟨L, hL, hP, hD⟩ := hW
  obtain ⟨i8, -, -, h8⟩ := WPx_at (X := X) (G := G) (ad := ad) (S := (σ, ν, ρ, lo)) hL he
  exact va_alen (cA := G.2.1 4) (x := (ν 7 o 1, .inr (.inr (.inr (.inr (fun i => opn (ad 3) (ν 8 o i))))))) hx hb hE.1 hP i8 4 h8 rfl rfl hdg kk
/-- the list's object gets the new row -/
theorem r_putR (hx : p.tables.exec = Jvm.exec) (hb : c.code = cc) (hts : ∀ w ∈ Ts, w.before args s = true) (hown : s.vm.findClass own = some m.cls) (hE : Ev z G s) {q N' : Nat} {g : Nat → Nat} (hW : WPx z G ad (σ, ν, ρ, lo) [xrow G ad q N' g] H) (hS : va_S (Az z) s.heap H locs) (o : Nat) (he : o < 3) (hN : 0 < N') (hin : ∀ w ∈ u_ws RJx4a65c TJx4a65c 3, w ∈ Ts) (hlink : Cond.fieldLink own index RJx4a65c (TJx4a65c 1).2.1 (TJx4a65c 1).2.2.1 ∈ Ts) (hdg : decode cc pc = .ok (.putfield index, 3))
    (kk : ∀ (H1 : Heap) (locs1 : List Loc), WP z G (adup ad o q) (σ, nug ν o N' g, ρ, lo) H1 → va_S (Az z) s.heap H1 locs1 → W p l e R s m args below meth c H1 locs1 cells slots Q (F0 m (pc + 3) ls rest)) : W p l e R s m args below meth c H locs cells slots Q (F0 m pc ls (.ref q :: .ref (ad 7 o) :: rest)) := by
  obtain ⟨L, hL, hP, hD⟩ := hW
  obtain ⟨i7, -, h7, hq7⟩ := WPx_at (X := [xrow G ad q N' g]) (G := G) (ad := ad) (S := (σ, ν, ρ, lo)) hL (show ex ν 7 o from he)
  exact va_put (C := RJx4a65c) (T := TJx4a65c) (N := 3) (ci := 2) (fs := fl7 G ad ν o (σ 7 o)) (ty := .array (.object "java/lang/Object")) hx hb hts hin tyJx4a65c tyJx4a65c_ok nmJx4a65c hown hE.1 hP hD hS i7 hq7 rfl 1 (by decide) (hts _ hlink) (fun _ h9 => h9) rfl rfl rfl rfl (by show 1 < 3; decide) hdg (fun H1 locs1 k1 k2 k3 => kk H1 locs1 (WP_grow he hN hL hD h7 k1) k3)
theorem kG_V {y : MethodName} {bytes : ByteArray} {maxL nL mc ms n k o : Nat} {ret : Option FieldType} {ws : List Cond} {rm : Room} {b : Nat} {As st0 : List Value} (SS : CallFix p m c cc nL s args Ts own) (hE : Ev z G s) (hz : z ≤ s.heap.size) (hS : va_S (Az z) s.heap H locs) (hW : WP z G ad (σ, ν, ρ, lo) H) (hM : Met l y ws rm (Pcs z G ad (σ, ν, ρ, lo) (.ref b :: As)) (Qgr z G ad σ ν ρ lo o k) mc ms (Az z)) (cw : CallW R s args own C index y bytes maxL ret ws rm mc ms n) (hr : ∃ cell : Cell, H[b]? = some cell ∧ cell.vm.isStatics = false ∧ s.vm.findClass C = some cell.cls) (hn : As.length = n) (hsz : ls.size = nL) (hst : st0 = As.reverse ++ .ref b :: rest) (hrm : (rest.map fun v => v.category).sum ≤ 8) (hdg : decode cc pc = .ok (.invokevirtual index, 3)) (hf : cells + mc ≤ R.cells ∧ slots + ms ≤ R.slots)
    (kk : ∀ (q : Nat) (H1 : Heap) (locs1 : List Loc), WP z G (adup ad o q) (σ, nug ν o (capn k) (fun i => if i < k then ν 8 o i else 0), ρ, lo) H1 → va_S (Az z) s.heap H1 locs1 → W p l e R s m args below meth c H1 locs1 (cells + mc) (slots + ms) Q (F0 m (pc + 3) ls (.ref q :: rest))) : W p l e R s m args below meth c H locs cells slots Q (F0 m pc ls st0) := by
  subst hst
  exact va_callr (va_runV (As := As) (rest := rest) SS hM cw ⟨Pcs.blind, hr, fun U hU hw => ⟨rfl, Bc.of hE hz hW hS hU hw⟩⟩ rfl hn hsz rfl (lv_room hrm) hdg hf) hS (fun _ _ h => h) (fun _ h => h) (fun u ra t H1 locs1 ht _ hp hB _ _ hS1 => kk ra H1 locs1 (by rw [← ht]; exact hB) hS1)
theorem kX_S {y : MethodName} {bytes : ByteArray} {maxL nL mc ms n N' : Nat} {g : Nat → Nat} {ret : Option FieldType} {ws : List Cond} {rm : Room} {As st0 : List Value} {Pc : Array Value → State → Prop} (SS : CallFix p m c cc nL s args Ts own) (hS : va_S (Az z) s.heap H locs) (hM : Met l y ws rm Pc (Qxr z G ad (σ, ν, ρ, lo) N' g) mc ms (Az z)) (cw : CallB R s args own index y bytes maxL ret ws rm mc ms n ∧ (Cond.static y).before args s = true) (hp : PreS s H Pc As) (hn : As.length = n) (hsz : ls.size = nL) (hst : st0 = As.reverse ++ rest) (hrm : (rest.map fun v => v.category).sum ≤ 8) (hdg : decode cc pc = .ok (.invokestatic index, 3)) (hf : cells + mc ≤ R.cells ∧ slots + ms ≤ R.slots)
    (kk : ∀ (q : Nat) (H1 : Heap) (locs1 : List Loc), WPx z G ad (σ, ν, ρ, lo) [xrow G ad q N' g] H1 → va_S (Az z) s.heap H1 locs1 → W p l e R s m args below meth c H1 locs1 (cells + mc) (slots + ms) Q (F0 m (pc + 3) ls (.ref q :: rest))) : W p l e R s m args below meth c H locs cells slots Q (F0 m pc ls st0) := by
  subst hst
  exact va_callr (va_runS (As := As) (rest := rest) SS hM cw hp rfl hn hsz rfl (lv_room hrm) hdg hf) hS (fun _ _ h => h) (fun _ h => h) (fun u ra t H1 locs1 ht _ hp hB _ _ hS1 => kk ra H1 locs1 (by rw [← ht]; exact hB) hS1)
end RG
theorem nI_gt9 {n : Nat} (h0 : 0 < n) (h : n < 2147483648) : 0 < nI n := by
  rw [Int32.lt_iff_toInt_lt, nI_toInt h, show (0 : Int32).toInt = 0 by decide]
  omega
theorem shr9 : ∀ k, k < 61 → nI k >>> ((1 : Int32) &&& 31) = nI (k / 2) := by decide +kernel
theorem sub9 (a b : Nat) : nI (a + b) - nI a = nI b := by rw [← nI_add, Int32.add_comm, Int32.add_sub_cancel]
set_option maxHeartbeats 4000000 in
set_option maxRecDepth 100000 in
theorem mtJ8_newLength_cabcc (l : Launch) (z : Nat) (G : Gl) (ad : Nat → Nat → Nat) (σ : SG) (ν : NU) (ρ : RH) (lo : Int64) (k : Nat) (h1 : 2 ≤ k) (h2 : k ≤ 60) : Met l yJ8_newLength_cabcc wsJ8_newLength_cabcc ({ frames := 1, cells := 0, slots := 0, locals := 20 } : Room) (Pcs z G ad (σ, ν, ρ, lo) [.int (nI k), .int (nI 1), .int (nI (k / 2))]) (Qis z G ad (fun r S1 => S1 = (σ, ν, ρ, lo) ∧ r = nI (k + k / 2))) 0 0 (Az z) := by
  refine Met.ofW (cc := cJ8_newLength_cabcc) (maxL := 4) (ret := (some .int)) (by decide) rfl ?_
  intro p e s m args below meth c s₁ B hml hv
  obtain ⟨rfl, hz, hW, hE⟩ := hv
  have hx := B.exec
  have hb := B.bytes
  have hr := B.returns
  have hts := atoms_spec (ws := wsJ8_newLength_cabcc) B.pre
  have hown : s.vm.findClass RJ8 = some m.cls := findClass_of_methodNamed B.named
  have hlocks := B.notSynchronized
  have hS : va_S (Az z) s.heap s.heap [] := va_S.rf
  have hl := lv_entry [.int (nI k), .int (nI 1), .int (nI (k / 2))] (n := 4) (Nat.le_of_ble_eq_true rfl)
  rw [lg_entry_eq]
  generalize (lg_sl [.int (nI k), .int (nI 1), .int (nI (k / 2))] ++ List.replicate (4 - (lg_sl [.int (nI k), .int (nI 1), .int (nI (k / 2))]).length) Slot.unset).toArray = ls at hl ⊢
  have hl : lv_has ls 4 [(0, .int (nI k)), (1, .int (nI 1)), (2, .int (nI (k / 2)))] := hl
  refine lv_iload_n hx hb dJ8_newLength_cabcc_0 rfl (lv_at hl 0 rfl) ?_
  refine lv_iload_n hx hb dJ8_newLength_cabcc_1 rfl (lv_at hl 1 rfl) ?_
  refine lv_iload_n hx hb dJ8_newLength_cabcc_2 rfl (lv_at hl 2 rfl) ?_
  have e1 : (if nI 1 < nI (k / 2) then nI (k / 2) else nI 1) = nI (k / 2) := by
    by_cases h : nI 1 < nI (k / 2)
    · rw [if_pos h]
    · rw [if_neg h]
      have : ¬ 1 < k / 2 := fun q => h (nI_lt q (by omega))
      rw [show k / 2 = 1 by omega]
  refine va_mmax hx hb (hml.trans hl.1.symm) hown (hts _ (List.mem_of_getElem? (i := 1) rfl)) (hts _ (List.mem_of_getElem? (i := 2) rfl)) (hts _ (List.mem_of_getElem? (i := 3) rfl)) (hts _ (List.mem_of_getElem? (i := 4) rfl)) (Nat.le_of_ble_eq_true rfl) (Nat.le_of_ble_eq_true rfl) (Nat.le_of_ble_eq_true rfl) (Nat.le_of_ble_eq_true rfl) dJ8_newLength_cabcc_3 ?_
  rw [e1]
  refine lv_iadd hx hb dJ8_newLength_cabcc_6 ?_
  rw [nI_add]
  refine lv_istore_n (lv' := [(3, .int (nI (k + k / 2))), (0, .int (nI k)), (1, .int (nI 1)), (2, .int (nI (k / 2)))]) hx hb dJ8_newLength_cabcc_7 rfl hl (by decide) rfl (fun ls hl => ?_)
  refine lv_iconst (v := (0 : Int32)) hx hb dJ8_newLength_cabcc_8 (by decide) ?_
  refine lv_iload_n hx hb dJ8_newLength_cabcc_9 rfl (lv_at hl 0 rfl) ?_
  refine lv_icmp_ge (tgt := 21) hx hb dJ8_newLength_cabcc_10 (by decide) (fun q => absurd q (nI_nle (by omega) (by omega))) (fun _ => ?_)
  refine lv_iload_n hx hb dJ8_newLength_cabcc_13 rfl (lv_at hl 0 rfl) ?_
  refine lv_ldc hx hb hown (hts _ (List.mem_of_getElem? (i := 5) rfl)) dJ8_newLength_cabcc_14 ?_
  refine r_icmp_gt (tgt := 21) hx hb (nI_toInt (by omega)) (show (2147483639 : Int32).toInt = 2147483639 by decide) dJ8_newLength_cabcc_16 (by decide) (fun q => absurd (show ((k + k / 2 : Nat) : Int) ≤ 2147483639 by omega) q) (fun _ => ?_)
  refine lv_iload_n hx hb dJ8_newLength_cabcc_19 rfl (lv_at hl 0 rfl) ?_
  exact W.iret (v := nI (k + k / 2)) hx hb hr (fun t ht _ => ⟨⟨_, (σ, ν, ρ, lo), rfl, ⟨rfl, rfl⟩, WP.at9 ht hW⟩, hS.F ht⟩) hS.2.2 dJ8_newLength_cabcc_20 (hlocks := hlocks)

set_option maxHeartbeats 4000000 in
set_option maxRecDepth 100000 in
theorem mtJ7_copyOf_6403c (l : Launch) (z : Nat) (G : Gl) (ad : Nat → Nat → Nat) (σ : SG) (ν : NU) (ρ : RH) (lo : Int64) (o0 k N' mi : Nat) (g1 : o0 < 3) (hk : ν 7 o0 1 = k) (h0 : 0 < k) (h1 : k ≤ N') (h2 : N' ≤ 60) (hcl : ∀ i, i < k → ν 8 o0 i ≤ ν 99 0 0) : Met l yJ7_copyOf_6403c wsJ7_copyOf_6403c ({ frames := 1, cells := 1, slots := N', locals := 30 } : Room) (PcM z G ad (σ, ν, ρ, lo) mi [.ref (ad 8 o0), .int (nI N'), .ref mi]) (Qxr z G ad (σ, ν, ρ, lo) N' (fun i => if i < k then ν 8 o0 i else 0)) 1 N' (Az z) := by
  refine Met.ofW (cc := cJ7_copyOf_6403c) (maxL := 4) (ret := (some (.array (.object "java/lang/Object")))) (by decide) rfl ?_
  intro p e s m args below meth c s₁ B hml hv
  obtain ⟨rfl, ⟨hz, hW, hE⟩, hMi⟩ := hv
  have hx := B.exec
  have hb := B.bytes
  have hr := B.returns
  have hts := atoms_spec (ws := wsJ7_copyOf_6403c) B.pre
  have hown : s.vm.findClass RJ7 = some m.cls := findClass_of_methodNamed B.named
  have hlocks := B.notSynchronized
  have hS : va_S (Az z) s.heap s.heap [] := va_S.rf
  have hl := lv_entry [.ref (ad 8 o0), .int (nI N'), .ref mi] (n := 4) (Nat.le_of_ble_eq_true rfl)
  rw [lg_entry_eq]
  generalize (lg_sl [.ref (ad 8 o0), .int (nI N'), .ref mi] ++ List.replicate (4 - (lg_sl [.ref (ad 8 o0), .int (nI N'), .ref mi]).length) Slot.unset).toArray = ls at hl ⊢
  have hl : lv_has ls 4 [(0, .ref (ad 8 o0)), (1, .int (nI N')), (2, .ref mi)] := hl
  refine lv_aload_n hx hb dJ7_copyOf_6403c_0 rfl (lv_at hl 2 rfl) ?_
  refine va_ldcM hx hb hown (hts _ (List.mem_of_getElem? (i := 1) rfl)) hMi dJ7_copyOf_6403c_1 ?_
  refine lv_acmp_ne (rx := some mi) (ry := some mi) (tgt := 13) hx hb dJ7_copyOf_6403c_3 (by decide) (fun q => absurd rfl q) (fun _ => ?_)
  refine lv_iload_n hx hb dJ7_copyOf_6403c_6 rfl (lv_at hl 1 rfl) ?_
  refine r_newq (N' := N') hx hb hts hown (List.mem_of_getElem? (i := 2) rfl) hE hz hW hS (nI_pos (by omega)) (nI_clamp (by omega)) (by omega) (Nat.le_of_ble_eq_true rfl) (by show 0 + N' ≤ N'; omega) dJ7_copyOf_6403c_7 (fun q H hW hS => ?_)
  refine lv_goto (tgt := 24) hx hb dJ7_copyOf_6403c_10 (by decide) ?_
  refine lv_astore_n (lv' := [(3, .ref q), (0, .ref (ad 8 o0)), (1, .int (nI N')), (2, .ref mi)]) hx hb dJ7_copyOf_6403c_24 rfl hl (by decide) rfl (fun ls hl => ?_)
  refine lv_aload_n hx hb dJ7_copyOf_6403c_25 rfl (lv_at hl 1 rfl) ?_
  refine lv_iconst (v := (0 : Int32)) hx hb dJ7_copyOf_6403c_26 (by decide) ?_
  refine lv_aload_n hx hb dJ7_copyOf_6403c_27 rfl (lv_at hl 0 rfl) ?_
  refine lv_iconst (v := (0 : Int32)) hx hb dJ7_copyOf_6403c_28 (by decide) ?_
  refine lv_aload_n hx hb dJ7_copyOf_6403c_29 rfl (lv_at hl 1 rfl) ?_
  refine r_alenX hx hb hE hW o0 (show o0 < 3 ∧ 0 < ν 7 o0 1 by omega) dJ7_copyOf_6403c_30 ?_
  rw [hk]
  refine lv_iload_n hx hb dJ7_copyOf_6403c_31 rfl (lv_at hl 2 rfl) ?_
  refine va_mmin hx hb (hml.trans hl.1.symm) hown (hts _ (List.mem_of_getElem? (i := 3) rfl)) (hts _ (List.mem_of_getElem? (i := 4) rfl)) (hts _ (List.mem_of_getElem? (i := 5) rfl)) (hts _ (List.mem_of_getElem? (i := 6) rfl)) (Nat.le_of_ble_eq_true rfl) (Nat.le_of_ble_eq_true rfl) (Nat.le_of_ble_eq_true rfl) (by show 0 + N' ≤ N'; omega) dJ7_copyOf_6403c_32 ?_
  rw [if_neg (nI_nlt h1 (by omega))]
  refine r_copyX (k := k) hx hb hml hl.1 hts hown hE hW hS o0 (show o0 < 3 ∧ 0 < ν 7 o0 1 by omega) (by omega) h1 (by omega) hcl (List.mem_of_getElem? (i := 7) rfl) (List.mem_of_getElem? (i := 8) rfl) (List.mem_of_getElem? (i := 9) rfl) (List.mem_of_getElem? (i := 10) rfl) (Nat.le_of_ble_eq_true rfl) (Nat.le_of_ble_eq_true rfl) dJ7_copyOf_6403c_35 (fun H locs hW hS => ?_)
  refine lv_aload_n hx hb dJ7_copyOf_6403c_38 rfl (lv_at hl 0 rfl) ?_
  refine W.widen (k := 1) (n := N') (Nat.le_of_ble_eq_true rfl) (by omega) ?_
  exact W.aret hx hb hr (Or.inr ⟨_, rfl⟩) (Or.inr ⟨_, rfl⟩) (fun t ht _ => ⟨⟨(), q, rfl, trivial, WPx.at9 ht hW⟩, hS.F ht⟩) hS.2.2 dJ7_copyOf_6403c_39 (hlocks := hlocks)

set_option maxHeartbeats 4000000 in
set_option maxRecDepth 100000 in
theorem mtJ7_copyOf_1904c (l : Launch) (z : Nat) (G : Gl) (ad : Nat → Nat → Nat) (σ : SG) (ν : NU) (ρ : RH) (lo : Int64) (o0 k N' : Nat) (g1 : o0 < 3) (hk : ν 7 o0 1 = k) (h0 : 0 < k) (h1 : k ≤ N') (h2 : N' ≤ 60) (hcl : ∀ i, i < k → ν 8 o0 i ≤ ν 99 0 0) : Met l yJ7_copyOf_1904c wsJ7_copyOf_1904c ({ frames := 2, cells := 1, slots := N', locals := 53 } : Room) (Pcs z G ad (σ, ν, ρ, lo) [.ref (ad 8 o0), .int (nI N')]) (Qxr z G ad (σ, ν, ρ, lo) N' (fun i => if i < k then ν 8 o0 i else 0)) 1 N' (Az z) := by
  refine Met.ofW (cc := cJ7_copyOf_1904c) (maxL := 2) (ret := (some (.array (.object "java/lang/Object")))) (by decide) rfl ?_
  intro p e s m args below meth c s₁ B hml hv
  obtain ⟨rfl, hz, hW, hE⟩ := hv
  have hx := B.exec
  have hb := B.bytes
  have hr := B.returns
  have hts := atoms_spec (ws := wsJ7_copyOf_1904c) B.pre
  have hown : s.vm.findClass RJ7 = some m.cls := findClass_of_methodNamed B.named
  have hlocks := B.notSynchronized
  have hS : va_S (Az z) s.heap s.heap [] := va_S.rf
  have hl := lv_entry [.ref (ad 8 o0), .int (nI N')] (n := 2) (Nat.le_of_ble_eq_true rfl)
  rw [lg_entry_eq]
  generalize (lg_sl [.ref (ad 8 o0), .int (nI N')] ++ List.replicate (2 - (lg_sl [.ref (ad 8 o0), .int (nI N')]).length) Slot.unset).toArray = ls at hl ⊢
  have hl : lv_has ls 2 [(0, .ref (ad 8 o0)), (1, .int (nI N'))] := hl
  refine lv_aload_n hx hb dJ7_copyOf_1904c_0 rfl (lv_at hl 0 rfl) ?_
  refine lv_iload_n hx hb dJ7_copyOf_1904c_1 rfl (lv_at hl 1 rfl) ?_
  refine lv_aload_n hx hb dJ7_copyOf_1904c_2 rfl (lv_at hl 0 rfl) ?_
  obtain ⟨mi, hMi⟩ := hE.2.2.2.2.2.2.2.2.2.1
  have hrc : ∃ cell : Cell, s.heap[ad 8 o0]? = some cell ∧ cell.vm.isStatics = false ∧ s.vm.findClass "[Ljava/lang/Object;" = some cell.cls := by
    obtain ⟨L, q8, hL, hP, hD, hq, hq2⟩ := WP_at hW (k := 8) (o := o0) (show o0 < 3 ∧ 0 < ν 7 o0 1 by omega)
    obtain ⟨_, _, -, -, -, f2⟩ := (hE.1.2 4 (G.2.1 4, .object "java/lang/Object") rfl).2
    exact ⟨_, hP q8 _ hq2, rfl, f2⟩
  refine va_getC (C := "[Ljava/lang/Object;") hx hb (hml.trans hl.1.symm) hown (hts _ (List.mem_of_getElem? (i := 1) rfl)) (va_Nw.use rfl (hE.2.2.2.2.2.2.2.2.2.2.1 ⟨"java/lang/Object", "getClass", "()Ljava/lang/Class;"⟩ (List.mem_of_getElem? (i := 0) rfl))) (hts _ (List.mem_of_getElem? (i := 2) rfl)) (hts _ (List.mem_of_getElem? (i := 3) rfl)) (hts _ (List.mem_of_getElem? (i := 4) rfl)) hMi hrc (Nat.le_of_ble_eq_true rfl) (Nat.le_of_ble_eq_true rfl) dJ7_copyOf_1904c_3 ?_
  refine kX_S (rest := []) (As := [.ref (ad 8 o0), .int (nI N'), .ref mi]) ⟨hx, hb, hml, hown, hts⟩ hS (mtJ7_copyOf_6403c l z G ad σ ν ρ lo o0 k N' mi g1 hk h0 h1 h2 hcl) (va_cwS 3 hts gJ7_copyOf_1904c_J7_copyOf_6403c rfl rfl rfl (by decide +kernel) ⟨Nat.le_of_ble_eq_true rfl, Nat.le_of_ble_eq_true rfl⟩) ⟨PcM.blind, fun U hU hw => ⟨rfl, Bc.of hE hz hW hS hU hw, va_Mi.moved hw.alike hMi⟩⟩ rfl hl.1 rfl (Nat.le_of_ble_eq_true rfl) dJ7_copyOf_1904c_6 ⟨Nat.le_of_ble_eq_true rfl, by show 0 + N' ≤ N'; omega⟩ (fun q H locs hW hS => ?_)
  refine W.widen (k := 1) (n := N') (Nat.le_of_ble_eq_true rfl) (by omega) ?_
  exact W.aret hx hb hr (Or.inr ⟨_, rfl⟩) (Or.inr ⟨_, rfl⟩) (fun t ht _ => ⟨⟨(), q, rfl, trivial, WPx.at9 ht hW⟩, hS.F ht⟩) hS.2.2 dJ7_copyOf_1904c_9 (hlocks := hlocks)

set_option maxHeartbeats 4000000 in
set_option maxRecDepth 100000 in
theorem mtJx4a65c_grow_92f84 (l : Launch) (z : Nat) (G : Gl) (ad : Nat → Nat → Nat) (σ : SG) (ν : NU) (ρ : RH) (lo : Int64) (o0 k : Nat) (g1 : o0 < 3) (hk : ν 7 o0 1 = k) (h1 : k ≠ 1) (h2 : k ≤ 40) (hcl : ∀ i, i < k → ν 8 o0 i ≤ ν 99 0 0) : Met l yJx4a65c_grow_92f84 wsJx4a65c_grow_92f84 ({ frames := 3, cells := 1, slots := capn k, locals := 75 } : Room) (Pcs z G ad (σ, ν, ρ, lo) [.ref (ad 7 o0), .int (nI (k + 1))]) (Qgr z G ad σ ν ρ lo o0 k) 1 (capn k) (Az z) := by
  refine Met.ofW (cc := cJx4a65c_grow_92f84) (maxL := 4) (ret := (some (.array (.object "java/lang/Object")))) (by decide) rfl ?_
  intro p e s m args below meth c s₁ B hml hv
  obtain ⟨rfl, hz, hW, hE⟩ := hv
  have hx := B.exec
  have hb := B.bytes
  have hr := B.returns
  have hts := atoms_spec (ws := wsJx4a65c_grow_92f84) B.pre
  have hown : s.vm.findClass RJx4a65c = some m.cls := findClass_of_methodNamed B.named
  have hlocks := B.notSynchronized
  have hS : va_S (Az z) s.heap s.heap [] := va_S.rf
  have hl := lv_entry [.ref (ad 7 o0), .int (nI (k + 1))] (n := 4) (Nat.le_of_ble_eq_true rfl)
  rw [lg_entry_eq]
  generalize (lg_sl [.ref (ad 7 o0), .int (nI (k + 1))] ++ List.replicate (4 - (lg_sl [.ref (ad 7 o0), .int (nI (k + 1))]).length) Slot.unset).toArray = ls at hl ⊢
  have hl : lv_has ls 4 [(0, .ref (ad 7 o0)), (1, .int (nI (k + 1)))] := hl
  by_cases hk0 : k = 0
  · subst hk0
    have hk0 : (0 : Nat) = 0 := rfl
    have ec : capn 0 = 10 := rfl
    refine lv_aload_n hx hb dJx4a65c_grow_92f84_0 rfl (lv_at hl 0 rfl) ?_
    refine r_get7 hx hb hts hown hE hW o0 g1 (fun w h => List.mem_cons_of_mem _ (List.mem_append_right _ h)) 1 (by decide) (List.mem_of_getElem? (i := 1) rfl) (Or.inl rfl) (v := .ref G.2.2.1) (by simp [fl7, hk]) dJx4a65c_grow_92f84_1 ?_
    refine va_tlen (v := 0) hx hb hE.2.2.1 hS rfl dJx4a65c_grow_92f84_4 ?_
    refine lv_istore_n (lv' := [(2, .int 0), (0, .ref (ad 7 o0)), (1, .int (nI (0 + 1)))]) hx hb dJx4a65c_grow_92f84_5 rfl hl (by decide) rfl (fun ls hl => ?_)
    refine lv_iload_n hx hb dJx4a65c_grow_92f84_6 rfl (lv_at hl 0 rfl) ?_
    refine lv_if_gt (tgt := 20) hx hb dJx4a65c_grow_92f84_7 (by decide) (fun q => absurd q (by decide)) (fun _ => ?_)
    refine lv_aload_n hx hb dJx4a65c_grow_92f84_10 rfl (lv_at hl 1 rfl) ?_
    refine r_get7 hx hb hts hown hE hW o0 g1 (fun w h => List.mem_cons_of_mem _ (List.mem_append_right _ h)) 1 (by decide) (List.mem_of_getElem? (i := 1) rfl) (Or.inl rfl) (v := .ref G.2.2.1) (by simp [fl7, hk]) dJx4a65c_grow_92f84_11 ?_
    refine va_gets hx hb hE.2.1 hS hown (hts _ (List.mem_of_getElem? (i := 2) rfl)) (fun _ h => h) dJx4a65c_grow_92f84_14 ?_
    refine lv_acmp_eq (rx := some G.2.2.1) (ry := some G.2.2.1) (tgt := 45) hx hb dJx4a65c_grow_92f84_17 (by decide) (fun _ => ?_) (fun q => absurd rfl q)
    refine lv_aload_n hx hb dJx4a65c_grow_92f84_45 rfl (lv_at hl 1 rfl) ?_
    refine lv_bipush (v := (10 : Int32)) hx hb dJx4a65c_grow_92f84_46 (by decide) ?_
    refine lv_iload_n hx hb dJx4a65c_grow_92f84_48 rfl (lv_at hl 2 rfl) ?_
    refine va_mmax hx hb (hml.trans hl.1.symm) hown (hts _ (List.mem_of_getElem? (i := 3) rfl)) (hts _ (List.mem_of_getElem? (i := 4) rfl)) (hts _ (List.mem_of_getElem? (i := 5) rfl)) (hts _ (List.mem_of_getElem? (i := 6) rfl)) (Nat.le_of_ble_eq_true rfl) (Nat.le_of_ble_eq_true rfl) (Nat.le_of_ble_eq_true rfl) (Nat.zero_le _) dJx4a65c_grow_92f84_49 ?_
    rw [show (if (10 : Int32) < nI (0 + 1) then nI (0 + 1) else 10) = 10 by decide]
    refine r_newq (N' := 10) hx hb hts hown (List.mem_of_getElem? (i := 7) rfl) hE hz hW hS (by decide) (by decide) (by decide) (Nat.le_of_ble_eq_true rfl) (Nat.le_of_ble_eq_true rfl) dJx4a65c_grow_92f84_52 (fun q H hW hS => ?_)
    refine lv_dup_x1 hx hb dJx4a65c_grow_92f84_55 rfl rfl ?_
    refine r_putR hx hb hts hown hE hW hS o0 g1 (by decide) (fun w h => List.mem_cons_of_mem _ (List.mem_append_right _ h)) (List.mem_of_getElem? (i := 1) rfl) dJx4a65c_grow_92f84_56 (fun H locs hW hS => ?_)
    refine W.widen (k := 1) (n := capn 0) (Nat.le_of_ble_eq_true rfl) (Nat.le_of_ble_eq_true rfl) ?_
    have e9 : (fun i => if i < 0 then ν 8 o0 i else 0) = (fun _ => 0 : Nat → Nat) := by funext i; simp
    have hW9 : WP z G (adup ad o0 q) (σ, nug ν o0 (capn 0) (fun i => if i < 0 then ν 8 o0 i else 0), ρ, lo) H := by rw [ec, e9]; exact hW
    exact W.aret hx hb hr (Or.inr ⟨_, rfl⟩) (Or.inr ⟨_, rfl⟩) (fun t ht _ => ⟨⟨(), q, rfl, trivial, WP.at9 ht hW9⟩, hS.F ht⟩) hS.2.2 dJx4a65c_grow_92f84_59 (hlocks := hlocks)
  · have ec : capn k = k + k / 2 := if_neg hk0
    refine lv_aload_n hx hb dJx4a65c_grow_92f84_0 rfl (lv_at hl 0 rfl) ?_
    refine r_get7 hx hb hts hown hE hW o0 g1 (fun w h => List.mem_cons_of_mem _ (List.mem_append_right _ h)) 1 (by decide) (List.mem_of_getElem? (i := 1) rfl) (Or.inl rfl) (v := .ref (ad 8 o0)) (by simp [fl7, hk, hk0]) dJx4a65c_grow_92f84_1 ?_
    refine r_alen hx hb hE hW 8 o0 (show o0 < 3 ∧ 0 < ν 7 o0 1 by omega) (a := (ν 7 o0 1, .inr (.inr (.inr (.inr (fun i => opn (ad 3) (ν 8 o0 i))))))) rfl 4 rfl (v := nI k) (by show nI (ν 7 o0 1) = nI k; rw [hk]) dJx4a65c_grow_92f84_4 ?_
    refine lv_istore_n (lv' := [(2, .int (nI k)), (0, .ref (ad 7 o0)), (1, .int (nI (k + 1)))]) hx hb dJx4a65c_grow_92f84_5 rfl hl (by decide) rfl (fun ls hl => ?_)
    refine lv_iload_n hx hb dJx4a65c_grow_92f84_6 rfl (lv_at hl 0 rfl) ?_
    refine lv_if_gt (tgt := 20) hx hb dJx4a65c_grow_92f84_7 (by decide) (fun _ => ?_) (fun q => absurd (nI_gt9 (by omega) (by omega)) q)
    refine lv_iload_n hx hb dJx4a65c_grow_92f84_20 rfl (lv_at hl 0 rfl) ?_
    refine lv_iload_n hx hb dJx4a65c_grow_92f84_21 rfl (lv_at hl 2 rfl) ?_
    refine lv_iload_n hx hb dJx4a65c_grow_92f84_22 rfl (lv_at hl 0 rfl) ?_
    refine lv_isub hx hb dJx4a65c_grow_92f84_23 ?_
    rw [sub9]
    refine lv_iload_n hx hb dJx4a65c_grow_92f84_24 rfl (lv_at hl 0 rfl) ?_
    refine lv_iconst (v := (1 : Int32)) hx hb dJx4a65c_grow_92f84_25 (by decide) ?_
    refine lv_ishr hx hb dJx4a65c_grow_92f84_26 ?_
    rw [shr9 k (by omega)]
    refine k_Si (rest := []) (As := [.int (nI k), .int (nI 1), .int (nI (k / 2))]) ⟨hx, hb, hml, hown, hts⟩ hE hz hS hW (mtJ8_newLength_cabcc l z G ad σ ν ρ lo k (by omega) (by omega)) (va_cwS 3 hts gJx4a65c_grow_92f84_J8_newLength_cabcc rfl rfl rfl (by decide +kernel) ⟨Nat.le_of_ble_eq_true rfl, Nat.le_of_ble_eq_true rfl⟩) rfl hl.1 rfl (Nat.le_of_ble_eq_true rfl) dJx4a65c_grow_92f84_27 ⟨Nat.le_of_ble_eq_true rfl, Nat.zero_le _⟩ (fun r S1 H locs hp hW hS => ?_)
    obtain ⟨rfl, rfl⟩ := hp
    refine lv_istore_n (lv' := [(3, .int (nI (k + k / 2))), (2, .int (nI k)), (0, .ref (ad 7 o0)), (1, .int (nI (k + 1)))]) hx hb dJx4a65c_grow_92f84_30 rfl hl (by decide) rfl (fun ls hl => ?_)
    refine lv_aload_n hx hb dJx4a65c_grow_92f84_31 rfl (lv_at hl 2 rfl) ?_
    refine lv_aload_n hx hb dJx4a65c_grow_92f84_32 rfl (lv_at hl 2 rfl) ?_
    refine r_get7 hx hb hts hown hE hW o0 g1 (fun w h => List.mem_cons_of_mem _ (List.mem_append_right _ h)) 1 (by decide) (List.mem_of_getElem? (i := 1) rfl) (Or.inl rfl) (v := .ref (ad 8 o0)) (by simp [fl7, hk, hk0]) dJx4a65c_grow_92f84_33 ?_
    refine lv_iload_n hx hb dJx4a65c_grow_92f84_36 rfl (lv_at hl 0 rfl) ?_
    refine kX_S (rest := [.ref (ad 7 o0)]) (As := [.ref (ad 8 o0), .int (nI (k + k / 2))]) ⟨hx, hb, hml, hown, hts⟩ hS (mtJ7_copyOf_1904c l z G ad σ ν ρ lo o0 k (k + k / 2) g1 hk (by omega) (by omega) (by omega) hcl) (va_cwS 2 hts gJx4a65c_grow_92f84_J7_copyOf_1904c rfl rfl rfl (by decide +kernel) ⟨Nat.le_of_ble_eq_true rfl, Nat.le_of_ble_eq_true rfl⟩) ⟨Pcs.blind, fun U hU hw => ⟨rfl, Bc.of hE hz hW hS hU hw⟩⟩ rfl hl.1 rfl (Nat.le_of_ble_eq_true rfl) dJx4a65c_grow_92f84_37 ⟨Nat.le_of_ble_eq_true rfl, by show 0 + (k + k / 2) ≤ capn k; rw [ec]; omega⟩ (fun q H locs hW hS => ?_)
    refine lv_dup_x1 hx hb dJx4a65c_grow_92f84_40 rfl rfl ?_
    refine r_putR hx hb hts hown hE hW hS o0 g1 (by omega) (fun w h => List.mem_cons_of_mem _ (List.mem_append_right _ h)) (List.mem_of_getElem? (i := 1) rfl) dJx4a65c_grow_92f84_41 (fun H locs hW hS => ?_)
    have hW9 : WP z G (adup ad o0 q) (σ, nug ν o0 (capn k) (fun i => if i < k then ν 8 o0 i else 0), ρ, lo) H := by rw [ec]; exact hW
    refine W.widen (k := 1) (n := capn k) (Nat.le_of_ble_eq_true rfl) (by rw [ec]; omega) ?_
    exact W.aret hx hb hr (Or.inr ⟨_, rfl⟩) (Or.inr ⟨_, rfl⟩) (fun t ht _ => ⟨⟨(), q, rfl, trivial, WP.at9 ht hW9⟩, hS.F ht⟩) hS.2.2 dJx4a65c_grow_92f84_44 (hlocks := hlocks)

set_option maxHeartbeats 4000000 in
set_option maxRecDepth 100000 in
theorem mtJx4a65c_grow_d5877 (l : Launch) (z : Nat) (G : Gl) (ad : Nat → Nat → Nat) (σ : SG) (ν : NU) (ρ : RH) (lo : Int64) (o0 k : Nat) (g1 : o0 < 3) (hk : ν 7 o0 1 = k) (h1 : k ≠ 1) (h2 : k ≤ 40) (hcl : ∀ i, i < k → ν 8 o0 i ≤ ν 99 0 0) (hs : σ 7 o0 2 = nI k) : Met l yJx4a65c_grow_d5877 wsJx4a65c_grow_d5877 ({ frames := 4, cells := 1, slots := capn k, locals := 98 } : Room) (Pcs z G ad (σ, ν, ρ, lo) [.ref (ad 7 o0)]) (Qgr z G ad σ ν ρ lo o0 k) 1 (capn k) (Az z) := by
  refine Met.ofW (cc := cJx4a65c_grow_d5877) (maxL := 1) (ret := (some (.array (.object "java/lang/Object")))) (by decide) rfl ?_
  intro p e s m args below meth c s₁ B hml hv
  obtain ⟨rfl, hz, hW, hE⟩ := hv
  have hx := B.exec
  have hb := B.bytes
  have hr := B.returns
  have hts := atoms_spec (ws := wsJx4a65c_grow_d5877) B.pre
  have hown : s.vm.findClass RJx4a65c = some m.cls := findClass_of_methodNamed B.named
  have hlocks := B.notSynchronized
  have hS : va_S (Az z) s.heap s.heap [] := va_S.rf
  have hl := lv_entry [.ref (ad 7 o0)] (n := 1) (Nat.le_of_ble_eq_true rfl)
  rw [lg_entry_eq]
  generalize (lg_sl [.ref (ad 7 o0)] ++ List.replicate (1 - (lg_sl [.ref (ad 7 o0)]).length) Slot.unset).toArray = ls at hl ⊢
  have hl : lv_has ls 1 [(0, .ref (ad 7 o0))] := hl
  refine lv_aload_n hx hb dJx4a65c_grow_d5877_0 rfl (lv_at hl 0 rfl) ?_
  refine lv_aload_n hx hb dJx4a65c_grow_d5877_1 rfl (lv_at hl 0 rfl) ?_
  refine r_get7 hx hb hts hown hE hW o0 g1 (fun w h => List.mem_cons_of_mem _ (List.mem_append_right _ h)) 2 (by decide) (List.mem_of_getElem? (i := 1) rfl) (Or.inl rfl) (v := .int (nI k)) (by simp [fl7, hs]) dJx4a65c_grow_d5877_2 ?_
  refine lv_iconst (v := nI 1) hx hb dJx4a65c_grow_d5877_5 (by decide) ?_
  refine lv_iadd hx hb dJx4a65c_grow_d5877_6 ?_
  rw [nI_add]
  refine kG_V (rest := []) (As := [.int (nI (k + 1))]) ⟨hx, hb, hml, hown, hts⟩ hE hz hS hW (mtJx4a65c_grow_92f84 l z G ad σ ν ρ lo o0 k g1 hk h1 h2 hcl) (cwV 1 hts gJx4a65c_grow_d5877_Jx4a65c_grow_92f84 rfl rfl rfl (by decide +kernel) ⟨Nat.le_of_ble_eq_true rfl, Nat.le_of_ble_eq_true rfl⟩) (r_recv hE hW 7 o0 g1 (ci := 2) rfl rfl) rfl hl.1 rfl (Nat.le_of_ble_eq_true rfl) dJx4a65c_grow_d5877_7 ⟨Nat.le_of_ble_eq_true rfl, by show 0 + capn k ≤ capn k; omega⟩ (fun q H locs hW hS => ?_)
  refine W.widen (k := 1) (n := capn k) (Nat.le_of_ble_eq_true rfl) (by omega) ?_
  exact W.aret hx hb hr (Or.inr ⟨_, rfl⟩) (Or.inr ⟨_, rfl⟩) (fun t ht _ => ⟨⟨(), q, rfl, trivial, WP.at9 ht hW⟩, hS.F ht⟩) hS.2.2 dJx4a65c_grow_d5877_10 (hlocks := hlocks)

theorem GR.rf {ν : NU} {o n : Nat} (h : n < ν 7 o 1) : GR ν ν o n := ⟨(if_pos h).symm, fun _ _ => rfl, fun _ => Or.inl rfl, fun _ _ _ _ _ => rfl⟩
theorem GR.nug {ν : NU} {o n : Nat} (h : ν 7 o 1 = n) : GR ν (nug ν o (capn n) (fun i => if i < n then ν 8 o i else 0)) o n := by
  refine ⟨?_, fun i hi => ?_, fun i => ?_, fun a b c h1 h2 => ?_⟩
  · rw [nug_7, h, if_neg (Nat.lt_irrefl _)]
  · rw [nug_8]; exact if_pos hi
  · rw [nug_8]
    by_cases hi : i < n
    · exact Or.inl (if_pos hi)
    · exact Or.inr (if_neg hi)
  · show r3 (u3 ν 7 o 1 (capn n)) 8 o _ a b c = ν a b c
    rw [r3_oth h2]
    exact if_neg h1
theorem Xt.nug {ad : Nat → Nat → Nat} {ν : NU} {o N' q : Nat} {g : Nat → Nat} (ho : o < 3) (hN : 0 < N') : Xt ad (adup ad o q) ν (nug ν o N' g) := fun k b hk he => ⟨(ex_nug ho hN k b).mpr (Or.inl he), if_neg (fun t => hk t.1)⟩
theorem GR.cap {ν ν1 : NU} {o n : Nat} (h : GR ν ν1 o n) (hk : okc ν o n) : n < ν1 7 o 1 ∧ ν1 7 o 1 ≤ 60 := by
  obtain ⟨k1, k2, k3, k4, -⟩ := hk
  rw [h.1]
  split
  · omega
  · have e : ν 7 o 1 = n := by omega
    rw [e]
    rcases capn_le k4 with g | g
    · exact ⟨g.2, g.1⟩
    · omega
theorem GR.n {ν ν1 : NU} {o n : Nat} (h : GR ν ν1 o n) {a : Nat} (h7 : a ≠ 7) (h8 : a ≠ 8) : ν1 a = ν a := by
  funext b c
  exact h.2.2.2 a b c (fun t => h7 t.1) (fun t => h8 t.1)
set_option maxHeartbeats 4000000 in
set_option maxRecDepth 100000 in
theorem tJx4a65c_add_72be8_11 {p : Program} {l : Launch} {e : Env} {s : State} {m : MethodId} {args : Array Value} {below : List Frame} {meth : Method} {c : Code} {H : Heap} {locs : List Loc} {z : Nat} {G : Gl} {ad ad1 : Nat → Nat → Nat} {σ : SG} {ν ν1 : NU} {ρ : RH} {lo : Int64} {R : Room} {ls : Array Slot} {o0 w n : Nat} (hx : p.tables.exec = Jvm.exec) (hb : c.code = cJx4a65c_add_72be8) (hr : meth.sig.returnType = none) (hts : ∀ w ∈ wsJx4a65c_add_72be8, w.before args s = true) (hown : s.vm.findClass RJx4a65c = some m.cls) (hlocks : meth.locks = false) (hE : Ev z G s) (g1 : o0 < 3) (g2 : w < ν 99 0 0) (hk : okc ν o0 n) (hG : GR ν ν1 o0 n) (hX : Xt ad ad1 ν ν1) (hW : WP z G ad1 (σ, ν1, ρ, lo) H) (hS : va_S (Az z) s.heap H locs) (hl : lv_has ls 4 [(2, .ref (ad1 8 o0)), (0, .ref (ad1 7 o0)), (1, .ref (ad1 3 w)), (3, .int (nI n))]) : W p l e R s m args below meth c H locs 1 60 (MQ below (Qva z G (fun u => ∃ (ν1 : NU), u.1 = (u3 σ 7 o0 2 (nI (n + 1)), u3 ν1 8 o0 n (w + 1), ρ, lo) ∧ Xt ad u.2 ν ν1 ∧ GR ν ν1 o0 n)) args s 1 60 (Az z)) (F0 m 11 ls []) := by
  have hc := hG.cap hk
  have n7 : ν1 7 o0 1 ≤ 60 := hc.2
  have e99 : ν1 99 = ν 99 := hG.n (by decide) (by decide)
  have hn : n ≤ 40 := hk.2.2.2.1
  refine lv_aload_n hx hb dJx4a65c_add_72be8_11 rfl (lv_at hl 0 rfl) ?_
  refine lv_iload_n hx hb dJx4a65c_add_72be8_12 rfl (lv_at hl 3 rfl) ?_
  refine lv_aload_n hx hb dJx4a65c_add_72be8_13 rfl (lv_at hl 2 rfl) ?_
  refine r_eld hx hb hE hW hS o0 (show o0 < 3 ∧ 0 < ν1 7 o0 1 by omega) w (show w < ν1 99 0 0 by rw [e99]; exact g2) (vp_in_nI hc.1 (by omega)) dJx4a65c_add_72be8_14 (fun ν2 e2 H locs hW hS => ?_)
  rw [nI_clamp (by omega)] at e2
  refine lv_aload_n hx hb dJx4a65c_add_72be8_15 rfl (lv_at hl 1 rfl) ?_
  refine lv_iload_n hx hb dJx4a65c_add_72be8_16 rfl (lv_at hl 3 rfl) ?_
  refine lv_iconst (v := nI 1) hx hb dJx4a65c_add_72be8_17 (by decide) ?_
  refine lv_iadd hx hb dJx4a65c_add_72be8_18 ?_
  rw [nI_add]
  refine r_put7 hx hb hts hown hE hW hS o0 g1 (fun w h => List.mem_cons_of_mem _ (List.mem_append_right _ h)) 2 (by decide) (List.mem_of_getElem? (i := 1) rfl) (Or.inl rfl) rfl rfl (x := nI (n + 1)) rfl dJx4a65c_add_72be8_19 (fun σ1 e1 H locs hW hS => ?_)
  exact W.vret hx hb hr (fun t ht _ => ⟨⟨((σ1, ν2, ρ, lo), ad1), rfl, ⟨ν1, by rw [e1, e2], hX, hG⟩, WP.at9 ht hW⟩, hS.F ht⟩) hS.2.2 dJx4a65c_add_72be8_22 (hlocks := hlocks)

set_option maxHeartbeats 4000000 in
set_option maxRecDepth 100000 in
theorem mtJx4a65c_add_72be8 (l : Launch) (z : Nat) (G : Gl) (ad : Nat → Nat → Nat) (σ : SG) (ν : NU) (ρ : RH) (lo : Int64) (o0 w n : Nat) (g1 : o0 < 3) (g2 : w < ν 99 0 0) (hs : σ 7 o0 2 = nI n) (hk : okc ν o0 n) : Met l yJx4a65c_add_72be8 wsJx4a65c_add_72be8 ({ frames := 5, cells := 1, slots := 60, locals := 118 } : Room) (Pcs z G ad (σ, ν, ρ, lo) [.ref (ad 7 o0), .ref (ad 3 w), .ref (if ν 7 o0 1 = 0 then G.2.2.1 else ad 8 o0), .int (nI n)]) (Qva z G (fun u => ∃ (ν1 : NU), u.1 = (u3 σ 7 o0 2 (nI (n + 1)), u3 ν1 8 o0 n (w + 1), ρ, lo) ∧ Xt ad u.2 ν ν1 ∧ GR ν ν1 o0 n)) 1 60 (Az z) := by
  refine Met.ofW (cc := cJx4a65c_add_72be8) (maxL := 4) (ret := none) (by decide) rfl ?_
  intro p e s m args below meth c s₁ B hml hv
  obtain ⟨rfl, hz, hW, hE⟩ := hv
  have hx := B.exec
  have hb := B.bytes
  have hr := B.returns
  have hts := atoms_spec (ws := wsJx4a65c_add_72be8) B.pre
  have hown : s.vm.findClass RJx4a65c = some m.cls := findClass_of_methodNamed B.named
  have hlocks := B.notSynchronized
  have hS : va_S (Az z) s.heap s.heap [] := va_S.rf
  have hl := lv_entry [.ref (ad 7 o0), .ref (ad 3 w), .ref (if ν 7 o0 1 = 0 then G.2.2.1 else ad 8 o0), .int (nI n)] (n := 4) (Nat.le_of_ble_eq_true rfl)
  rw [lg_entry_eq]
  generalize (lg_sl [.ref (ad 7 o0), .ref (ad 3 w), .ref (if ν 7 o0 1 = 0 then G.2.2.1 else ad 8 o0), .int (nI n)] ++ List.replicate (4 - (lg_sl [.ref (ad 7 o0), .ref (ad 3 w), .ref (if ν 7 o0 1 = 0 then G.2.2.1 else ad 8 o0), .int (nI n)]).length) Slot.unset).toArray = ls at hl ⊢
  have hl : lv_has ls 4 [(0, .ref (ad 7 o0)), (1, .ref (ad 3 w)), (2, .ref (if ν 7 o0 1 = 0 then G.2.2.1 else ad 8 o0)), (3, .int (nI n))] := hl
  obtain ⟨k1, k2, k3, k4, k5⟩ := id hk
  refine lv_iload_n hx hb dJx4a65c_add_72be8_0 rfl (lv_at hl 3 rfl) ?_
  have go : ∀ {H : Heap} {locs : List Loc}, WP z G ad (σ, ν, ρ, lo) H → va_S (Az z) s.heap H locs → ν 7 o0 1 = n → W p l e (headSpec wsJx4a65c_add_72be8 { frames := 5, cells := 1, slots := 60, locals := 118 }).room s m #[.ref (ad 7 o0), .ref (ad 3 w), .ref (if ν 7 o0 1 = 0 then G.2.2.1 else ad 8 o0), .int (nI n)] below meth c H locs 0 0 (MQ below (Qva z G (fun u => ∃ (ν1 : NU), u.1 = (u3 σ 7 o0 2 (nI (n + 1)), u3 ν1 8 o0 n (w + 1), ρ, lo) ∧ Xt ad u.2 ν ν1 ∧ GR ν ν1 o0 n)) #[.ref (ad 7 o0), .ref (ad 3 w), .ref (if ν 7 o0 1 = 0 then G.2.2.1 else ad 8 o0), .int (nI n)] s 1 60 (Az z)) (F0 m 6 ls []) := by
    intro H locs hW hS hkn
    refine lv_aload_n hx hb dJx4a65c_add_72be8_6 rfl (lv_at hl 0 rfl) ?_
    refine kG_V (rest := []) (As := []) ⟨hx, hb, hml, hown, hts⟩ hE hz hS hW (mtJx4a65c_grow_d5877 l z G ad σ ν ρ lo o0 n g1 hkn (by omega) k4 k5 hs) (cwV 0 hts gJx4a65c_add_72be8_Jx4a65c_grow_d5877 rfl rfl rfl (by decide +kernel) ⟨Nat.le_of_ble_eq_true rfl, Nat.le_of_ble_eq_true rfl⟩) (r_recv hE hW 7 o0 g1 (ci := 2) rfl rfl) rfl hl.1 rfl (Nat.le_of_ble_eq_true rfl) dJx4a65c_add_72be8_7 ⟨Nat.le_of_ble_eq_true rfl, by show 0 + capn n ≤ 60; rcases capn_le k4 with t | t <;> omega⟩ (fun q H locs hW hS => ?_)
    refine lv_astore_n (lv' := [(2, .ref q), (0, .ref (ad 7 o0)), (1, .ref (ad 3 w)), (3, .int (nI n))]) hx hb dJx4a65c_add_72be8_10 rfl hl (by decide) rfl (fun ls hl => ?_)
    have hq : adup ad o0 q 8 o0 = q := if_pos ⟨rfl, rfl⟩
    have hn1 : 0 < capn n := by rcases capn_le k4 with t | t <;> omega
    refine W.widen (k := 1) (n := 60) (Nat.le_of_ble_eq_true rfl) (by rcases capn_le k4 with t | t <;> omega) ?_
    exact tJx4a65c_add_72be8_11 (ad1 := adup ad o0 q) (ν1 := nug ν o0 (capn n) (fun i => if i < n then ν 8 o0 i else 0)) hx hb hr hts hown hlocks hE g1 g2 hk (GR.nug hkn) (Xt.nug g1 hn1) hW hS (by rw [hq]; exact hl)
  by_cases h0 : ν 7 o0 1 = 0
  · rw [if_pos h0] at hl
    refine lv_aload_n hx hb dJx4a65c_add_72be8_1 rfl (lv_at hl 2 rfl) ?_
    refine va_tlen (v := 0) hx hb hE.2.2.1 hS rfl dJx4a65c_add_72be8_2 ?_
    refine r_icmp_ne (tgt := 11) hx hb (nI_toInt (by omega)) (show (0 : Int32).toInt = 0 by decide) dJx4a65c_add_72be8_3 (by decide) (fun q => absurd (show ((n : Nat) : Int) = 0 by omega) q) (fun _ => ?_)
    exact go hW hS (by omega)
  · rw [if_neg h0] at hl
    refine lv_aload_n hx hb dJx4a65c_add_72be8_1 rfl (lv_at hl 2 rfl) ?_
    refine r_alen hx hb hE hW 8 o0 (show o0 < 3 ∧ 0 < ν 7 o0 1 by omega) (a := (ν 7 o0 1, .inr (.inr (.inr (.inr (fun i => opn (ad 3) (ν 8 o0 i))))))) rfl 4 rfl (v := nI (ν 7 o0 1)) rfl dJx4a65c_add_72be8_2 ?_
    refine r_icmp_ne (tgt := 11) hx hb (nI_toInt (by omega)) (nI_toInt (by omega)) dJx4a65c_add_72be8_3 (by decide) (fun q => ?_) (fun q => go hW hS (by omega))
    refine W.widen (k := 1) (n := 60) (Nat.le_of_ble_eq_true rfl) (Nat.le_of_ble_eq_true rfl) ?_
    exact tJx4a65c_add_72be8_11 (ad1 := ad) (ν1 := ν) hx hb hr hts hown hlocks hE g1 g2 hk (GR.rf (by omega)) Xt.rf hW hS (lv_sub hl [2, 0, 1, 3] rfl)

theorem Xt.u8 {ad ad1 : Nat → Nat → Nat} {ν ν1 ν2 : NU} (h : Xt ad ad1 ν ν1) (e : ν2 99 = ν1 99) : Xt ad ad1 ν ν2 := Xt.tr h (Xt.n e)
set_option maxHeartbeats 4000000 in
set_option maxRecDepth 100000 in
theorem mtJx4a65c_add_9ea2d (l : Launch) (z : Nat) (G : Gl) (ad : Nat → Nat → Nat) (σ : SG) (ν : NU) (ρ : RH) (lo : Int64) (o0 w : Nat) (post : Int32 → SG → NU → Prop) (h : wpJx4a65c_add_9ea2d σ ν o0 w post) : Met l yJx4a65c_add_9ea2d wsJx4a65c_add_9ea2d ({ frames := 6, cells := 1, slots := 60, locals := 150 } : Room) (Pcs z G ad (σ, ν, ρ, lo) [.ref (ad 7 o0), .ref (ad 3 w)]) (Qia z G (fun r u => ∃ (t : SG) (v : NU), u.1 = (t, v, ρ, lo) ∧ Xt ad u.2 ν v ∧ post r t v)) 1 60 (Az z) := by
  refine Met.ofW (cc := cJx4a65c_add_9ea2d) (maxL := 2) (ret := (some .boolean)) (by decide) rfl ?_
  intro p e s m args below meth c s₁ B hml hv
  obtain ⟨rfl, hz, hW, hE⟩ := hv
  have hx := B.exec
  have hb := B.bytes
  have hr := B.returns
  have hts := atoms_spec (ws := wsJx4a65c_add_9ea2d) B.pre
  have hown : s.vm.findClass RJx4a65c = some m.cls := findClass_of_methodNamed B.named
  have hlocks := B.notSynchronized
  have hS : va_S (Az z) s.heap s.heap [] := va_S.rf
  have hl := lv_entry [.ref (ad 7 o0), .ref (ad 3 w)] (n := 2) (Nat.le_of_ble_eq_true rfl)
  rw [lg_entry_eq]
  generalize (lg_sl [.ref (ad 7 o0), .ref (ad 3 w)] ++ List.replicate (2 - (lg_sl [.ref (ad 7 o0), .ref (ad 3 w)]).length) Slot.unset).toArray = ls at hl ⊢
  have hl : lv_has ls 2 [(0, .ref (ad 7 o0)), (1, .ref (ad 3 w))] := hl
  obtain ⟨g1, g2, n, hs, hk, h⟩ := h
  refine lv_aload_n hx hb dJx4a65c_add_9ea2d_0 rfl (lv_at hl 0 rfl) ?_
  refine lv_dup hx hb dJx4a65c_add_9ea2d_1 rfl ?_
  refine r_get7 hx hb hts hown hE hW o0 g1 (fun w h => List.mem_cons_of_mem _ (List.mem_append_right _ h)) 0 (by decide) (List.mem_of_getElem? (i := 1) rfl) (Or.inr (List.mem_of_getElem? (i := 2) rfl)) (v := .int (σ 7 o0 0)) rfl dJx4a65c_add_9ea2d_2 ?_
  refine lv_iconst (v := (1 : Int32)) hx hb dJx4a65c_add_9ea2d_5 (by decide) ?_
  refine lv_iadd hx hb dJx4a65c_add_9ea2d_6 ?_
  refine r_put7 hx hb hts hown hE hW hS o0 g1 (fun w h => List.mem_cons_of_mem _ (List.mem_append_right _ h)) 0 (by decide) (List.mem_of_getElem? (i := 1) rfl) (Or.inr (List.mem_of_getElem? (i := 2) rfl)) rfl rfl (x := σ 7 o0 0 + 1) rfl dJx4a65c_add_9ea2d_7 (fun σ1 e1 H locs hW hS => ?_)
  have hs1 : σ1 7 o0 2 = nI n := by rw [e1, ← hs]; simp [u3]
  refine lv_aload_n hx hb dJx4a65c_add_9ea2d_10 rfl (lv_at hl 0 rfl) ?_
  refine lv_aload_n hx hb dJx4a65c_add_9ea2d_11 rfl (lv_at hl 1 rfl) ?_
  refine lv_aload_n hx hb dJx4a65c_add_9ea2d_12 rfl (lv_at hl 0 rfl) ?_
  refine r_get7 hx hb hts hown hE hW o0 g1 (fun w h => List.mem_cons_of_mem _ (List.mem_append_right _ h)) 1 (by decide) (List.mem_of_getElem? (i := 3) rfl) (Or.inl rfl) (v := .ref (if ν 7 o0 1 = 0 then G.2.2.1 else ad 8 o0)) rfl dJx4a65c_add_9ea2d_13 ?_
  refine lv_aload_n hx hb dJx4a65c_add_9ea2d_16 rfl (lv_at hl 0 rfl) ?_
  refine r_get7 hx hb hts hown hE hW o0 g1 (fun w h => List.mem_cons_of_mem _ (List.mem_append_right _ h)) 2 (by decide) (List.mem_of_getElem? (i := 4) rfl) (Or.inl rfl) (v := .int (nI n)) (by simp [fl7, hs1]) dJx4a65c_add_9ea2d_17 ?_
  refine kA_Vv (rest := []) (As := [.ref (ad 3 w), .ref (if ν 7 o0 1 = 0 then G.2.2.1 else ad 8 o0), .int (nI n)]) ⟨hx, hb, hml, hown, hts⟩ hE hz hS hW (mtJx4a65c_add_72be8 l z G ad σ1 ν ρ lo o0 w n g1 g2 hs1 hk) (cwV 3 hts gJx4a65c_add_9ea2d_Jx4a65c_add_72be8 rfl rfl rfl (by decide +kernel) ⟨Nat.le_of_ble_eq_true rfl, Nat.le_of_ble_eq_true rfl⟩) (r_recv hE hW 7 o0 g1 (ci := 2) rfl rfl) rfl hl.1 rfl (Nat.le_of_ble_eq_true rfl) dJx4a65c_add_9ea2d_20 ⟨Nat.le_of_ble_eq_true rfl, Nat.le_of_ble_eq_true rfl⟩ (fun S1 ad1 H locs hp hW hS => ?_)
  obtain ⟨ν1, rfl, hX, hG⟩ := hp
  refine lv_iconst (v := (1 : Int32)) hx hb dJx4a65c_add_9ea2d_23 (by decide) ?_
  exact W.zret (v := (1 : Int32)) (ty := .boolean) hx hb hr rfl (fun t ht _ => ⟨⟨_, ((_, _, ρ, lo), ad1), rfl, ⟨_, _, rfl, Xt.u8 hX (u3_ne (by decide)), h _ ν1 _ (by rw [e1]) hG rfl⟩, WP.at9 ht hW⟩, hS.F ht⟩) hS.2.2 dJx4a65c_add_9ea2d_24 (hlocks := hlocks)

set_option maxHeartbeats 4000000 in
set_option maxRecDepth 100000 in
theorem mtJx4a65c_rangeCheckForAdd_d00df (l : Launch) (z : Nat) (G : Gl) (ad : Nat → Nat → Nat) (σ : SG) (ν : NU) (ρ : RH) (lo : Int64) (o0 n k : Nat) (g1 : o0 < 3) (hs : σ 7 o0 2 = nI n) (hk : k ≤ n) (hn : n ≤ 40) : Met l yJx4a65c_rangeCheckForAdd_d00df wsJx4a65c_rangeCheckForAdd_d00df ({ frames := 0, cells := 0, slots := 0, locals := 0 } : Room) (Pcs z G ad (σ, ν, ρ, lo) [.ref (ad 7 o0), .int (nI k)]) (Qvs z G ad (fun S1 => S1 = (σ, ν, ρ, lo))) 0 0 (Az z) := by
  refine Met.ofW (cc := cJx4a65c_rangeCheckForAdd_d00df) (maxL := 2) (ret := none) (by decide) rfl ?_
  intro p e s m args below meth c s₁ B hml hv
  obtain ⟨rfl, hz, hW, hE⟩ := hv
  have hx := B.exec
  have hb := B.bytes
  have hr := B.returns
  have hts := atoms_spec (ws := wsJx4a65c_rangeCheckForAdd_d00df) B.pre
  have hown : s.vm.findClass RJx4a65c = some m.cls := findClass_of_methodNamed B.named
  have hlocks := B.notSynchronized
  have hS : va_S (Az z) s.heap s.heap [] := va_S.rf
  have hl := lv_entry [.ref (ad 7 o0), .int (nI k)] (n := 2) (Nat.le_of_ble_eq_true rfl)
  rw [lg_entry_eq]
  generalize (lg_sl [.ref (ad 7 o0), .int (nI k)] ++ List.replicate (2 - (lg_sl [.ref (ad 7 o0), .int (nI k)]).length) Slot.unset).toArray = ls at hl ⊢
  have hl : lv_has ls 2 [(0, .ref (ad 7 o0)), (1, .int (nI k))] := hl
  refine lv_iload_n hx hb dJx4a65c_rangeCheckForAdd_d00df_0 rfl (lv_at hl 1 rfl) ?_
  refine lv_aload_n hx hb dJx4a65c_rangeCheckForAdd_d00df_1 rfl (lv_at hl 0 rfl) ?_
  refine r_get7 hx hb hts hown hE hW o0 g1 (fun w h => List.mem_cons_of_mem _ (List.mem_append_right _ h)) 2 (by decide) (List.mem_of_getElem? (i := 1) rfl) (Or.inl rfl) (v := .int (nI n)) (by simp [fl7, hs]) dJx4a65c_rangeCheckForAdd_d00df_2 ?_
  refine r_icmp_gt (tgt := 12) hx hb (nI_toInt (by omega)) (nI_toInt (by omega)) dJx4a65c_rangeCheckForAdd_d00df_5 (by decide) (fun q => absurd (show ((k : Nat) : Int) ≤ (n : Int) by omega) q) (fun _ => ?_)
  refine lv_iload_n hx hb dJx4a65c_rangeCheckForAdd_d00df_8 rfl (lv_at hl 1 rfl) ?_
  refine r_if_ge (tgt := 25) hx hb (nI_toInt (by omega)) dJx4a65c_rangeCheckForAdd_d00df_9 (by decide) (fun _ => ?_) (fun q => absurd q (by omega))
  exact W.vret hx hb hr (fun t ht _ => ⟨⟨(σ, ν, ρ, lo), rfl, rfl, WP.at9 ht hW⟩, hS.F ht⟩) hS.2.2 dJx4a65c_rangeCheckForAdd_d00df_25 (hlocks := hlocks)

section RE
variable {p : Program} {l : Launch} {e : Env} {R : Room} {s : State} {m : MethodId} {args : Array Value} {below : List Frame} {meth : Method} {c : Code} {H : Heap} {locs : List Loc} {cells slots : Nat} {Q : State → Prop}
variable {cc : ByteArray} {pc : Nat} {ls : Array Slot} {rest : List Value} {z : Nat} {G : Gl} {ad : Nat → Nat → Nat} {Ts : List Cond} {own : String} {index : Nat} {σ : SG} {ν : NU} {ρ : RH} {lo : Int64}
/-- elements of a list's row move up by one -/
theorem r_copyE {nL n k : Nat} (hx : p.tables.exec = Jvm.exec) (hb : c.code = cc) (hml : c.maxLocals = nL) (hsz : ls.size = nL) (hts : ∀ w ∈ Ts, w.before args s = true) (hown : s.vm.findClass own = some m.cls) (hE : Ev z G s) (hW : WP z G ad (σ, ν, ρ, lo) H) (hS : va_S (Az z) s.heap H locs) (o : Nat) (he : ex ν 8 o) (hk : k ≤ n) (hn : n < ν 7 o 1) (hn2 : n ≤ 40) (hcl : ∀ i, i < n → ν 8 o i ≤ ν 99 0 0)
    (hlink : Cond.methodLink own index arraycopyName ∈ Ts) (hnat : Cond.native arraycopyName ∈ Ts) (hstat : Cond.static arraycopyName ∈ Ts) (hini : Cond.initialized "java/lang/System" ∈ Ts) (hframes : 1 ≤ R.frames) (hlocals : (rest.map fun v => v.category).sum + (nativeFrameWords "java/lang/System" "arraycopy" 5 + 11) ≤ R.locals) (hdg : decode cc pc = .ok (.invokestatic index, 3))
    (kk : ∀ (ν1 : NU), ν1 = r3 ν 8 o (va_cpy (ν 8 o) (ν 8 o) k (k + 1) (n - k)) → ∀ (H1 : Heap) (locs1 : List Loc), WP z G ad (σ, ν1, ρ, lo) H1 → va_S (Az z) s.heap H1 locs1 → W p l e R s m args below meth c H1 locs1 cells slots Q (F0 m (pc + 3) ls rest)) : W p l e R s m args below meth c H locs cells slots Q (F0 m pc ls (.int (nI (n - k)) :: .int (nI (k + 1)) :: .ref (ad 8 o) :: .int (nI k) :: .ref (ad 8 o) :: rest)) := by
  have hW0 := WPx.of hW
  obtain ⟨L, q, hL, hP, hD, hq, hq2⟩ := WP_at hW he
  have c1 : (nI k).toNatClampNeg = k := nI_clamp (by omega)
  have c2 : (nI (k + 1)).toNatClampNeg = k + 1 := nI_clamp (by omega)
  have c3 : (nI (n - k)).toNatClampNeg = n - k := nI_clamp (by omega)
  refine va_copyM (a := ad 8 o) (a0 := ad 8 o) (c0 := G.2.1 4) (c1 := G.2.1 4) (n0 := ν 7 o 1) (n1 := ν 7 o 1) (f := fun j => opn (ad 3) (ν 8 o j)) (g := fun j => opn (ad 3) (ν 8 o j)) (E0 := "java/lang/Object") (E1 := "java/lang/Object") hx hb (hml.trans hsz.symm) hown (hts _ hlink) (hts _ hnat) (hts _ hstat) (hts _ hini) hE.1 hP hD hS q q 4 4 hq2 hq2 rfl rfl (nI_pos (by omega)) (nI_pos (by omega)) (nI_pos (by omega)) (by rw [c1, c3]; omega) (by rw [c2, c3]; omega) (fun i hi y hy => ?_) hframes hlocals hdg (fun H1 locs1 k1 k2 k3 => kk _ rfl H1 locs1 (WP_set hL hD hq ?_ (ex_congr (ν' := r3 ν 8 o (va_cpy (ν 8 o) (ν 8 o) k (k + 1) (n - k))) (ν := ν) (r3_oth9 (by decide)) (r3_oth9 (by decide))) (fun a b _ hne => ct_nu (r3_oth9 (by decide)) (r3_oth9 (by decide)) (r3_oth9 (by decide)) (fun h8 => r3_oth (fun t => hne ⟨h8, t.2⟩)) (fun h13 => by rw [r3_oth9 (by decide)])) k1 k2) k3)
  · rw [c3] at hi
    rw [c1] at hy
    unfold opn at hy
    split at hy
    · cases hy
    · next hne =>
      cases hy
      exact any_inst (X := []) hE hL (by rw [List.append_nil]; exact hP) (show ν 8 o (k + i) - 1 < ν 99 0 0 by have := hcl (k + i) (by omega); omega)
  · rw [c1, c2, c3]
    have e1 : r3 ν 8 o (va_cpy (ν 8 o) (ν 8 o) k (k + 1) (n - k)) 7 o 1 = ν 7 o 1 := by rw [r3_oth9 (by decide)]
    show (Sum.inl (G.2.1 4, r3 ν 8 o (va_cpy (ν 8 o) (ν 8 o) k (k + 1) (n - k)) 7 o 1, Sum.inr (Sum.inr (Sum.inr (Sum.inr (fun j => opn (ad 3) (r3 ν 8 o (va_cpy (ν 8 o) (ν 8 o) k (k + 1) (n - k)) 8 o j)))))) : va_E) = _
    rw [e1, r3_row]
    exact congrArg (fun f => (Sum.inl (G.2.1 4, ν 7 o 1, Sum.inr (Sum.inr (Sum.inr (Sum.inr f)))) : va_E)) (by funext j; unfold va_cpy; split <;> rfl)
end RE
set_option maxHeartbeats 4000000 in
set_option maxRecDepth 100000 in
theorem tJx4a65c_add_7a177_38 {p : Program} {l : Launch} {e : Env} {s : State} {m : MethodId} {args : Array Value} {below : List Frame} {meth : Method} {c : Code} {H : Heap} {locs : List Loc} {z : Nat} {G : Gl} {ad ad1 : Nat → Nat → Nat} {σ : SG} {ν ν1 : NU} {ρ : RH} {lo : Int64} {R : Room} {ls : Array Slot} {o0 w n : Nat} {k kc ks : Nat} {post : SG → NU → Prop} (hx : p.tables.exec = Jvm.exec) (hb : c.code = cJx4a65c_add_7a177) (hml : c.maxLocals = 5) (hr : meth.sig.returnType = none) (hts : ∀ w ∈ wsJx4a65c_add_7a177, w.before args s = true) (hown : s.vm.findClass RJx4a65c = some m.cls) (hlocks : meth.locks = false) (hE : Ev z G s) (hR1 : 1 ≤ R.frames) (hR2 : nativeFrameWords "java/lang/System" "arraycopy" 5 + 11 ≤ R.locals) (g1 : o0 < 3) (g2 : w < ν 99 0 0) (hkn : k ≤ n) (hk : okc ν o0 n) (hG : GR ν ν1 o0 n) (hX : Xt ad ad1 ν ν1)
    (h : ∀ (σ1 : SG) (ν2 : NU), σ1 = u3 σ 7 o0 2 (nI (n + 1)) → ν2 = u3 (r3 ν1 8 o0 (va_cpy (ν1 8 o0) (ν1 8 o0) k (k + 1) (n - k))) 8 o0 k (w + 1) → post σ1 ν2) (hW : WP z G ad1 (σ, ν1, ρ, lo) H) (hS : va_S (Az z) s.heap H locs) (hl : lv_has ls 5 [(4, .ref (ad1 8 o0)), (0, .ref (ad1 7 o0)), (1, .int (nI k)), (2, .ref (ad1 3 w)), (3, .int (nI n))]) : W p l e R s m args below meth c H locs kc ks (MQ below (Qva z G (fun u => ∃ (t : SG) (v : NU), u.1 = (t, v, ρ, lo) ∧ Xt ad u.2 ν v ∧ post t v)) args s kc ks (Az z)) (F0 m 38 ls []) := by
  have hc := hG.cap hk
  have e99 : ν1 99 = ν 99 := hG.n (by decide) (by decide)
  have hn : n ≤ 40 := hk.2.2.2.1
  have hcl : ∀ i, i < n → ν1 8 o0 i ≤ ν1 99 0 0 := fun i hi => by rw [e99, hG.2.1 i hi]; exact hk.2.2.2.2 i hi
  have he : ex ν1 8 o0 := (show o0 < 3 ∧ 0 < ν1 7 o0 1 by omega)
  refine lv_aload hx hb dJx4a65c_add_7a177_38 (lv_at hl 0 rfl) ?_
  refine lv_iload_n hx hb dJx4a65c_add_7a177_40 rfl (lv_at hl 2 rfl) ?_
  refine lv_aload hx hb dJx4a65c_add_7a177_41 (lv_at hl 0 rfl) ?_
  refine lv_iload_n hx hb dJx4a65c_add_7a177_43 rfl (lv_at hl 2 rfl) ?_
  refine lv_iconst (v := nI 1) hx hb dJx4a65c_add_7a177_44 (by decide) ?_
  refine lv_iadd hx hb dJx4a65c_add_7a177_45 ?_
  rw [nI_add]
  refine lv_iload_n hx hb dJx4a65c_add_7a177_46 rfl (lv_at hl 4 rfl) ?_
  refine lv_iload_n hx hb dJx4a65c_add_7a177_47 rfl (lv_at hl 2 rfl) ?_
  refine lv_isub hx hb dJx4a65c_add_7a177_48 ?_
  rw [show nI n - nI k = nI (n - k) by rw [← sub9 k (n - k)]; congr 2; omega]
  refine r_copyE hx hb hml hl.1 hts hown hE hW hS o0 he hkn hc.1 hn hcl (List.mem_of_getElem? (i := 5) rfl) (List.mem_of_getElem? (i := 6) rfl) (List.mem_of_getElem? (i := 7) rfl) (List.mem_of_getElem? (i := 8) rfl) hR1 (by show 0 + _ ≤ _; omega) dJx4a65c_add_7a177_49 (fun ν2 e2 H locs hW hS => ?_)
  have e27 : ν2 7 o0 1 = ν1 7 o0 1 := by rw [e2, r3_oth9 (by decide)]
  have e299 : ν2 99 = ν 99 := by rw [e2, r3_oth9 (by decide), e99]
  refine lv_aload hx hb dJx4a65c_add_7a177_52 (lv_at hl 0 rfl) ?_
  refine lv_iload_n hx hb dJx4a65c_add_7a177_54 rfl (lv_at hl 2 rfl) ?_
  refine lv_aload_n hx hb dJx4a65c_add_7a177_55 rfl (lv_at hl 3 rfl) ?_
  refine r_eld hx hb hE hW hS o0 (show o0 < 3 ∧ 0 < ν2 7 o0 1 by omega) w (show w < ν2 99 0 0 by rw [e299]; exact g2) (vp_in_nI (by omega) (by omega)) dJx4a65c_add_7a177_56 (fun ν3 e3 H locs hW hS => ?_)
  rw [nI_clamp (by omega)] at e3
  refine lv_aload_n hx hb dJx4a65c_add_7a177_57 rfl (lv_at hl 1 rfl) ?_
  refine lv_iload_n hx hb dJx4a65c_add_7a177_58 rfl (lv_at hl 4 rfl) ?_
  refine lv_iconst (v := nI 1) hx hb dJx4a65c_add_7a177_59 (by decide) ?_
  refine lv_iadd hx hb dJx4a65c_add_7a177_60 ?_
  rw [nI_add]
  refine r_put7 hx hb hts hown hE hW hS o0 g1 (fun w h => List.mem_cons_of_mem _ (List.mem_append_right _ h)) 2 (by decide) (List.mem_of_getElem? (i := 3) rfl) (Or.inl rfl) rfl rfl (x := nI (n + 1)) rfl dJx4a65c_add_7a177_61 (fun σ1 e1 H locs hW hS => ?_)
  have e399 : ν3 99 = ν1 99 := by rw [e3, u3_ne (by decide), e299, e99]
  exact W.vret hx hb hr (fun t ht _ => ⟨⟨((σ1, ν3, ρ, lo), ad1), rfl, ⟨_, _, rfl, Xt.u8 hX e399, h _ _ e1 (by rw [e3, e2])⟩, WP.at9 ht hW⟩, hS.F ht⟩) hS.2.2 dJx4a65c_add_7a177_64 (hlocks := hlocks)

set_option maxHeartbeats 4000000 in
set_option maxRecDepth 100000 in
theorem mtJx4a65c_add_7a177 (l : Launch) (z : Nat) (G : Gl) (ad : Nat → Nat → Nat) (σ : SG) (ν : NU) (ρ : RH) (lo : Int64) (o0 : Nat) (i : Int32) (w : Nat) (post : SG → NU → Prop) (kc ks : Nat) (hK : σ 7 o0 2 = nI (ν 7 o0 1) → 1 ≤ kc ∧ capn (ν 7 o0 1) ≤ ks) (h : wpJx4a65c_add_7a177 σ ν o0 i w post) : Met l yJx4a65c_add_7a177 wsJx4a65c_add_7a177 ({ frames := 6, cells := kc, slots := ks, locals := 150 } : Room) (Pcs z G ad (σ, ν, ρ, lo) [.ref (ad 7 o0), .int i, .ref (ad 3 w)]) (Qva z G (fun u => ∃ (t : SG) (v : NU), u.1 = (t, v, ρ, lo) ∧ Xt ad u.2 ν v ∧ post t v)) kc ks (Az z) := by
  refine Met.ofW (cc := cJx4a65c_add_7a177) (maxL := 5) (ret := none) (by decide) rfl ?_
  intro p e s m args below meth c s₁ B hml hv
  obtain ⟨rfl, hz, hW, hE⟩ := hv
  have hx := B.exec
  have hb := B.bytes
  have hr := B.returns
  have hts := atoms_spec (ws := wsJx4a65c_add_7a177) B.pre
  have hown : s.vm.findClass RJx4a65c = some m.cls := findClass_of_methodNamed B.named
  have hlocks := B.notSynchronized
  have hS : va_S (Az z) s.heap s.heap [] := va_S.rf
  have hl := lv_entry [.ref (ad 7 o0), .int i, .ref (ad 3 w)] (n := 5) (Nat.le_of_ble_eq_true rfl)
  rw [lg_entry_eq]
  generalize (lg_sl [.ref (ad 7 o0), .int i, .ref (ad 3 w)] ++ List.replicate (5 - (lg_sl [.ref (ad 7 o0), .int i, .ref (ad 3 w)]).length) Slot.unset).toArray = ls at hl ⊢
  have hl : lv_has ls 5 [(0, .ref (ad 7 o0)), (1, .int i), (2, .ref (ad 3 w))] := hl
  obtain ⟨g1, g2, n, k, hs, rfl, hkn, hk, h⟩ := h
  obtain ⟨k1, k2, k3, k4, k5⟩ := id hk
  refine lv_aload_n hx hb dJx4a65c_add_7a177_0 rfl (lv_at hl 0 rfl) ?_
  refine lv_iload_n hx hb dJx4a65c_add_7a177_1 rfl (lv_at hl 1 rfl) ?_
  refine k_Vv (rest := []) (As := [.int (nI k)]) ⟨hx, hb, hml, hown, hts⟩ hE hz hS hW (mtJx4a65c_rangeCheckForAdd_d00df l z G ad σ ν ρ lo o0 n k g1 hs hkn k4) (cwV 1 hts gJx4a65c_add_7a177_Jx4a65c_rangeCheckForAdd_d00df rfl rfl rfl (by decide +kernel) ⟨Nat.le_of_ble_eq_true rfl, Nat.le_of_ble_eq_true rfl⟩) (r_recv hE hW 7 o0 g1 (ci := 2) rfl rfl) rfl hl.1 rfl (Nat.le_of_ble_eq_true rfl) dJx4a65c_add_7a177_2 ⟨Nat.zero_le _, Nat.zero_le _⟩ (fun S1 H locs hp hW hS => ?_)
  subst hp
  refine lv_aload_n hx hb dJx4a65c_add_7a177_5 rfl (lv_at hl 0 rfl) ?_
  refine lv_dup hx hb dJx4a65c_add_7a177_6 rfl ?_
  refine r_get7 hx hb hts hown hE hW o0 g1 (fun w h => List.mem_cons_of_mem _ (List.mem_append_right _ h)) 0 (by decide) (List.mem_of_getElem? (i := 1) rfl) (Or.inr (List.mem_of_getElem? (i := 2) rfl)) (v := .int (σ 7 o0 0)) rfl dJx4a65c_add_7a177_7 ?_
  refine lv_iconst (v := (1 : Int32)) hx hb dJx4a65c_add_7a177_10 (by decide) ?_
  refine lv_iadd hx hb dJx4a65c_add_7a177_11 ?_
  refine r_put7 hx hb hts hown hE hW hS o0 g1 (fun w h => List.mem_cons_of_mem _ (List.mem_append_right _ h)) 0 (by decide) (List.mem_of_getElem? (i := 1) rfl) (Or.inr (List.mem_of_getElem? (i := 2) rfl)) rfl rfl (x := σ 7 o0 0 + 1) rfl dJx4a65c_add_7a177_12 (fun σ1 e1 H locs hW hS => ?_)
  have hs1 : σ1 7 o0 2 = nI n := by rw [e1, ← hs]; simp [u3]
  refine lv_aload_n hx hb dJx4a65c_add_7a177_15 rfl (lv_at hl 0 rfl) ?_
  refine r_get7 hx hb hts hown hE hW o0 g1 (fun w h => List.mem_cons_of_mem _ (List.mem_append_right _ h)) 2 (by decide) (List.mem_of_getElem? (i := 3) rfl) (Or.inl rfl) (v := .int (nI n)) (by simp [fl7, hs1]) dJx4a65c_add_7a177_16 ?_
  refine lv_dup hx hb dJx4a65c_add_7a177_19 rfl ?_
  refine lv_istore_n (lv' := [(3, .int (nI n)), (0, .ref (ad 7 o0)), (1, .int (nI k)), (2, .ref (ad 3 w))]) hx hb dJx4a65c_add_7a177_20 rfl hl (by decide) rfl (fun ls hl => ?_)
  refine lv_aload_n hx hb dJx4a65c_add_7a177_21 rfl (lv_at hl 1 rfl) ?_
  refine r_get7 hx hb hts hown hE hW o0 g1 (fun w h => List.mem_cons_of_mem _ (List.mem_append_right _ h)) 1 (by decide) (List.mem_of_getElem? (i := 4) rfl) (Or.inl rfl) (v := .ref (if ν 7 o0 1 = 0 then G.2.2.1 else ad 8 o0)) rfl dJx4a65c_add_7a177_22 ?_
  refine lv_dup hx hb dJx4a65c_add_7a177_25 rfl ?_
  refine lv_astore (lv' := [(4, .ref (if ν 7 o0 1 = 0 then G.2.2.1 else ad 8 o0)), (3, .int (nI n)), (0, .ref (ad 7 o0)), (1, .int (nI k)), (2, .ref (ad 3 w))]) hx hb dJx4a65c_add_7a177_26 hl (by decide) rfl (fun ls hl => ?_)
  have go : ∀ {H : Heap} {locs : List Loc}, WP z G ad (σ1, ν, ρ, lo) H → va_S (Az z) s.heap H locs → ν 7 o0 1 = n → W p l e (headSpec wsJx4a65c_add_7a177 { frames := 6, cells := kc, slots := ks, locals := 150 }).room s m #[.ref (ad 7 o0), .int (nI k), .ref (ad 3 w)] below meth c H locs 0 0 (MQ below (Qva z G (fun u => ∃ (t : SG) (v : NU), u.1 = (t, v, ρ, lo) ∧ Xt ad u.2 ν v ∧ post t v)) #[.ref (ad 7 o0), .int (nI k), .ref (ad 3 w)] s kc ks (Az z)) (F0 m 32 ls []) := by
    intro H locs hW hS hn9
    obtain ⟨hK1, hK2⟩ := hK (by rw [hs, hn9])
    rw [hn9] at hK2
    refine lv_aload_n hx hb dJx4a65c_add_7a177_32 rfl (lv_at hl 2 rfl) ?_
    refine kG_V (rest := []) (As := []) ⟨hx, hb, hml, hown, hts⟩ hE hz hS hW (mtJx4a65c_grow_d5877 l z G ad σ1 ν ρ lo o0 n g1 hn9 (by omega) k4 k5 hs1) (cwV 0 hts gJx4a65c_add_7a177_Jx4a65c_grow_d5877 rfl rfl rfl (by decide +kernel) ⟨Nat.le_of_ble_eq_true rfl, Nat.le_of_ble_eq_true rfl⟩) (r_recv hE hW 7 o0 g1 (ci := 2) rfl rfl) rfl hl.1 rfl (Nat.le_of_ble_eq_true rfl) dJx4a65c_add_7a177_33 ⟨by show 0 + 1 ≤ kc; omega, by show 0 + capn n ≤ ks; omega⟩ (fun q H locs hW hS => ?_)
    refine lv_astore (lv' := [(4, .ref q), (3, .int (nI n)), (0, .ref (ad 7 o0)), (1, .int (nI k)), (2, .ref (ad 3 w))]) hx hb dJx4a65c_add_7a177_36 hl (by decide) rfl (fun ls hl => ?_)
    have hq : adup ad o0 q 8 o0 = q := if_pos ⟨rfl, rfl⟩
    have hn1 : 0 < capn n := by rcases capn_le k4 with t | t <;> omega
    refine W.widen (k := kc) (n := ks) (by omega) (by omega) ?_
    exact tJx4a65c_add_7a177_38 (ad1 := adup ad o0 q) (ν1 := nug ν o0 (capn n) (fun i => if i < n then ν 8 o0 i else 0)) (σ := σ1) hx hb hml hr hts hown hlocks hE (Nat.le_of_ble_eq_true rfl) (Nat.le_of_ble_eq_true rfl) g1 g2 hkn hk (GR.nug hn9) (Xt.nug g1 hn1) (fun σ2 ν2 q1 q2 => h σ2 _ ν2 (by rw [q1, e1]) (GR.nug hn9) q2) hW hS (by rw [hq]; exact lv_sub hl [0, 2, 3, 4, 1] rfl)
  by_cases h0 : ν 7 o0 1 = 0
  · rw [if_pos h0]
    refine va_tlen (v := 0) hx hb hE.2.2.1 hS rfl dJx4a65c_add_7a177_28 ?_
    refine r_icmp_ne (tgt := 38) hx hb (nI_toInt (by omega)) (show (0 : Int32).toInt = 0 by decide) dJx4a65c_add_7a177_29 (by decide) (fun q => absurd (show ((n : Nat) : Int) = 0 by omega) q) (fun _ => ?_)
    exact go hW hS (by omega)
  · rw [if_neg h0] at hl
    rw [if_neg h0]
    refine r_alen hx hb hE hW 8 o0 (show o0 < 3 ∧ 0 < ν 7 o0 1 by omega) (a := (ν 7 o0 1, .inr (.inr (.inr (.inr (fun i => opn (ad 3) (ν 8 o0 i))))))) rfl 4 rfl (v := nI (ν 7 o0 1)) rfl dJx4a65c_add_7a177_28 ?_
    refine r_icmp_ne (tgt := 38) hx hb (nI_toInt (by omega)) (nI_toInt (by omega)) dJx4a65c_add_7a177_29 (by decide) (fun q => ?_) (fun q => go hW hS (by omega))
    refine W.widen (k := kc) (n := ks) (Nat.zero_le _) (Nat.zero_le _) ?_
    exact tJx4a65c_add_7a177_38 (ad1 := ad) (ν1 := ν) (σ := σ1) hx hb hml hr hts hown hlocks hE (Nat.le_of_ble_eq_true rfl) (Nat.le_of_ble_eq_true rfl) g1 g2 hkn hk (GR.rf (by omega)) Xt.rf (fun σ2 ν2 q1 q2 => h σ2 ν ν2 (by rw [q1, e1]) (GR.rf (by omega)) q2) hW hS (lv_sub hl [0, 2, 3, 4, 1] rfl)

