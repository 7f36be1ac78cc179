/-! cells that are made beside a world; constructors. Written by wip/gen/hand5.py -/
theorem set_app9 {α : Type} {A B : List α} {i : Nat} {x : α} : (A ++ B).set (A.length + i) x = A ++ B.set i x := by
  induction A with
  | nil => simp
  | cons a A ih =>
    have e : (a :: A).length + i = (A.length + i) + 1 := by simp; omega
    rw [e]
    exact congrArg (a :: ·) ih
theorem get_app9 {α : Type} {A B : List α} {i : Nat} : (A ++ B)[A.length + i]? = B[i]? := by
  rw [List.getElem?_append_right (by omega), Nat.add_sub_cancel_left]
/-- cells B that were made beside cells W0 -/
def CW (z : Nat) (G : Gl) (W0 B : va_W) (H : Heap) : Prop := va_P G.1 vwCl (W0 ++ B) H ∧ va_D (Az z) (W0 ++ B)
theorem CW.asc {z : Nat} {G : Gl} {W0 A B : va_W} {H : Heap} (h : CW z G (W0 ++ A) B H) : CW z G W0 (A ++ B) H := by
  unfold CW at *
  rwa [List.append_assoc] at h
theorem CW.csa {z : Nat} {G : Gl} {W0 A B : va_W} {H : Heap} (h : CW z G W0 (A ++ B) H) : CW z G (W0 ++ A) B H := by
  unfold CW at *
  rwa [List.append_assoc]
theorem CW.at9 {z : Nat} {G : Gl} {W0 B : va_W} {H : Heap} {t : State} (ht : t.heap = H) (h : CW z G W0 B H) : CW z G W0 B t.heap := ht ▸ h
def Bci (z : Nat) (G : Gl) (W0 B : va_W) (U : State) : Prop := z ≤ U.heap.size ∧ CW z G W0 B U.heap ∧ Ev z G U
def Pci (z : Nat) (G : Gl) (W0 B : va_W) (av : List Value) : Array Value → State → Prop := va_Pc av (Bci z G W0 B)
theorem Pci.blind {z : Nat} {G : Gl} {W0 B : va_W} {av : List Value} : FrameBlind (Pci z G W0 B av) := by
  intro a U g mk h
  obtain ⟨h1, h2, h3, h4⟩ := h
  exact ⟨h1, h2, h3, Ev.same (u := U) rfl rfl h4⟩
def Qci (z : Nat) (G : Gl) (W0 : va_W) (post : va_W → Prop) : Array Value → State → Outcome → State → Prop := va_Qv (S := va_W) post (fun u t => CW z G W0 u t.heap) (Az z)
section RK
variable {p : Program} {l : Launch} {e : Env} {R : Room} {s : State} {m : MethodId} {args : Array Value} {below : List Frame} {meth : Method} {c : Code} {H : Heap} {locs : List Loc} {cells slots : Nat} {Q : State → Prop}
variable {cc : ByteArray} {pc : Nat} {ls : Array Slot} {rest : List Value} {z : Nat} {G : Gl} {W0 B : va_W} {Ts : List Cond} {own ref C : String} {T : u_T} {N ci index a : Nat}
theorem c_put (hx : p.tables.exec = Jvm.exec) (hb : c.code = cc) (hts : ∀ w ∈ Ts, w.before args s = true) (hown : s.vm.findClass own = some m.cls) (hE : Ev z G s) (hW : CW z G W0 B H) (hS : va_S (Az z) s.heap H locs) (q0 : Nat) {fs : List Value} (he : B[q0]? = some (a, .inr (ci, fs))) (hcl : vwCl[ci]? = some (C, T, N)) (hin : ∀ w ∈ u_ws C T N, w ∈ Ts) {ty0 : Nat → FieldType} (hty : ∀ k, k < N → parseFieldDescriptor (T k).2.2.1 = some (ty0 k)) (hnm : ∀ a, a < N → ∀ b, b < N → a ≠ b → (T a).2.1 ≠ (T b).2.1) (k : Nat) (hk : k < N)
    (hlink : Cond.fieldLink own index ref (T k).2.1 (T k).2.2.1 ∈ Ts) (hsame : (T k).1 = ref) (hfin : (T k).2.2.2 = false) {ty : FieldType} {v : Value} (hd : parseFieldDescriptor (T k).2.2.1 = some ty) (hn : narrow ty v = v) (hfit : fits ty v = true) (hl : k < fs.length) (hdg : decode cc pc = .ok (.putfield index, 3))
    (kk : ∀ (H1 : Heap) (locs1 : List Loc), CW z G W0 (B.set q0 (a, .inr (ci, fs.set k v))) H1 → va_S (Az z) s.heap H1 locs1 → W p l e R s m args below meth c H1 locs1 cells slots Q (F0 m (pc + 3) ls rest)) : W p l e R s m args below meth c H locs cells slots Q (F0 m pc ls (v :: .ref a :: rest)) := by
  obtain ⟨hP, hD⟩ := hW
  subst hsame
  exact va_put hx hb hts hin ty0 hty hnm hown hE.1 hP hD hS (W0.length + q0) (get_app9.trans he) hcl k hk (hts _ hlink) (fun _ h9 => h9) hfin hd hn hfit hl hdg (fun H1 locs1 k1 k2 k3 => kk H1 locs1 ⟨by rw [← set_app9]; exact k1, by rw [← set_app9]; exact k2⟩ k3)
theorem c_putF (hx : p.tables.exec = Jvm.exec) (hb : c.code = cc) (hts : ∀ w ∈ Ts, w.before args s = true) (hown : s.vm.findClass own = some m.cls) (hE : Ev z G s) (hW : CW z G W0 B H) (hS : va_S (Az z) s.heap H locs) (q0 : Nat) {fs : List Value} (he : B[q0]? = some (a, .inr (ci, fs))) (hcl : vwCl[ci]? = some (C, T, N)) (hin : ∀ w ∈ u_ws C T N, w ∈ Ts) {ty0 : Nat → FieldType} (hty : ∀ k, k < N → parseFieldDescriptor (T k).2.2.1 = some (ty0 k)) (hnm : ∀ a, a < N → ∀ b, b < N → a ≠ b → (T a).2.1 ≠ (T b).2.1) (k : Nat) (hk : k < N)
    (hlink : Cond.fieldLink own index ref (T k).2.1 (T k).2.2.1 ∈ Ts) (hsame : (T k).1 = ref) (hfin : (T k).2.2.2 = true) (hin2 : meth.name = "<init>") (hdecl : (T k).1 = own) {ty : FieldType} {v : Value} (hd : parseFieldDescriptor (T k).2.2.1 = some ty) (hn : narrow ty v = v) (hfit : fits ty v = true) (hl : k < fs.length) (hdg : decode cc pc = .ok (.putfield index, 3))
    (kk : ∀ (H1 : Heap) (locs1 : List Loc), CW z G W0 (B.set q0 (a, .inr (ci, fs.set k v))) H1 → va_S (Az z) s.heap H1 locs1 → W p l e R s m args below meth c H1 locs1 cells slots Q (F0 m (pc + 3) ls rest)) : W p l e R s m args below meth c H locs cells slots Q (F0 m pc ls (v :: .ref a :: rest)) := by
  obtain ⟨hP, hD⟩ := hW
  subst hsame
  exact va_putF hx hb hts hin ty0 hty hnm hown hE.1 hP hD hS (W0.length + q0) (get_app9.trans he) hcl k hk (hts _ hlink) (fun _ h9 => h9) hfin hin2 hdecl hd hn hfit hl hdg (fun H1 locs1 k1 k2 k3 => kk H1 locs1 ⟨by rw [← set_app9]; exact k1, by rw [← set_app9]; exact k2⟩ k3)
theorem c_new (hx : p.tables.exec = Jvm.exec) (hb : c.code = cc) (hts : ∀ w ∈ Ts, w.before args s = true) (hown : s.vm.findClass own = some m.cls) (hE : Ev z G s) (hz : z ≤ s.heap.size) (hW : CW z G W0 B H) (hS : va_S (Az z) s.heap H locs) (hin : ∀ w ∈ u_ws C T N, w ∈ Ts) {ty : Nat → FieldType} (hty : ∀ k, k < N → parseFieldDescriptor (T k).2.2.1 = some (ty k)) (hlink : Cond.classLink own index C ∈ Ts) (hinst : Cond.instantiable C N ∈ Ts) (hini : Cond.initialized C ∈ Ts) (hcl : vwCl[ci]? = some (C, T, N)) {fs : List Value} (hfs : ∀ j, j < N → defaultValue (ty j) = vp_V fs j) (hcells : cells + 1 ≤ R.cells) (hslots : slots + N ≤ R.slots) (hdg : decode cc pc = .ok (.new index, 3))
    (kk : ∀ (q : Nat) (H1 : Heap), CW z G W0 (B ++ [(q, .inr (ci, fs))]) H1 → va_S (Az z) s.heap H1 locs → W p l e R s m args below meth c H1 locs (cells + 1) (slots + N) Q (F0 m (pc + 3) ls (.ref q :: rest))) : W p l e R s m args below meth c H locs cells slots Q (F0 m pc ls rest) := by
  obtain ⟨hP, hD⟩ := hW
  refine va_new (ci := ci) (fs := fs) (C := C) (T := T) (N := N) hx hb hts hin ty hty hown (hts _ hlink) (hts _ hinst) (hts _ hini) hE.1 hP hD hS (fun q h => Nat.le_trans hz h) hcl hfs hcells hslots hdg (fun q H1 k1 k2 k3 => kk q H1 ⟨?_, ?_⟩ k3)
  · rwa [List.append_assoc] at k1
  · rwa [List.append_assoc] at k2
theorem c_newa (hx : p.tables.exec = Jvm.exec) (hb : c.code = cc) (hE : Ev z G s) (hz : z ≤ s.heap.size) (hW : CW z G W0 B H) (hS : va_S (Az z) s.heap H locs) {atype : ArrayType} (harr : (Cond.arrayClass (newarray.typeOf atype)).before args s = true) (t0 : Nat) {ty : FieldType} (hty : newarray.typeOf atype = ty) {cB : ClassId} (ht : (TY G)[t0]? = some (cB, ty)) (huni : ∀ cA : ClassId, va_RA s cA ty → va_RA s cB ty → cA = cB) {n : Int32} {N' : Nat} {a0 : vp_A} (ha : ∀ cA : ClassId, vp_cell cA a0 = arrV cA N' (fun _ => defaultValue ty)) (hn : ¬ n < 0) (hN : n.toNatClampNeg = N') (hbytes : N' * componentBytes ty ≤ 536870912) (hcells : cells + 1 ≤ R.cells) (hslots : slots + N' ≤ R.slots) (hdg : decode cc pc = .ok (.newarray atype, 2))
    (kk : ∀ (q : Nat) (H1 : Heap), CW z G W0 (B ++ [(q, .inl (cB, a0))]) H1 → va_S (Az z) s.heap H1 locs → W p l e R s m args below meth c H1 locs (cells + 1) (slots + N') Q (F0 m (pc + 2) ls (.ref q :: rest))) : W p l e R s m args below meth c H locs cells slots Q (F0 m pc ls (.int n :: rest)) := by
  obtain ⟨hP, hD⟩ := hW
  refine va_newa hx hb harr hty hE.1 hP hD hS (fun q h => Nat.le_trans hz h) ha hn hN hbytes hcells hslots hdg (fun q cA H1 kK k1 k2 k3 => ?_)
  have e : cA = cB := huni cA (kK.2 6 (cA, ty) rfl).2 (hE.1.2 t0 (cB, ty) ht).2
  subst e
  exact kk q H1 ⟨by rwa [List.append_assoc] at k1, by rwa [List.append_assoc] at k2⟩ k3
theorem uni_int {cA cB : ClassId} (h1 : va_RA s cA .int) (h2 : va_RA s cB .int) : cA = cB := Option.some.inj (Eq.trans (Eq.symm (show s.vm.findClass _ = some cA from h1)) (show s.vm.findClass _ = some cB from h2))
theorem uni_boolean {cA cB : ClassId} (h1 : va_RA s cA .boolean) (h2 : va_RA s cB .boolean) : cA = cB := Option.some.inj (Eq.trans (Eq.symm (show s.vm.findClass _ = some cA from h1)) (show s.vm.findClass _ = some cB from h2))
theorem Bci.of {U : State} (hE : Ev z G s) (hz : z ≤ s.heap.size) (hW : CW z G W0 B H) (hS : va_S (Az z) s.heap H locs) (hU : U.heap = H) (hw : s.WarmedH U.vm) : Bci z G W0 B U := by
  refine ⟨?_, ?_, hE.warm hS hU hw⟩
  · rw [hU]; exact Nat.le_trans hz hS.1
  · rw [hU]; exact hW
theorem k_I {y : MethodName} {bytes : ByteArray} {maxL nL mc ms n : Nat} {ws : List Cond} {rm : Room} {b : Nat} {As st0 : List Value} {post : va_W → Prop} (SS : CallFix p m c cc nL s args Ts own) (hE : Ev z G s) (hz : z ≤ s.heap.size) (hS : va_S (Az z) s.heap H locs) (hW : CW z G W0 B H) (hM : Met l y ws rm (Pci z G W0 B (.ref b :: As)) (Qci z G W0 post) mc ms (Az z)) (cw : CallB R s args own index y bytes maxL none ws rm mc ms n ∧ y.name = "<init>" ∧ (Cond.instanceMethod y).before args s = true) (hn : As.length = n) (hsz : ls.size = nL) (hst : st0 = As.reverse ++ .ref b :: rest) (hrm : (rest.map fun v => v.category).sum ≤ 8) (hdg : decode cc pc = .ok (.invokespecial index, 3)) (hf : cells + mc ≤ R.cells ∧ slots + ms ≤ R.slots)
    (kk : ∀ (u : va_W) (H1 : Heap) (locs1 : List Loc), post u → CW z G W0 u H1 → va_S (Az z) s.heap H1 locs1 → W p l e R s m args below meth c H1 locs1 (cells + mc) (slots + ms) Q (F0 m (pc + 3) ls rest)) : W p l e R s m args below meth c H locs cells slots Q (F0 m pc ls st0) := by
  subst hst
  exact va_callv (va_runI (As := As) (rest := rest) SS hM cw ⟨Pci.blind, fun U hU hw => ⟨rfl, Bci.of hE hz hW hS hU hw⟩⟩ rfl hn hsz rfl (lv_room hrm) hdg hf) hS (fun _ _ h => h) (fun _ h => h) (fun u t H1 locs1 ht _ hp hB _ _ hS1 => kk u H1 locs1 hp (by rw [← ht]; exact hB) hS1)
theorem k_IN {y : MethodName} {host : String} {bytes : ByteArray} {maxL nL mc ms n : Nat} {ws : List Cond} {rm : Room} {b : Nat} {As st0 : List Value} {post : va_W → Prop} (SS : CallFix p m c cc nL s args Ts own) (hE : Ev z G s) (hz : z ≤ s.heap.size) (hS : va_S (Az z) s.heap H locs) (hW : CW z G W0 B H) (hM : Met l y ws rm (Pci z G W0 B (.ref b :: As)) (Qci z G W0 post) mc ms (Az z)) (cw : va_CN R s args own index y host bytes maxL none ws rm mc ms n ∧ y.name = "<init>" ∧ (Cond.instanceMethod y).before args s = true) (hn : As.length = n) (hsz : ls.size = nL) (hst : st0 = As.reverse ++ .ref b :: rest) (hrm : (rest.map fun v => v.category).sum ≤ 8) (hdg : decode cc pc = .ok (.invokespecial index, 3)) (hf : cells + mc ≤ R.cells ∧ slots + ms ≤ R.slots)
    (kk : ∀ (u : va_W) (H1 : Heap) (locs1 : List Loc), post u → CW z G W0 u H1 → va_S (Az z) s.heap H1 locs1 → W p l e R s m args below meth c H1 locs1 (cells + mc) (slots + ms) Q (F0 m (pc + 3) ls rest)) : W p l e R s m args below meth c H locs cells slots Q (F0 m pc ls st0) := by
  subst hst
  exact va_callv (va_runIN (As := As) (rest := rest) SS hM cw ⟨Pci.blind, fun U hU hw => ⟨rfl, Bci.of hE hz hW hS hU hw⟩⟩ rfl hn hsz rfl (lv_room hrm) hdg hf) hS (fun _ _ h => h) (fun _ h => h) (fun u t H1 locs1 ht _ hp hB _ _ hS1 => kk u H1 locs1 hp (by rw [← ht]; exact hB) hS1)
end RK
set_option maxHeartbeats 600000 in
set_option maxRecDepth 100000 in
theorem miX1 (l : Launch) (z : Nat) (G : Gl) (W0 : va_W) (a : Nat)  : Met l yX1_init wsX1_init ({ frames := 1, cells := 0, slots := 0, locals := 12 } : Room) (Pci z G W0 [(a, .inr (4, [.int 0, .int 0, .int 0]))] [.ref a]) (Qci z G W0 (fun u => u = [(a, .inr (4, [.int (-1 : Int32), .int (-1 : Int32), .int (-1 : Int32)]))])) 0 0 (Az z) := by
  refine Met.ofW (cc := cX1_init) (maxL := 1) (ret := none) (by decide) rfl ?_
  intro p e s m args below meth c s₁ B hml hv
  obtain ⟨rfl, hz, hW, hE⟩ := hv
  have hx := B.exec
  have hb := B.bytes
  have hr := B.returns
  have hts := atoms_spec (ws := wsX1_init) B.pre
  have hown : s.vm.findClass RX1 = some m.cls := findClass_of_methodNamed B.named
  have hlocks := B.notSynchronized
  have hin : meth.name = "<init>" := (name_of_methodNamed B.named B.method).1
  have hS : va_S (Az z) s.heap s.heap [] := va_S.rf
  have hl := lv_entry [.ref a] (n := 1) (Nat.le_of_ble_eq_true rfl)
  rw [lg_entry_eq]
  generalize (lg_sl [.ref a] ++ List.replicate (1 - (lg_sl [.ref a]).length) Slot.unset).toArray = ls at hl ⊢
  have hl : lv_has ls 1 [(0, .ref a)] := hl
  refine lv_aload_n hx hb dX1_init_0 rfl (lv_at hl 0 rfl) ?_
  refine W.objInit hx hb hown (hts _ (List.mem_of_getElem? (i := 1) rfl)) (hts _ (List.mem_of_getElem? (i := 2) rfl)) (hts _ (List.mem_of_getElem? (i := 3) rfl)) rfl (by rw [hml]; exact hl.1) rfl dX1_init_1 (Nat.le_of_ble_eq_true rfl) (Nat.le_of_ble_eq_true rfl) ?_
  refine W.eq (g2 := F0 m 4 ls []) rfl ?_
  refine lv_aload_n hx hb dX1_init_4 rfl (lv_at hl 0 rfl) ?_
  refine lv_iconst (v := (-1 : Int32)) hx hb dX1_init_5 (by decide) ?_
  refine c_put (C := RX1) (T := TX1) (N := 3) (v := .int (-1 : Int32)) (ty := .int) hx hb hts hown hE hW hS 0 rfl rfl (fun w h => List.mem_cons_of_mem _ (List.mem_append_right _ h)) tyX1_ok nmX1 0 (by decide) (List.mem_of_getElem? (i := 4) rfl) rfl rfl (by decide +kernel) rfl rfl (Nat.le_of_ble_eq_true rfl) dX1_init_6 (fun H locs hW hS => ?_)
  have hW : CW z G W0 [(a, .inr (4, [.int (-1 : Int32), .int 0, .int 0]))] H := hW
  refine lv_aload_n hx hb dX1_init_9 rfl (lv_at hl 0 rfl) ?_
  refine lv_iconst (v := (-1 : Int32)) hx hb dX1_init_10 (by decide) ?_
  refine c_put (C := RX1) (T := TX1) (N := 3) (v := .int (-1 : Int32)) (ty := .int) hx hb hts hown hE hW hS 0 rfl rfl (fun w h => List.mem_cons_of_mem _ (List.mem_append_right _ h)) tyX1_ok nmX1 1 (by decide) (List.mem_of_getElem? (i := 5) rfl) rfl rfl (by decide +kernel) rfl rfl (Nat.le_of_ble_eq_true rfl) dX1_init_11 (fun H locs hW hS => ?_)
  have hW : CW z G W0 [(a, .inr (4, [.int (-1 : Int32), .int (-1 : Int32), .int 0]))] H := hW
  refine lv_aload_n hx hb dX1_init_14 rfl (lv_at hl 0 rfl) ?_
  refine lv_iconst (v := (-1 : Int32)) hx hb dX1_init_15 (by decide) ?_
  refine c_put (C := RX1) (T := TX1) (N := 3) (v := .int (-1 : Int32)) (ty := .int) hx hb hts hown hE hW hS 0 rfl rfl (fun w h => List.mem_cons_of_mem _ (List.mem_append_right _ h)) tyX1_ok nmX1 2 (by decide) (List.mem_of_getElem? (i := 6) rfl) rfl rfl (by decide +kernel) rfl rfl (Nat.le_of_ble_eq_true rfl) dX1_init_16 (fun H locs hW hS => ?_)
  have hW : CW z G W0 [(a, .inr (4, [.int (-1 : Int32), .int (-1 : Int32), .int (-1 : Int32)]))] H := hW
  exact W.vret hx hb hr (fun t ht _ => ⟨⟨_, rfl, rfl, CW.at9 ht hW⟩, hS.F ht⟩) hS.2.2 dX1_init_19 (hlocks := hlocks)

set_option maxHeartbeats 600000 in
set_option maxRecDepth 100000 in
theorem miX2 (l : Launch) (z : Nat) (G : Gl) (W0 : va_W) (a : Nat)  : Met l yX2_init wsX2_init ({ frames := 1, cells := 1, slots := 4, locals := 12 } : Room) (Pci z G W0 [(a, .inr (5, [.null, .int 0]))] [.ref a]) (Qci z G W0 (fun u => ∃ q1 : Nat, u = [(a, .inr (5, [.ref q1, .int (0 : Int32)])), (q1, .inl (G.2.1 0, 4, .inl (fun _ => 0)))])) 1 4 (Az z) := by
  refine Met.ofW (cc := cX2_init) (maxL := 1) (ret := none) (by decide) rfl ?_
  intro p e s m args below meth c s₁ B hml hv
  obtain ⟨rfl, hz, hW, hE⟩ := hv
  have hx := B.exec
  have hb := B.bytes
  have hr := B.returns
  have hts := atoms_spec (ws := wsX2_init) B.pre
  have hown : s.vm.findClass RX2 = some m.cls := findClass_of_methodNamed B.named
  have hlocks := B.notSynchronized
  have hin : meth.name = "<init>" := (name_of_methodNamed B.named B.method).1
  have hS : va_S (Az z) s.heap s.heap [] := va_S.rf
  have hl := lv_entry [.ref a] (n := 1) (Nat.le_of_ble_eq_true rfl)
  rw [lg_entry_eq]
  generalize (lg_sl [.ref a] ++ List.replicate (1 - (lg_sl [.ref a]).length) Slot.unset).toArray = ls at hl ⊢
  have hl : lv_has ls 1 [(0, .ref a)] := hl
  refine lv_aload_n hx hb dX2_init_0 rfl (lv_at hl 0 rfl) ?_
  refine W.objInit hx hb hown (hts _ (List.mem_of_getElem? (i := 1) rfl)) (hts _ (List.mem_of_getElem? (i := 2) rfl)) (hts _ (List.mem_of_getElem? (i := 3) rfl)) rfl (by rw [hml]; exact hl.1) rfl dX2_init_1 (Nat.le_of_ble_eq_true rfl) (Nat.le_of_ble_eq_true rfl) ?_
  refine W.eq (g2 := F0 m 4 ls []) rfl ?_
  refine lv_aload_n hx hb dX2_init_4 rfl (lv_at hl 0 rfl) ?_
  refine lv_iconst (v := (4 : Int32)) hx hb dX2_init_5 (by decide) ?_
  refine c_newa (atype := .int) (ty := .int) (cB := G.2.1 0) hx hb hE hz hW hS (hts (.arrayClass .int) (List.mem_of_getElem? (i := 4) rfl)) 0 rfl rfl (fun _ => uni_int) (N' := 4) (a0 := (4, .inl (fun _ => 0))) (fun _ => rfl) (by decide) (by decide) (by decide) (Nat.le_of_ble_eq_true rfl) (Nat.le_of_ble_eq_true rfl) dX2_init_6 (fun q1 H hW hS => ?_)
  have hW : CW z G W0 [(a, .inr (5, [.null, .int 0])), (q1, .inl (G.2.1 0, 4, .inl (fun _ => 0)))] H := hW
  refine c_putF (C := RX2) (T := TX2) (N := 2) (v := .ref q1) (ty := .array (.int)) hx hb hts hown hE hW hS 0 rfl rfl (fun w h => List.mem_cons_of_mem _ (List.mem_append_right _ h)) tyX2_ok nmX2 0 (by decide) (List.mem_of_getElem? (i := 5) rfl) rfl rfl hin rfl (by decide +kernel) rfl rfl (Nat.le_of_ble_eq_true rfl) dX2_init_8 (fun H locs hW hS => ?_)
  have hW : CW z G W0 [(a, .inr (5, [.ref q1, .int 0])), (q1, .inl (G.2.1 0, 4, .inl (fun _ => 0)))] H := hW
  refine lv_aload_n hx hb dX2_init_11 rfl (lv_at hl 0 rfl) ?_
  refine lv_iconst (v := (0 : Int32)) hx hb dX2_init_12 (by decide) ?_
  refine c_put (C := RX2) (T := TX2) (N := 2) (v := .int (0 : Int32)) (ty := .int) hx hb hts hown hE hW hS 0 rfl rfl (fun w h => List.mem_cons_of_mem _ (List.mem_append_right _ h)) tyX2_ok nmX2 1 (by decide) (List.mem_of_getElem? (i := 6) rfl) rfl rfl (by decide +kernel) rfl rfl (Nat.le_of_ble_eq_true rfl) dX2_init_13 (fun H locs hW hS => ?_)
  have hW : CW z G W0 [(a, .inr (5, [.ref q1, .int (0 : Int32)])), (q1, .inl (G.2.1 0, 4, .inl (fun _ => 0)))] H := hW
  exact W.vret hx hb hr (fun t ht _ => ⟨⟨_, rfl, ⟨q1, rfl⟩, CW.at9 ht hW⟩, hS.F ht⟩) hS.2.2 dX2_init_16 (hlocks := hlocks)

set_option maxHeartbeats 600000 in
set_option maxRecDepth 100000 in
theorem miX3 (l : Launch) (z : Nat) (G : Gl) (W0 : va_W) (a : Nat) (w1 w2 w3 w4 : Int32) : Met l yX3_init wsX3_init ({ frames := 1, cells := 0, slots := 0, locals := 12 } : Room) (Pci z G W0 [(a, .inr (6, [.int 0, .int 0, .int 0, .int 0]))] [.ref a, .int w1, .int w2, .int w3, .int w4]) (Qci z G W0 (fun u => u = [(a, .inr (6, [.int w1, .int w2, .int w3, .int w4]))])) 0 0 (Az z) := by
  refine Met.ofW (cc := cX3_init) (maxL := 5) (ret := none) (by decide) rfl ?_
  intro p e s m args below meth c s₁ B hml hv
  obtain ⟨rfl, hz, hW, hE⟩ := hv
  have hx := B.exec
  have hb := B.bytes
  have hr := B.returns
  have hts := atoms_spec (ws := wsX3_init) B.pre
  have hown : s.vm.findClass RX3 = some m.cls := findClass_of_methodNamed B.named
  have hlocks := B.notSynchronized
  have hin : meth.name = "<init>" := (name_of_methodNamed B.named B.method).1
  have hS : va_S (Az z) s.heap s.heap [] := va_S.rf
  have hl := lv_entry [.ref a, .int w1, .int w2, .int w3, .int w4] (n := 5) (Nat.le_of_ble_eq_true rfl)
  rw [lg_entry_eq]
  generalize (lg_sl [.ref a, .int w1, .int w2, .int w3, .int w4] ++ List.replicate (5 - (lg_sl [.ref a, .int w1, .int w2, .int w3, .int w4]).length) Slot.unset).toArray = ls at hl ⊢
  have hl : lv_has ls 5 [(0, .ref a), (1, .int w1), (2, .int w2), (3, .int w3), (4, .int w4)] := hl
  refine lv_aload_n hx hb dX3_init_0 rfl (lv_at hl 0 rfl) ?_
  refine W.objInit hx hb hown (hts _ (List.mem_of_getElem? (i := 1) rfl)) (hts _ (List.mem_of_getElem? (i := 2) rfl)) (hts _ (List.mem_of_getElem? (i := 3) rfl)) rfl (by rw [hml]; exact hl.1) rfl dX3_init_1 (Nat.le_of_ble_eq_true rfl) (Nat.le_of_ble_eq_true rfl) ?_
  refine W.eq (g2 := F0 m 4 ls []) rfl ?_
  refine lv_aload_n hx hb dX3_init_4 rfl (lv_at hl 0 rfl) ?_
  refine lv_iload_n hx hb dX3_init_5 rfl (lv_at hl 1 rfl) ?_
  refine c_putF (C := RX3) (T := TX3) (N := 4) (v := .int w1) (ty := .int) hx hb hts hown hE hW hS 0 rfl rfl (fun w h => List.mem_cons_of_mem _ (List.mem_append_right _ h)) tyX3_ok nmX3 0 (by decide) (List.mem_of_getElem? (i := 4) rfl) rfl rfl hin rfl (by decide +kernel) rfl rfl (Nat.le_of_ble_eq_true rfl) dX3_init_6 (fun H locs hW hS => ?_)
  have hW : CW z G W0 [(a, .inr (6, [.int w1, .int 0, .int 0, .int 0]))] H := hW
  refine lv_aload_n hx hb dX3_init_9 rfl (lv_at hl 0 rfl) ?_
  refine lv_iload_n hx hb dX3_init_10 rfl (lv_at hl 2 rfl) ?_
  refine c_putF (C := RX3) (T := TX3) (N := 4) (v := .int w2) (ty := .int) hx hb hts hown hE hW hS 0 rfl rfl (fun w h => List.mem_cons_of_mem _ (List.mem_append_right _ h)) tyX3_ok nmX3 1 (by decide) (List.mem_of_getElem? (i := 5) rfl) rfl rfl hin rfl (by decide +kernel) rfl rfl (Nat.le_of_ble_eq_true rfl) dX3_init_11 (fun H locs hW hS => ?_)
  have hW : CW z G W0 [(a, .inr (6, [.int w1, .int w2, .int 0, .int 0]))] H := hW
  refine lv_aload_n hx hb dX3_init_14 rfl (lv_at hl 0 rfl) ?_
  refine lv_iload_n hx hb dX3_init_15 rfl (lv_at hl 3 rfl) ?_
  refine c_putF (C := RX3) (T := TX3) (N := 4) (v := .int w3) (ty := .int) hx hb hts hown hE hW hS 0 rfl rfl (fun w h => List.mem_cons_of_mem _ (List.mem_append_right _ h)) tyX3_ok nmX3 2 (by decide) (List.mem_of_getElem? (i := 6) rfl) rfl rfl hin rfl (by decide +kernel) rfl rfl (Nat.le_of_ble_eq_true rfl) dX3_init_16 (fun H locs hW hS => ?_)
  have hW : CW z G W0 [(a, .inr (6, [.int w1, .int w2, .int w3, .int 0]))] H := hW
  refine lv_aload_n hx hb dX3_init_19 rfl (lv_at hl 0 rfl) ?_
  refine lv_iload hx hb dX3_init_20 (lv_at hl 4 rfl) ?_
  refine c_putF (C := RX3) (T := TX3) (N := 4) (v := .int w4) (ty := .int) hx hb hts hown hE hW hS 0 rfl rfl (fun w h => List.mem_cons_of_mem _ (List.mem_append_right _ h)) tyX3_ok nmX3 3 (by decide) (List.mem_of_getElem? (i := 7) rfl) rfl rfl hin rfl (by decide +kernel) rfl rfl (Nat.le_of_ble_eq_true rfl) dX3_init_22 (fun H locs hW hS => ?_)
  have hW : CW z G W0 [(a, .inr (6, [.int w1, .int w2, .int w3, .int w4]))] H := hW
  exact W.vret hx hb hr (fun t ht _ => ⟨⟨_, rfl, rfl, CW.at9 ht hW⟩, hS.F ht⟩) hS.2.2 dX3_init_25 (hlocks := hlocks)

set_option maxHeartbeats 600000 in
set_option maxRecDepth 100000 in
theorem miX4 (l : Launch) (z : Nat) (G : Gl) (W0 : va_W) (a : Nat)  : Met l yX4_init wsX4_init ({ frames := 1, cells := 2, slots := 24, locals := 12 } : Room) (Pci z G W0 [(a, .inr (7, [.null, .null, .int 0]))] [.ref a]) (Qci z G W0 (fun u => ∃ q1 q2 : Nat, u = [(a, .inr (7, [.ref q1, .ref q2, .int (0 : Int32)])), (q1, .inl (G.2.1 0, 12, .inl (fun _ => 0))), (q2, .inl (G.2.1 0, 12, .inl (fun _ => 0)))])) 2 24 (Az z) := by
  refine Met.ofW (cc := cX4_init) (maxL := 1) (ret := none) (by decide) rfl ?_
  intro p e s m args below meth c s₁ B hml hv
  obtain ⟨rfl, hz, hW, hE⟩ := hv
  have hx := B.exec
  have hb := B.bytes
  have hr := B.returns
  have hts := atoms_spec (ws := wsX4_init) B.pre
  have hown : s.vm.findClass RX4 = some m.cls := findClass_of_methodNamed B.named
  have hlocks := B.notSynchronized
  have hin : meth.name = "<init>" := (name_of_methodNamed B.named B.method).1
  have hS : va_S (Az z) s.heap s.heap [] := va_S.rf
  have hl := lv_entry [.ref a] (n := 1) (Nat.le_of_ble_eq_true rfl)
  rw [lg_entry_eq]
  generalize (lg_sl [.ref a] ++ List.replicate (1 - (lg_sl [.ref a]).length) Slot.unset).toArray = ls at hl ⊢
  have hl : lv_has ls 1 [(0, .ref a)] := hl
  refine lv_aload_n hx hb dX4_init_0 rfl (lv_at hl 0 rfl) ?_
  refine W.objInit hx hb hown (hts _ (List.mem_of_getElem? (i := 1) rfl)) (hts _ (List.mem_of_getElem? (i := 2) rfl)) (hts _ (List.mem_of_getElem? (i := 3) rfl)) rfl (by rw [hml]; exact hl.1) rfl dX4_init_1 (Nat.le_of_ble_eq_true rfl) (Nat.le_of_ble_eq_true rfl) ?_
  refine W.eq (g2 := F0 m 4 ls []) rfl ?_
  refine lv_aload_n hx hb dX4_init_4 rfl (lv_at hl 0 rfl) ?_
  refine lv_bipush (v := (12 : Int32)) hx hb dX4_init_5 (by decide) ?_
  refine c_newa (atype := .int) (ty := .int) (cB := G.2.1 0) hx hb hE hz hW hS (hts (.arrayClass .int) (List.mem_of_getElem? (i := 4) rfl)) 0 rfl rfl (fun _ => uni_int) (N' := 12) (a0 := (12, .inl (fun _ => 0))) (fun _ => rfl) (by decide) (by decide) (by decide) (Nat.le_of_ble_eq_true rfl) (Nat.le_of_ble_eq_true rfl) dX4_init_7 (fun q1 H hW hS => ?_)
  have hW : CW z G W0 [(a, .inr (7, [.null, .null, .int 0])), (q1, .inl (G.2.1 0, 12, .inl (fun _ => 0)))] H := hW
  refine c_putF (C := RX4) (T := TX4) (N := 3) (v := .ref q1) (ty := .array (.int)) hx hb hts hown hE hW hS 0 rfl rfl (fun w h => List.mem_cons_of_mem _ (List.mem_append_right _ h)) tyX4_ok nmX4 0 (by decide) (List.mem_of_getElem? (i := 5) rfl) rfl rfl hin rfl (by decide +kernel) rfl rfl (Nat.le_of_ble_eq_true rfl) dX4_init_9 (fun H locs hW hS => ?_)
  have hW : CW z G W0 [(a, .inr (7, [.ref q1, .null, .int 0])), (q1, .inl (G.2.1 0, 12, .inl (fun _ => 0)))] H := hW
  refine lv_aload_n hx hb dX4_init_12 rfl (lv_at hl 0 rfl) ?_
  refine lv_bipush (v := (12 : Int32)) hx hb dX4_init_13 (by decide) ?_
  refine c_newa (atype := .int) (ty := .int) (cB := G.2.1 0) hx hb hE hz hW hS (hts (.arrayClass .int) (List.mem_of_getElem? (i := 4) rfl)) 0 rfl rfl (fun _ => uni_int) (N' := 12) (a0 := (12, .inl (fun _ => 0))) (fun _ => rfl) (by decide) (by decide) (by decide) (Nat.le_of_ble_eq_true rfl) (Nat.le_of_ble_eq_true rfl) dX4_init_15 (fun q2 H hW hS => ?_)
  have hW : CW z G W0 [(a, .inr (7, [.ref q1, .null, .int 0])), (q1, .inl (G.2.1 0, 12, .inl (fun _ => 0))), (q2, .inl (G.2.1 0, 12, .inl (fun _ => 0)))] H := hW
  refine c_putF (C := RX4) (T := TX4) (N := 3) (v := .ref q2) (ty := .array (.int)) hx hb hts hown hE hW hS 0 rfl rfl (fun w h => List.mem_cons_of_mem _ (List.mem_append_right _ h)) tyX4_ok nmX4 1 (by decide) (List.mem_of_getElem? (i := 6) rfl) rfl rfl hin rfl (by decide +kernel) rfl rfl (Nat.le_of_ble_eq_true rfl) dX4_init_17 (fun H locs hW hS => ?_)
  have hW : CW z G W0 [(a, .inr (7, [.ref q1, .ref q2, .int 0])), (q1, .inl (G.2.1 0, 12, .inl (fun _ => 0))), (q2, .inl (G.2.1 0, 12, .inl (fun _ => 0)))] H := hW
  refine lv_aload_n hx hb dX4_init_20 rfl (lv_at hl 0 rfl) ?_
  refine lv_iconst (v := (0 : Int32)) hx hb dX4_init_21 (by decide) ?_
  refine c_put (C := RX4) (T := TX4) (N := 3) (v := .int (0 : Int32)) (ty := .int) hx hb hts hown hE hW hS 0 rfl rfl (fun w h => List.mem_cons_of_mem _ (List.mem_append_right _ h)) tyX4_ok nmX4 2 (by decide) (List.mem_of_getElem? (i := 7) rfl) rfl rfl (by decide +kernel) rfl rfl (Nat.le_of_ble_eq_true rfl) dX4_init_22 (fun H locs hW hS => ?_)
  have hW : CW z G W0 [(a, .inr (7, [.ref q1, .ref q2, .int (0 : Int32)])), (q1, .inl (G.2.1 0, 12, .inl (fun _ => 0))), (q2, .inl (G.2.1 0, 12, .inl (fun _ => 0)))] H := hW
  exact W.vret hx hb hr (fun t ht _ => ⟨⟨_, rfl, ⟨q1, q2, rfl⟩, CW.at9 ht hW⟩, hS.F ht⟩) hS.2.2 dX4_init_25 (hlocks := hlocks)

set_option maxHeartbeats 600000 in
set_option maxRecDepth 100000 in
theorem miX0 (l : Launch) (z : Nat) (G : Gl) (W0 : va_W) (a : Nat) (t0 : Nat) : Met l yX0_init wsX0_init ({ frames := 2, cells := 7, slots := 21, locals := 32 } : Room) (Pci z G W0 [(a, .inr (3, [.int 0, .int 0, .int 0, .int 0, .int 0, .int 0, .int 0, .null, .null, .null, .null, .null, .null]))] [.ref a, .ref t0]) (Qci z G W0 (fun u => ∃ q1 q2 q3 q4 q5 q6 q7 : Nat, u = [(a, .inr (3, [.int (-1 : Int32), .int (-1 : Int32), .int (-1 : Int32), .int (-1 : Int32), .int (-1 : Int32), .int (-1 : Int32), .int (-1 : Int32), .ref t0, .ref q1, .ref q3, .ref q5, .ref q6, .ref q7])), (q1, .inr (5, [.ref q2, .int (0 : Int32)])), (q2, .inl (G.2.1 0, 4, .inl (fun _ => 0))), (q3, .inr (5, [.ref q4, .int (0 : Int32)])), (q4, .inl (G.2.1 0, 4, .inl (fun _ => 0))), (q5, .inr (4, [.int (-1 : Int32), .int (-1 : Int32), .int (-1 : Int32)])), (q6, .inr (4, [.int (-1 : Int32), .int (-1 : Int32), .int (-1 : Int32)])), (q7, .inr (4, [.int (-1 : Int32), .int (-1 : Int32), .int (-1 : Int32)]))])) 7 21 (Az z) := by
  refine Met.ofW (cc := cX0_init) (maxL := 2) (ret := none) (by decide) rfl ?_
  intro p e s m args below meth c s₁ B hml hv
  obtain ⟨rfl, hz, hW, hE⟩ := hv
  have hx := B.exec
  have hb := B.bytes
  have hr := B.returns
  have hts := atoms_spec (ws := wsX0_init) B.pre
  have hown : s.vm.findClass RX0 = some m.cls := findClass_of_methodNamed B.named
  have hlocks := B.notSynchronized
  have hin : meth.name = "<init>" := (name_of_methodNamed B.named B.method).1
  have hS : va_S (Az z) s.heap s.heap [] := va_S.rf
  have hl := lv_entry [.ref a, .ref t0] (n := 2) (Nat.le_of_ble_eq_true rfl)
  rw [lg_entry_eq]
  generalize (lg_sl [.ref a, .ref t0] ++ List.replicate (2 - (lg_sl [.ref a, .ref t0]).length) Slot.unset).toArray = ls at hl ⊢
  have hl : lv_has ls 2 [(0, .ref a), (1, .ref t0)] := hl
  refine lv_aload_n hx hb dX0_init_0 rfl (lv_at hl 0 rfl) ?_
  refine W.objInit hx hb hown (hts _ (List.mem_of_getElem? (i := 1) rfl)) (hts _ (List.mem_of_getElem? (i := 2) rfl)) (hts _ (List.mem_of_getElem? (i := 3) rfl)) rfl (by rw [hml]; exact hl.1) rfl dX0_init_1 (Nat.le_of_ble_eq_true rfl) (Nat.le_of_ble_eq_true rfl) ?_
  refine W.eq (g2 := F0 m 4 ls []) rfl ?_
  refine lv_aload_n hx hb dX0_init_4 rfl (lv_at hl 0 rfl) ?_
  refine lv_iconst (v := (-1 : Int32)) hx hb dX0_init_5 (by decide) ?_
  refine c_put (C := RX0) (T := TX0) (N := 13) (v := .int (-1 : Int32)) (ty := .int) hx hb hts hown hE hW hS 0 rfl rfl (fun w h => List.mem_cons_of_mem _ (List.mem_append_left _ (List.mem_append_left _ (List.mem_append_right _ h)))) tyX0_ok nmX0 0 (by decide) (List.mem_of_getElem? (i := 4) rfl) rfl rfl (by decide +kernel) rfl rfl (Nat.le_of_ble_eq_true rfl) dX0_init_6 (fun H locs hW hS => ?_)
  have hW : CW z G W0 [(a, .inr (3, [.int (-1 : Int32), .int 0, .int 0, .int 0, .int 0, .int 0, .int 0, .null, .null, .null, .null, .null, .null]))] H := hW
  refine lv_aload_n hx hb dX0_init_9 rfl (lv_at hl 0 rfl) ?_
  refine lv_iconst (v := (-1 : Int32)) hx hb dX0_init_10 (by decide) ?_
  refine c_put (C := RX0) (T := TX0) (N := 13) (v := .int (-1 : Int32)) (ty := .int) hx hb hts hown hE hW hS 0 rfl rfl (fun w h => List.mem_cons_of_mem _ (List.mem_append_left _ (List.mem_append_left _ (List.mem_append_right _ h)))) tyX0_ok nmX0 1 (by decide) (List.mem_of_getElem? (i := 5) rfl) rfl rfl (by decide +kernel) rfl rfl (Nat.le_of_ble_eq_true rfl) dX0_init_11 (fun H locs hW hS => ?_)
  have hW : CW z G W0 [(a, .inr (3, [.int (-1 : Int32), .int (-1 : Int32), .int 0, .int 0, .int 0, .int 0, .int 0, .null, .null, .null, .null, .null, .null]))] H := hW
  refine lv_aload_n hx hb dX0_init_14 rfl (lv_at hl 0 rfl) ?_
  refine lv_iconst (v := (-1 : Int32)) hx hb dX0_init_15 (by decide) ?_
  refine c_put (C := RX0) (T := TX0) (N := 13) (v := .int (-1 : Int32)) (ty := .int) hx hb hts hown hE hW hS 0 rfl rfl (fun w h => List.mem_cons_of_mem _ (List.mem_append_left _ (List.mem_append_left _ (List.mem_append_right _ h)))) tyX0_ok nmX0 2 (by decide) (List.mem_of_getElem? (i := 6) rfl) rfl rfl (by decide +kernel) rfl rfl (Nat.le_of_ble_eq_true rfl) dX0_init_16 (fun H locs hW hS => ?_)
  have hW : CW z G W0 [(a, .inr (3, [.int (-1 : Int32), .int (-1 : Int32), .int (-1 : Int32), .int 0, .int 0, .int 0, .int 0, .null, .null, .null, .null, .null, .null]))] H := hW
  refine lv_aload_n hx hb dX0_init_19 rfl (lv_at hl 0 rfl) ?_
  refine lv_iconst (v := (-1 : Int32)) hx hb dX0_init_20 (by decide) ?_
  refine c_put (C := RX0) (T := TX0) (N := 13) (v := .int (-1 : Int32)) (ty := .int) hx hb hts hown hE hW hS 0 rfl rfl (fun w h => List.mem_cons_of_mem _ (List.mem_append_left _ (List.mem_append_left _ (List.mem_append_right _ h)))) tyX0_ok nmX0 3 (by decide) (List.mem_of_getElem? (i := 7) rfl) rfl rfl (by decide +kernel) rfl rfl (Nat.le_of_ble_eq_true rfl) dX0_init_21 (fun H locs hW hS => ?_)
  have hW : CW z G W0 [(a, .inr (3, [.int (-1 : Int32), .int (-1 : Int32), .int (-1 : Int32), .int (-1 : Int32), .int 0, .int 0, .int 0, .null, .null, .null, .null, .null, .null]))] H := hW
  refine lv_aload_n hx hb dX0_init_24 rfl (lv_at hl 0 rfl) ?_
  refine lv_iconst (v := (-1 : Int32)) hx hb dX0_init_25 (by decide) ?_
  refine c_put (C := RX0) (T := TX0) (N := 13) (v := .int (-1 : Int32)) (ty := .int) hx hb hts hown hE hW hS 0 rfl rfl (fun w h => List.mem_cons_of_mem _ (List.mem_append_left _ (List.mem_append_left _ (List.mem_append_right _ h)))) tyX0_ok nmX0 4 (by decide) (List.mem_of_getElem? (i := 8) rfl) rfl rfl (by decide +kernel) rfl rfl (Nat.le_of_ble_eq_true rfl) dX0_init_26 (fun H locs hW hS => ?_)
  have hW : CW z G W0 [(a, .inr (3, [.int (-1 : Int32), .int (-1 : Int32), .int (-1 : Int32), .int (-1 : Int32), .int (-1 : Int32), .int 0, .int 0, .null, .null, .null, .null, .null, .null]))] H := hW
  refine lv_aload_n hx hb dX0_init_29 rfl (lv_at hl 0 rfl) ?_
  refine lv_iconst (v := (-1 : Int32)) hx hb dX0_init_30 (by decide) ?_
  refine c_put (C := RX0) (T := TX0) (N := 13) (v := .int (-1 : Int32)) (ty := .int) hx hb hts hown hE hW hS 0 rfl rfl (fun w h => List.mem_cons_of_mem _ (List.mem_append_left _ (List.mem_append_left _ (List.mem_append_right _ h)))) tyX0_ok nmX0 5 (by decide) (List.mem_of_getElem? (i := 9) rfl) rfl rfl (by decide +kernel) rfl rfl (Nat.le_of_ble_eq_true rfl) dX0_init_31 (fun H locs hW hS => ?_)
  have hW : CW z G W0 [(a, .inr (3, [.int (-1 : Int32), .int (-1 : Int32), .int (-1 : Int32), .int (-1 : Int32), .int (-1 : Int32), .int (-1 : Int32), .int 0, .null, .null, .null, .null, .null, .null]))] H := hW
  refine lv_aload_n hx hb dX0_init_34 rfl (lv_at hl 0 rfl) ?_
  refine lv_iconst (v := (-1 : Int32)) hx hb dX0_init_35 (by decide) ?_
  refine c_put (C := RX0) (T := TX0) (N := 13) (v := .int (-1 : Int32)) (ty := .int) hx hb hts hown hE hW hS 0 rfl rfl (fun w h => List.mem_cons_of_mem _ (List.mem_append_left _ (List.mem_append_left _ (List.mem_append_right _ h)))) tyX0_ok nmX0 6 (by decide) (List.mem_of_getElem? (i := 10) rfl) rfl rfl (by decide +kernel) rfl rfl (Nat.le_of_ble_eq_true rfl) dX0_init_36 (fun H locs hW hS => ?_)
  have hW : CW z G W0 [(a, .inr (3, [.int (-1 : Int32), .int (-1 : Int32), .int (-1 : Int32), .int (-1 : Int32), .int (-1 : Int32), .int (-1 : Int32), .int (-1 : Int32), .null, .null, .null, .null, .null, .null]))] H := hW
  refine lv_aload_n hx hb dX0_init_39 rfl (lv_at hl 0 rfl) ?_
  refine c_new (C := RX2) (T := TX2) (N := 2) (ci := 5) (fs := [.null, .int 0]) hx hb hts hown hE hz hW hS (fun w h => List.mem_cons_of_mem _ (List.mem_append_left _ (List.mem_append_right _ h))) tyX2_ok (List.mem_of_getElem? (i := 11) rfl) (List.mem_of_getElem? (i := 12) rfl) (List.mem_of_getElem? (i := 13) rfl) rfl (fun j hj => by rcases (show j = 0 ∨ j = 1 by omega) with rfl | rfl <;> rfl) (Nat.le_of_ble_eq_true rfl) (Nat.le_of_ble_eq_true rfl) dX0_init_40 (fun q1 H hW hS => ?_)
  have hW : CW z G W0 [(a, .inr (3, [.int (-1 : Int32), .int (-1 : Int32), .int (-1 : Int32), .int (-1 : Int32), .int (-1 : Int32), .int (-1 : Int32), .int (-1 : Int32), .null, .null, .null, .null, .null, .null])), (q1, .inr (5, [.null, .int 0]))] H := hW
  refine lv_dup hx hb dX0_init_43 rfl ?_
  have hW := CW.csa (A := [(a, .inr (3, [.int (-1 : Int32), .int (-1 : Int32), .int (-1 : Int32), .int (-1 : Int32), .int (-1 : Int32), .int (-1 : Int32), .int (-1 : Int32), .null, .null, .null, .null, .null, .null]))]) (B := [(q1, .inr (5, [.null, .int 0]))]) hW
  refine k_IN (host := "Amendmark") (rest := [.ref q1, .ref a]) (As := []) ⟨hx, hb, hml, hown, hts⟩ hE hz hS hW (miX2 l z G (W0 ++ [(a, .inr (3, [.int (-1 : Int32), .int (-1 : Int32), .int (-1 : Int32), .int (-1 : Int32), .int (-1 : Int32), .int (-1 : Int32), .int (-1 : Int32), .null, .null, .null, .null, .null, .null]))]) q1 ) ⟨va_cnB (host := "Amendmark") 0 hts gX0_init_X2_init_n35 rfl rfl rfl (hE.2.2.2.2.2.2.2.2.2.2.2.2 ("Amendmark$Instruction", 35, ⟨"Amendmark$Phrase", "<init>", "()V"⟩, "Amendmark") (List.mem_of_getElem? (i := 0) rfl)) (hts _ (List.mem_of_getElem? (i := 13) rfl)) (by decide +kernel) ⟨Nat.le_of_ble_eq_true rfl, Nat.le_of_ble_eq_true rfl⟩, rfl, hts _ (List.mem_of_getElem? (i := 23) rfl)⟩ rfl hl.1 rfl (Nat.le_of_ble_eq_true rfl) dX0_init_44 ⟨Nat.le_of_ble_eq_true rfl, Nat.le_of_ble_eq_true rfl⟩ (fun u9 H locs hp hW hS => ?_)
  obtain ⟨q2, rfl⟩ := hp
  have hW := CW.asc hW
  have hW : CW z G W0 [(a, .inr (3, [.int (-1 : Int32), .int (-1 : Int32), .int (-1 : Int32), .int (-1 : Int32), .int (-1 : Int32), .int (-1 : Int32), .int (-1 : Int32), .null, .null, .null, .null, .null, .null])), (q1, .inr (5, [.ref q2, .int (0 : Int32)])), (q2, .inl (G.2.1 0, 4, .inl (fun _ => 0)))] H := hW
  refine c_putF (C := RX0) (T := TX0) (N := 13) (v := .ref q1) (ty := .object "Amendmark$Phrase") hx hb hts hown hE hW hS 0 rfl rfl (fun w h => List.mem_cons_of_mem _ (List.mem_append_left _ (List.mem_append_left _ (List.mem_append_right _ h)))) tyX0_ok nmX0 8 (by decide) (List.mem_of_getElem? (i := 14) rfl) rfl rfl hin rfl (by decide +kernel) rfl rfl (Nat.le_of_ble_eq_true rfl) dX0_init_47 (fun H locs hW hS => ?_)
  have hW : CW z G W0 [(a, .inr (3, [.int (-1 : Int32), .int (-1 : Int32), .int (-1 : Int32), .int (-1 : Int32), .int (-1 : Int32), .int (-1 : Int32), .int (-1 : Int32), .null, .ref q1, .null, .null, .null, .null])), (q1, .inr (5, [.ref q2, .int (0 : Int32)])), (q2, .inl (G.2.1 0, 4, .inl (fun _ => 0)))] H := hW
  refine lv_aload_n hx hb dX0_init_50 rfl (lv_at hl 0 rfl) ?_
  refine c_new (C := RX2) (T := TX2) (N := 2) (ci := 5) (fs := [.null, .int 0]) hx hb hts hown hE hz hW hS (fun w h => List.mem_cons_of_mem _ (List.mem_append_left _ (List.mem_append_right _ h))) tyX2_ok (List.mem_of_getElem? (i := 11) rfl) (List.mem_of_getElem? (i := 12) rfl) (List.mem_of_getElem? (i := 13) rfl) rfl (fun j hj => by rcases (show j = 0 ∨ j = 1 by omega) with rfl | rfl <;> rfl) (Nat.le_of_ble_eq_true rfl) (Nat.le_of_ble_eq_true rfl) dX0_init_51 (fun q3 H hW hS => ?_)
  have hW : CW z G W0 [(a, .inr (3, [.int (-1 : Int32), .int (-1 : Int32), .int (-1 : Int32), .int (-1 : Int32), .int (-1 : Int32), .int (-1 : Int32), .int (-1 : Int32), .null, .ref q1, .null, .null, .null, .null])), (q1, .inr (5, [.ref q2, .int (0 : Int32)])), (q2, .inl (G.2.1 0, 4, .inl (fun _ => 0))), (q3, .inr (5, [.null, .int 0]))] H := hW
  refine lv_dup hx hb dX0_init_54 rfl ?_
  have hW := CW.csa (A := [(a, .inr (3, [.int (-1 : Int32), .int (-1 : Int32), .int (-1 : Int32), .int (-1 : Int32), .int (-1 : Int32), .int (-1 : Int32), .int (-1 : Int32), .null, .ref q1, .null, .null, .null, .null])), (q1, .inr (5, [.ref q2, .int (0 : Int32)])), (q2, .inl (G.2.1 0, 4, .inl (fun _ => 0)))]) (B := [(q3, .inr (5, [.null, .int 0]))]) hW
  refine k_IN (host := "Amendmark") (rest := [.ref q3, .ref a]) (As := []) ⟨hx, hb, hml, hown, hts⟩ hE hz hS hW (miX2 l z G (W0 ++ [(a, .inr (3, [.int (-1 : Int32), .int (-1 : Int32), .int (-1 : Int32), .int (-1 : Int32), .int (-1 : Int32), .int (-1 : Int32), .int (-1 : Int32), .null, .ref q1, .null, .null, .null, .null])), (q1, .inr (5, [.ref q2, .int (0 : Int32)])), (q2, .inl (G.2.1 0, 4, .inl (fun _ => 0)))]) q3 ) ⟨va_cnB (host := "Amendmark") 0 hts gX0_init_X2_init_n35 rfl rfl rfl (hE.2.2.2.2.2.2.2.2.2.2.2.2 ("Amendmark$Instruction", 35, ⟨"Amendmark$Phrase", "<init>", "()V"⟩, "Amendmark") (List.mem_of_getElem? (i := 0) rfl)) (hts _ (List.mem_of_getElem? (i := 13) rfl)) (by decide +kernel) ⟨Nat.le_of_ble_eq_true rfl, Nat.le_of_ble_eq_true rfl⟩, rfl, hts _ (List.mem_of_getElem? (i := 23) rfl)⟩ rfl hl.1 rfl (Nat.le_of_ble_eq_true rfl) dX0_init_55 ⟨Nat.le_of_ble_eq_true rfl, Nat.le_of_ble_eq_true rfl⟩ (fun u9 H locs hp hW hS => ?_)
  obtain ⟨q4, rfl⟩ := hp
  have hW := CW.asc hW
  have hW : CW z G W0 [(a, .inr (3, [.int (-1 : Int32), .int (-1 : Int32), .int (-1 : Int32), .int (-1 : Int32), .int (-1 : Int32), .int (-1 : Int32), .int (-1 : Int32), .null, .ref q1, .null, .null, .null, .null])), (q1, .inr (5, [.ref q2, .int (0 : Int32)])), (q2, .inl (G.2.1 0, 4, .inl (fun _ => 0))), (q3, .inr (5, [.ref q4, .int (0 : Int32)])), (q4, .inl (G.2.1 0, 4, .inl (fun _ => 0)))] H := hW
  refine c_putF (C := RX0) (T := TX0) (N := 13) (v := .ref q3) (ty := .object "Amendmark$Phrase") hx hb hts hown hE hW hS 0 rfl rfl (fun w h => List.mem_cons_of_mem _ (List.mem_append_left _ (List.mem_append_left _ (List.mem_append_right _ h)))) tyX0_ok nmX0 9 (by decide) (List.mem_of_getElem? (i := 15) rfl) rfl rfl hin rfl (by decide +kernel) rfl rfl (Nat.le_of_ble_eq_true rfl) dX0_init_58 (fun H locs hW hS => ?_)
  have hW : CW z G W0 [(a, .inr (3, [.int (-1 : Int32), .int (-1 : Int32), .int (-1 : Int32), .int (-1 : Int32), .int (-1 : Int32), .int (-1 : Int32), .int (-1 : Int32), .null, .ref q1, .ref q3, .null, .null, .null])), (q1, .inr (5, [.ref q2, .int (0 : Int32)])), (q2, .inl (G.2.1 0, 4, .inl (fun _ => 0))), (q3, .inr (5, [.ref q4, .int (0 : Int32)])), (q4, .inl (G.2.1 0, 4, .inl (fun _ => 0)))] H := hW
  refine lv_aload_n hx hb dX0_init_61 rfl (lv_at hl 0 rfl) ?_
  refine c_new (C := RX1) (T := TX1) (N := 3) (ci := 4) (fs := [.int 0, .int 0, .int 0]) hx hb hts hown hE hz hW hS (fun w h => List.mem_cons_of_mem _ (List.mem_append_right _ h)) tyX1_ok (List.mem_of_getElem? (i := 16) rfl) (List.mem_of_getElem? (i := 17) rfl) (List.mem_of_getElem? (i := 18) rfl) rfl (fun j hj => by rcases (show j = 0 ∨ j = 1 ∨ j = 2 by omega) with rfl | rfl | rfl <;> rfl) (Nat.le_of_ble_eq_true rfl) (Nat.le_of_ble_eq_true rfl) dX0_init_62 (fun q5 H hW hS => ?_)
  have hW : CW z G W0 [(a, .inr (3, [.int (-1 : Int32), .int (-1 : Int32), .int (-1 : Int32), .int (-1 : Int32), .int (-1 : Int32), .int (-1 : Int32), .int (-1 : Int32), .null, .ref q1, .ref q3, .null, .null, .null])), (q1, .inr (5, [.ref q2, .int (0 : Int32)])), (q2, .inl (G.2.1 0, 4, .inl (fun _ => 0))), (q3, .inr (5, [.ref q4, .int (0 : Int32)])), (q4, .inl (G.2.1 0, 4, .inl (fun _ => 0))), (q5, .inr (4, [.int 0, .int 0, .int 0]))] H := hW
  refine lv_dup hx hb dX0_init_65 rfl ?_
  have hW := CW.csa (A := [(a, .inr (3, [.int (-1 : Int32), .int (-1 : Int32), .int (-1 : Int32), .int (-1 : Int32), .int (-1 : Int32), .int (-1 : Int32), .int (-1 : Int32), .null, .ref q1, .ref q3, .null, .null, .null])), (q1, .inr (5, [.ref q2, .int (0 : Int32)])), (q2, .inl (G.2.1 0, 4, .inl (fun _ => 0))), (q3, .inr (5, [.ref q4, .int (0 : Int32)])), (q4, .inl (G.2.1 0, 4, .inl (fun _ => 0)))]) (B := [(q5, .inr (4, [.int 0, .int 0, .int 0]))]) hW
  refine k_IN (host := "Amendmark") (rest := [.ref q5, .ref a]) (As := []) ⟨hx, hb, hml, hown, hts⟩ hE hz hS hW (miX1 l z G (W0 ++ [(a, .inr (3, [.int (-1 : Int32), .int (-1 : Int32), .int (-1 : Int32), .int (-1 : Int32), .int (-1 : Int32), .int (-1 : Int32), .int (-1 : Int32), .null, .ref q1, .ref q3, .null, .null, .null])), (q1, .inr (5, [.ref q2, .int (0 : Int32)])), (q2, .inl (G.2.1 0, 4, .inl (fun _ => 0))), (q3, .inr (5, [.ref q4, .int (0 : Int32)])), (q4, .inl (G.2.1 0, 4, .inl (fun _ => 0)))]) q5 ) ⟨va_cnB (host := "Amendmark") 0 hts gX0_init_X1_init_n45 rfl rfl rfl (hE.2.2.2.2.2.2.2.2.2.2.2.2 ("Amendmark$Instruction", 45, ⟨"Amendmark$Notice", "<init>", "()V"⟩, "Amendmark") (List.mem_of_getElem? (i := 1) rfl)) (hts _ (List.mem_of_getElem? (i := 18) rfl)) (by decide +kernel) ⟨Nat.le_of_ble_eq_true rfl, Nat.le_of_ble_eq_true rfl⟩, rfl, hts _ (List.mem_of_getElem? (i := 29) rfl)⟩ rfl hl.1 rfl (Nat.le_of_ble_eq_true rfl) dX0_init_66 ⟨Nat.le_of_ble_eq_true rfl, Nat.le_of_ble_eq_true rfl⟩ (fun u9 H locs hp hW hS => ?_)
  subst hp
  have hW := CW.asc hW
  have hW : CW z G W0 [(a, .inr (3, [.int (-1 : Int32), .int (-1 : Int32), .int (-1 : Int32), .int (-1 : Int32), .int (-1 : Int32), .int (-1 : Int32), .int (-1 : Int32), .null, .ref q1, .ref q3, .null, .null, .null])), (q1, .inr (5, [.ref q2, .int (0 : Int32)])), (q2, .inl (G.2.1 0, 4, .inl (fun _ => 0))), (q3, .inr (5, [.ref q4, .int (0 : Int32)])), (q4, .inl (G.2.1 0, 4, .inl (fun _ => 0))), (q5, .inr (4, [.int (-1 : Int32), .int (-1 : Int32), .int (-1 : Int32)]))] H := hW
  refine c_putF (C := RX0) (T := TX0) (N := 13) (v := .ref q5) (ty := .object "Amendmark$Notice") hx hb hts hown hE hW hS 0 rfl rfl (fun w h => List.mem_cons_of_mem _ (List.mem_append_left _ (List.mem_append_left _ (List.mem_append_right _ h)))) tyX0_ok nmX0 10 (by decide) (List.mem_of_getElem? (i := 19) rfl) rfl rfl hin rfl (by decide +kernel) rfl rfl (Nat.le_of_ble_eq_true rfl) dX0_init_69 (fun H locs hW hS => ?_)
  have hW : CW z G W0 [(a, .inr (3, [.int (-1 : Int32), .int (-1 : Int32), .int (-1 : Int32), .int (-1 : Int32), .int (-1 : Int32), .int (-1 : Int32), .int (-1 : Int32), .null, .ref q1, .ref q3, .ref q5, .null, .null])), (q1, .inr (5, [.ref q2, .int (0 : Int32)])), (q2, .inl (G.2.1 0, 4, .inl (fun _ => 0))), (q3, .inr (5, [.ref q4, .int (0 : Int32)])), (q4, .inl (G.2.1 0, 4, .inl (fun _ => 0))), (q5, .inr (4, [.int (-1 : Int32), .int (-1 : Int32), .int (-1 : Int32)]))] H := hW
  refine lv_aload_n hx hb dX0_init_72 rfl (lv_at hl 0 rfl) ?_
  refine c_new (C := RX1) (T := TX1) (N := 3) (ci := 4) (fs := [.int 0, .int 0, .int 0]) hx hb hts hown hE hz hW hS (fun w h => List.mem_cons_of_mem _ (List.mem_append_right _ h)) tyX1_ok (List.mem_of_getElem? (i := 16) rfl) (List.mem_of_getElem? (i := 17) rfl) (List.mem_of_getElem? (i := 18) rfl) rfl (fun j hj => by rcases (show j = 0 ∨ j = 1 ∨ j = 2 by omega) with rfl | rfl | rfl <;> rfl) (Nat.le_of_ble_eq_true rfl) (Nat.le_of_ble_eq_true rfl) dX0_init_73 (fun q6 H hW hS => ?_)
  have hW : CW z G W0 [(a, .inr (3, [.int (-1 : Int32), .int (-1 : Int32), .int (-1 : Int32), .int (-1 : Int32), .int (-1 : Int32), .int (-1 : Int32), .int (-1 : Int32), .null, .ref q1, .ref q3, .ref q5, .null, .null])), (q1, .inr (5, [.ref q2, .int (0 : Int32)])), (q2, .inl (G.2.1 0, 4, .inl (fun _ => 0))), (q3, .inr (5, [.ref q4, .int (0 : Int32)])), (q4, .inl (G.2.1 0, 4, .inl (fun _ => 0))), (q5, .inr (4, [.int (-1 : Int32), .int (-1 : Int32), .int (-1 : Int32)])), (q6, .inr (4, [.int 0, .int 0, .int 0]))] H := hW
  refine lv_dup hx hb dX0_init_76 rfl ?_
  have hW := CW.csa (A := [(a, .inr (3, [.int (-1 : Int32), .int (-1 : Int32), .int (-1 : Int32), .int (-1 : Int32), .int (-1 : Int32), .int (-1 : Int32), .int (-1 : Int32), .null, .ref q1, .ref q3, .ref q5, .null, .null])), (q1, .inr (5, [.ref q2, .int (0 : Int32)])), (q2, .inl (G.2.1 0, 4, .inl (fun _ => 0))), (q3, .inr (5, [.ref q4, .int (0 : Int32)])), (q4, .inl (G.2.1 0, 4, .inl (fun _ => 0))), (q5, .inr (4, [.int (-1 : Int32), .int (-1 : Int32), .int (-1 : Int32)]))]) (B := [(q6, .inr (4, [.int 0, .int 0, .int 0]))]) hW
  refine k_IN (host := "Amendmark") (rest := [.ref q6, .ref a]) (As := []) ⟨hx, hb, hml, hown, hts⟩ hE hz hS hW (miX1 l z G (W0 ++ [(a, .inr (3, [.int (-1 : Int32), .int (-1 : Int32), .int (-1 : Int32), .int (-1 : Int32), .int (-1 : Int32), .int (-1 : Int32), .int (-1 : Int32), .null, .ref q1, .ref q3, .ref q5, .null, .null])), (q1, .inr (5, [.ref q2, .int (0 : Int32)])), (q2, .inl (G.2.1 0, 4, .inl (fun _ => 0))), (q3, .inr (5, [.ref q4, .int (0 : Int32)])), (q4, .inl (G.2.1 0, 4, .inl (fun _ => 0))), (q5, .inr (4, [.int (-1 : Int32), .int (-1 : Int32), .int (-1 : Int32)]))]) q6 ) ⟨va_cnB (host := "Amendmark") 0 hts gX0_init_X1_init_n45 rfl rfl rfl (hE.2.2.2.2.2.2.2.2.2.2.2.2 ("Amendmark$Instruction", 45, ⟨"Amendmark$Notice", "<init>", "()V"⟩, "Amendmark") (List.mem_of_getElem? (i := 1) rfl)) (hts _ (List.mem_of_getElem? (i := 18) rfl)) (by decide +kernel) ⟨Nat.le_of_ble_eq_true rfl, Nat.le_of_ble_eq_true rfl⟩, rfl, hts _ (List.mem_of_getElem? (i := 29) rfl)⟩ rfl hl.1 rfl (Nat.le_of_ble_eq_true rfl) dX0_init_77 ⟨Nat.le_of_ble_eq_true rfl, Nat.le_of_ble_eq_true rfl⟩ (fun u9 H locs hp hW hS => ?_)
  subst hp
  have hW := CW.asc hW
  have hW : CW z G W0 [(a, .inr (3, [.int (-1 : Int32), .int (-1 : Int32), .int (-1 : Int32), .int (-1 : Int32), .int (-1 : Int32), .int (-1 : Int32), .int (-1 : Int32), .null, .ref q1, .ref q3, .ref q5, .null, .null])), (q1, .inr (5, [.ref q2, .int (0 : Int32)])), (q2, .inl (G.2.1 0, 4, .inl (fun _ => 0))), (q3, .inr (5, [.ref q4, .int (0 : Int32)])), (q4, .inl (G.2.1 0, 4, .inl (fun _ => 0))), (q5, .inr (4, [.int (-1 : Int32), .int (-1 : Int32), .int (-1 : Int32)])), (q6, .inr (4, [.int (-1 : Int32), .int (-1 : Int32), .int (-1 : Int32)]))] H := hW
  refine c_putF (C := RX0) (T := TX0) (N := 13) (v := .ref q6) (ty := .object "Amendmark$Notice") hx hb hts hown hE hW hS 0 rfl rfl (fun w h => List.mem_cons_of_mem _ (List.mem_append_left _ (List.mem_append_left _ (List.mem_append_right _ h)))) tyX0_ok nmX0 11 (by decide) (List.mem_of_getElem? (i := 20) rfl) rfl rfl hin rfl (by decide +kernel) rfl rfl (Nat.le_of_ble_eq_true rfl) dX0_init_80 (fun H locs hW hS => ?_)
  have hW : CW z G W0 [(a, .inr (3, [.int (-1 : Int32), .int (-1 : Int32), .int (-1 : Int32), .int (-1 : Int32), .int (-1 : Int32), .int (-1 : Int32), .int (-1 : Int32), .null, .ref q1, .ref q3, .ref q5, .ref q6, .null])), (q1, .inr (5, [.ref q2, .int (0 : Int32)])), (q2, .inl (G.2.1 0, 4, .inl (fun _ => 0))), (q3, .inr (5, [.ref q4, .int (0 : Int32)])), (q4, .inl (G.2.1 0, 4, .inl (fun _ => 0))), (q5, .inr (4, [.int (-1 : Int32), .int (-1 : Int32), .int (-1 : Int32)])), (q6, .inr (4, [.int (-1 : Int32), .int (-1 : Int32), .int (-1 : Int32)]))] H := hW
  refine lv_aload_n hx hb dX0_init_83 rfl (lv_at hl 0 rfl) ?_
  refine c_new (C := RX1) (T := TX1) (N := 3) (ci := 4) (fs := [.int 0, .int 0, .int 0]) hx hb hts hown hE hz hW hS (fun w h => List.mem_cons_of_mem _ (List.mem_append_right _ h)) tyX1_ok (List.mem_of_getElem? (i := 16) rfl) (List.mem_of_getElem? (i := 17) rfl) (List.mem_of_getElem? (i := 18) rfl) rfl (fun j hj => by rcases (show j = 0 ∨ j = 1 ∨ j = 2 by omega) with rfl | rfl | rfl <;> rfl) (Nat.le_of_ble_eq_true rfl) (Nat.le_of_ble_eq_true rfl) dX0_init_84 (fun q7 H hW hS => ?_)
  have hW : CW z G W0 [(a, .inr (3, [.int (-1 : Int32), .int (-1 : Int32), .int (-1 : Int32), .int (-1 : Int32), .int (-1 : Int32), .int (-1 : Int32), .int (-1 : Int32), .null, .ref q1, .ref q3, .ref q5, .ref q6, .null])), (q1, .inr (5, [.ref q2, .int (0 : Int32)])), (q2, .inl (G.2.1 0, 4, .inl (fun _ => 0))), (q3, .inr (5, [.ref q4, .int (0 : Int32)])), (q4, .inl (G.2.1 0, 4, .inl (fun _ => 0))), (q5, .inr (4, [.int (-1 : Int32), .int (-1 : Int32), .int (-1 : Int32)])), (q6, .inr (4, [.int (-1 : Int32), .int (-1 : Int32), .int (-1 : Int32)])), (q7, .inr (4, [.int 0, .int 0, .int 0]))] H := hW
  refine lv_dup hx hb dX0_init_87 rfl ?_
  have hW := CW.csa (A := [(a, .inr (3, [.int (-1 : Int32), .int (-1 : Int32), .int (-1 : Int32), .int (-1 : Int32), .int (-1 : Int32), .int (-1 : Int32), .int (-1 : Int32), .null, .ref q1, .ref q3, .ref q5, .ref q6, .null])), (q1, .inr (5, [.ref q2, .int (0 : Int32)])), (q2, .inl (G.2.1 0, 4, .inl (fun _ => 0))), (q3, .inr (5, [.ref q4, .int (0 : Int32)])), (q4, .inl (G.2.1 0, 4, .inl (fun _ => 0))), (q5, .inr (4, [.int (-1 : Int32), .int (-1 : Int32), .int (-1 : Int32)])), (q6, .inr (4, [.int (-1 : Int32), .int (-1 : Int32), .int (-1 : Int32)]))]) (B := [(q7, .inr (4, [.int 0, .int 0, .int 0]))]) hW
  refine k_IN (host := "Amendmark") (rest := [.ref q7, .ref a]) (As := []) ⟨hx, hb, hml, hown, hts⟩ hE hz hS hW (miX1 l z G (W0 ++ [(a, .inr (3, [.int (-1 : Int32), .int (-1 : Int32), .int (-1 : Int32), .int (-1 : Int32), .int (-1 : Int32), .int (-1 : Int32), .int (-1 : Int32), .null, .ref q1, .ref q3, .ref q5, .ref q6, .null])), (q1, .inr (5, [.ref q2, .int (0 : Int32)])), (q2, .inl (G.2.1 0, 4, .inl (fun _ => 0))), (q3, .inr (5, [.ref q4, .int (0 : Int32)])), (q4, .inl (G.2.1 0, 4, .inl (fun _ => 0))), (q5, .inr (4, [.int (-1 : Int32), .int (-1 : Int32), .int (-1 : Int32)])), (q6, .inr (4, [.int (-1 : Int32), .int (-1 : Int32), .int (-1 : Int32)]))]) q7 ) ⟨va_cnB (host := "Amendmark") 0 hts gX0_init_X1_init_n45 rfl rfl rfl (hE.2.2.2.2.2.2.2.2.2.2.2.2 ("Amendmark$Instruction", 45, ⟨"Amendmark$Notice", "<init>", "()V"⟩, "Amendmark") (List.mem_of_getElem? (i := 1) rfl)) (hts _ (List.mem_of_getElem? (i := 18) rfl)) (by decide +kernel) ⟨Nat.le_of_ble_eq_true rfl, Nat.le_of_ble_eq_true rfl⟩, rfl, hts _ (List.mem_of_getElem? (i := 29) rfl)⟩ rfl hl.1 rfl (Nat.le_of_ble_eq_true rfl) dX0_init_88 ⟨Nat.le_of_ble_eq_true rfl, Nat.le_of_ble_eq_true rfl⟩ (fun u9 H locs hp hW hS => ?_)
  subst hp
  have hW := CW.asc hW
  have hW : CW z G W0 [(a, .inr (3, [.int (-1 : Int32), .int (-1 : Int32), .int (-1 : Int32), .int (-1 : Int32), .int (-1 : Int32), .int (-1 : Int32), .int (-1 : Int32), .null, .ref q1, .ref q3, .ref q5, .ref q6, .null])), (q1, .inr (5, [.ref q2, .int (0 : Int32)])), (q2, .inl (G.2.1 0, 4, .inl (fun _ => 0))), (q3, .inr (5, [.ref q4, .int (0 : Int32)])), (q4, .inl (G.2.1 0, 4, .inl (fun _ => 0))), (q5, .inr (4, [.int (-1 : Int32), .int (-1 : Int32), .int (-1 : Int32)])), (q6, .inr (4, [.int (-1 : Int32), .int (-1 : Int32), .int (-1 : Int32)])), (q7, .inr (4, [.int (-1 : Int32), .int (-1 : Int32), .int (-1 : Int32)]))] H := hW
  refine c_putF (C := RX0) (T := TX0) (N := 13) (v := .ref q7) (ty := .object "Amendmark$Notice") hx hb hts hown hE hW hS 0 rfl rfl (fun w h => List.mem_cons_of_mem _ (List.mem_append_left _ (List.mem_append_left _ (List.mem_append_right _ h)))) tyX0_ok nmX0 12 (by decide) (List.mem_of_getElem? (i := 21) rfl) rfl rfl hin rfl (by decide +kernel) rfl rfl (Nat.le_of_ble_eq_true rfl) dX0_init_91 (fun H locs hW hS => ?_)
  have hW : CW z G W0 [(a, .inr (3, [.int (-1 : Int32), .int (-1 : Int32), .int (-1 : Int32), .int (-1 : Int32), .int (-1 : Int32), .int (-1 : Int32), .int (-1 : Int32), .null, .ref q1, .ref q3, .ref q5, .ref q6, .ref q7])), (q1, .inr (5, [.ref q2, .int (0 : Int32)])), (q2, .inl (G.2.1 0, 4, .inl (fun _ => 0))), (q3, .inr (5, [.ref q4, .int (0 : Int32)])), (q4, .inl (G.2.1 0, 4, .inl (fun _ => 0))), (q5, .inr (4, [.int (-1 : Int32), .int (-1 : Int32), .int (-1 : Int32)])), (q6, .inr (4, [.int (-1 : Int32), .int (-1 : Int32), .int (-1 : Int32)])), (q7, .inr (4, [.int (-1 : Int32), .int (-1 : Int32), .int (-1 : Int32)]))] H := hW
  refine lv_aload_n hx hb dX0_init_94 rfl (lv_at hl 0 rfl) ?_
  refine lv_aload_n hx hb dX0_init_95 rfl (lv_at hl 1 rfl) ?_
  refine c_put (C := RX0) (T := TX0) (N := 13) (v := .ref t0) (ty := .object "Amendmark$Terms") hx hb hts hown hE hW hS 0 rfl rfl (fun w h => List.mem_cons_of_mem _ (List.mem_append_left _ (List.mem_append_left _ (List.mem_append_right _ h)))) tyX0_ok nmX0 7 (by decide) (List.mem_of_getElem? (i := 22) rfl) rfl rfl (by decide +kernel) rfl rfl (Nat.le_of_ble_eq_true rfl) dX0_init_96 (fun H locs hW hS => ?_)
  have hW : CW z G W0 [(a, .inr (3, [.int (-1 : Int32), .int (-1 : Int32), .int (-1 : Int32), .int (-1 : Int32), .int (-1 : Int32), .int (-1 : Int32), .int (-1 : Int32), .ref t0, .ref q1, .ref q3, .ref q5, .ref q6, .ref q7])), (q1, .inr (5, [.ref q2, .int (0 : Int32)])), (q2, .inl (G.2.1 0, 4, .inl (fun _ => 0))), (q3, .inr (5, [.ref q4, .int (0 : Int32)])), (q4, .inl (G.2.1 0, 4, .inl (fun _ => 0))), (q5, .inr (4, [.int (-1 : Int32), .int (-1 : Int32), .int (-1 : Int32)])), (q6, .inr (4, [.int (-1 : Int32), .int (-1 : Int32), .int (-1 : Int32)])), (q7, .inr (4, [.int (-1 : Int32), .int (-1 : Int32), .int (-1 : Int32)]))] H := hW
  exact W.vret hx hb hr (fun t ht _ => ⟨⟨_, rfl, ⟨q1, q2, q3, q4, q5, q6, q7, rfl⟩, CW.at9 ht hW⟩, hS.F ht⟩) hS.2.2 dX0_init_99 (hlocks := hlocks)

