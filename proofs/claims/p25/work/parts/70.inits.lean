/-! constructors of lists, View, Amendmark over cells beside a world. Written by wip/gen/hand8.py -/
section RK8
variable {p : Program} {l : Launch} {e : Env} {R : Room} {s : State} {m : MethodId} {args : Array Value} {below : List Frame} {meth : Method} {c : Code} {H : Heap} {locs : List Loc} {cells slots : Nat} {Q : State → Prop}
variable {cc : ByteArray} {pc : Nat} {ls : Array Slot} {rest : List Value} {z : Nat} {G : Gl} {W0 B : va_W} {Ts : List Cond} {own ref C : String} {T : u_T} {N ci index a : Nat}

theorem CW.swap {z : Nat} {G : Gl} {W0 A B C : va_W} {H : Heap} (h : CW z G W0 ((A ++ B) ++ C) H) : CW z G W0 ((A ++ C) ++ B) H := by
  unfold CW at *
  rw [← List.append_assoc, ← List.append_assoc] at *
  exact ⟨h.1.swap, h.2.swap⟩
theorem c_get (hx : p.tables.exec = Jvm.exec) (hb : c.code = cc) (hts : ∀ w ∈ Ts, w.before args s = true) (hown : s.vm.findClass own = some m.cls) (hE : Ev z G s) (hW : CW z G W0 B H) (q0 : Nat) {fs : List Value} (he : B[q0]? = some (a, .inr (ci, fs))) (hcl : vwCl[ci]? = some (C, T, N)) (hin : ∀ w ∈ u_ws C T N, w ∈ Ts) (k : Nat) (hk : k < N)
    (hlink : Cond.fieldLink own index ref (T k).2.1 (T k).2.2.1 ∈ Ts) (hsame : (T k).1 = ref ∨ Cond.sameField ref (T k).1 (T k).2.1 (T k).2.2.1 ∈ Ts) {v : Value} (hv : fs[k]? = some v) (hdg : decode cc pc = .ok (.getfield index, 3))
    (kk : W p l e R s m args below meth c H locs cells slots Q (F0 m (pc + 3) ls (v :: rest))) : W p l e R s m args below meth c H locs cells slots Q (F0 m pc ls (.ref a :: rest)) := by
  refine va_get (C := C) (T := T) (N := N) (ci := ci) (fs := fs) hx hb hts hin hown hE.1 hW.1 (W0.length + q0) (get_app9.trans he) hcl k hk (hts _ hlink) (fun x hx9 => ?_) hv hdg kk
  rcases hsame with h | h
  · rw [h] at hx9; exact hx9
  · exact u_same (hts _ h) x hx9
theorem c_putS (hx : p.tables.exec = Jvm.exec) (hb : c.code = cc) (hts : ∀ w ∈ Ts, w.before args s = true) (hown : s.vm.findClass own = some m.cls) (hE : Ev z G s) (hW : CW z G W0 B H) (hS : va_S (Az z) s.heap H locs) (q0 : Nat) {fs : List Value} (he : B[q0]? = some (a, .inr (ci, fs))) (hcl : vwCl[ci]? = some (C, T, N)) (hin : ∀ w ∈ u_ws C T N, w ∈ Ts) {ty0 : Nat → FieldType} (hty : ∀ k, k < N → parseFieldDescriptor (T k).2.2.1 = some (ty0 k)) (hnm : ∀ a, a < N → ∀ b, b < N → a ≠ b → (T a).2.1 ≠ (T b).2.1) (k : Nat) (hk : k < N)
    (hlink : Cond.fieldLink own index ref (T k).2.1 (T k).2.2.1 ∈ Ts) (hsame : Cond.sameField ref (T k).1 (T k).2.1 (T k).2.2.1 ∈ Ts) (hfin : (T k).2.2.2 = false) {ty : FieldType} {v : Value} (hd : parseFieldDescriptor (T k).2.2.1 = some ty) (hn : narrow ty v = v) (hfit : fits ty v = true) (hl : k < fs.length) (hdg : decode cc pc = .ok (.putfield index, 3))
    (kk : ∀ (H1 : Heap) (locs1 : List Loc), CW z G W0 (B.set q0 (a, .inr (ci, fs.set k v))) H1 → va_S (Az z) s.heap H1 locs1 → W p l e R s m args below meth c H1 locs1 cells slots Q (F0 m (pc + 3) ls rest)) : W p l e R s m args below meth c H locs cells slots Q (F0 m pc ls (v :: .ref a :: rest)) := by
  obtain ⟨hP, hD⟩ := hW
  exact va_put hx hb hts hin ty0 hty hnm hown hE.1 hP hD hS (W0.length + q0) (get_app9.trans he) hcl k hk (hts _ hlink) (fun x hx9 => u_same (hts _ hsame) x hx9) hfin hd hn hfit hl hdg (fun H1 locs1 k1 k2 k3 => kk H1 locs1 ⟨by rw [← set_app9]; exact k1, by rw [← set_app9]; exact k2⟩ k3)
theorem c_iast (hx : p.tables.exec = Jvm.exec) (hb : c.code = cc) (hE : Ev z G s) (hW : CW z G W0 B H) (hS : va_S (Az z) s.heap H locs) (q0 : Nat) {n : Nat} {f : Nat → Int32} (he : B[q0]? = some (a, .inl (G.2.1 0, n, .inl f))) {i x : Int32} (hin : vp_in i n) (hdg : decode cc pc = .ok (.iastore, 1))
    (kk : ∀ (H1 : Heap) (locs1 : List Loc), CW z G W0 (B.set q0 (a, .inl (G.2.1 0, n, .inl (upd f i.toNatClampNeg x)))) H1 → va_S (Az z) s.heap H1 locs1 → W p l e R s m args below meth c H1 locs1 cells slots Q (F0 m (pc + 1) ls rest)) : W p l e R s m args below meth c H locs cells slots Q (F0 m pc ls (.int x :: .int i :: .ref a :: rest)) := by
  obtain ⟨hP, hD⟩ := hW
  exact va_iast hx hb hE.1 hP hD hS (W0.length + q0) 0 (get_app9.trans he) rfl hin hdg (fun H1 locs1 k1 k2 k3 => kk H1 locs1 ⟨by rw [← set_app9]; exact k1, by rw [← set_app9]; exact k2⟩ k3)
theorem c_astN (hx : p.tables.exec = Jvm.exec) (hb : c.code = cc) (hE : Ev z G s) (hW : CW z G W0 B H) (hS : va_S (Az z) s.heap H locs) (q0 t0 : Nat) {cA : ClassId} {n : Nat} {f : Nat → Option Nat} (he : B[q0]? = some (a, .inl (cA, n, .inr (.inr (.inr (.inr f)))))) (ht : (TY G)[t0]? = some (cA, .object C)) {i : Int32} (hin : vp_in i n) (hdg : decode cc pc = .ok (.aastore, 1))
    (kk : ∀ (H1 : Heap) (locs1 : List Loc), CW z G W0 (B.set q0 (a, .inl (cA, n, .inr (.inr (.inr (.inr (va_up f i.toNatClampNeg none))))))) H1 → va_S (Az z) s.heap H1 locs1 → W p l e R s m args below meth c H1 locs1 cells slots Q (F0 m (pc + 1) ls rest)) : W p l e R s m args below meth c H locs cells slots Q (F0 m pc ls (.null :: .int i :: .ref a :: rest)) := by
  obtain ⟨hP, hD⟩ := hW
  exact va_astqN hx hb hE.1 hP hD hS (W0.length + q0) t0 (get_app9.trans he) ht hin hdg (fun H1 locs1 k1 k2 k3 => kk H1 locs1 ⟨by rw [← set_app9]; exact k1, by rw [← set_app9]; exact k2⟩ k3)
theorem c_ast (hx : p.tables.exec = Jvm.exec) (hb : c.code = cc) (hE : Ev z G s) (hW : CW z G W0 B H) (hS : va_S (Az z) s.heap H locs) (q0 t0 : Nat) {cA : ClassId} {r : vw_C} {n v : Nat} {vs : List Value} {f : Nat → Option Nat} (he : B[q0]? = some (a, .inl (cA, n, .inr (.inr (.inr (.inr f)))))) (ht : (TY G)[t0]? = some (cA, .object r.1)) (hv : (v, (.inr (ci, vs) : va_E)) ∈ B) (hc : vwCl[ci]? = some r) {i : Int32} (hin : vp_in i n) (hdg : decode cc pc = .ok (.aastore, 1))
    (kk : ∀ (H1 : Heap) (locs1 : List Loc), CW z G W0 (B.set q0 (a, .inl (cA, n, .inr (.inr (.inr (.inr (va_up f i.toNatClampNeg (some v)))))))) H1 → va_S (Az z) s.heap H1 locs1 → W p l e R s m args below meth c H1 locs1 cells slots Q (F0 m (pc + 1) ls rest)) : W p l e R s m args below meth c H locs cells slots Q (F0 m pc ls (.ref v :: .int i :: .ref a :: rest)) := by
  obtain ⟨hP, hD⟩ := hW
  obtain ⟨qk, hqk⟩ := List.mem_iff_getElem?.mp hv
  exact va_astq hx hb hE.1 hP hD hS (W0.length + q0) t0 (W0.length + qk) ci (get_app9.trans he) ht (get_app9.trans hqk) hc hin hdg (fun H1 locs1 k1 k2 k3 => kk H1 locs1 ⟨by rw [← set_app9]; exact k1, by rw [← set_app9]; exact k2⟩ k3)
theorem c_alen (hx : p.tables.exec = Jvm.exec) (hb : c.code = cc) (hE : Ev z G s) (hW : CW z G W0 B H) (q0 t0 : Nat) {cA : ClassId} {x : vp_A} (he : B[q0]? = some (a, .inl (cA, x))) {ty : FieldType} (ht : (TY G)[t0]? = some (cA, ty)) {v : Int32} (hv : Int32.ofNat x.1 = v) (hdg : decode cc pc = .ok (.arraylength, 1))
    (kk : W p l e R s m args below meth c H locs cells slots Q (F0 m (pc + 1) ls (.int v :: rest))) : W p l e R s m args below meth c H locs cells slots Q (F0 m pc ls (.ref a :: rest)) :=
  va_alen hx hb hE.1 hW.1 (W0.length + q0) t0 (get_app9.trans he) ht hv hdg kk
theorem uni_obj {cA cB : ClassId} {C : String} (h1 : va_RA s cA (.object C)) (h2 : va_RA s cB (.object C)) : cA = cB := by
  obtain ⟨_, _, -, -, -, h1⟩ := h1
  obtain ⟨_, _, -, -, -, h2⟩ := h2
  exact Option.some.inj (h1.symm.trans h2)
theorem c_newq (hx : p.tables.exec = Jvm.exec) (hb : c.code = cc) (hts : ∀ w ∈ Ts, w.before args s = true) (hown : s.vm.findClass own = some m.cls) (hE : Ev z G s) (hz : z ≤ s.heap.size) (hW : CW z G W0 B H) (hS : va_S (Az z) s.heap H locs) (hlink : Cond.classLink own index C ∈ Ts) (hao : C ∈ AOV) (t0 : Nat) {cB : ClassId} (ht : (TY G)[t0]? = some (cB, .object C)) {n : Int32} {N' : Nat} (hn : ¬ n < 0) (hN : n.toNatClampNeg = N') (hbytes : N' * 4 ≤ 536870912) (hcells : cells + 1 ≤ R.cells) (hslots : slots + N' ≤ R.slots) (hdg : decode cc pc = .ok (.anewarray index, 3))
    (kk : ∀ (q : Nat) (H1 : Heap), CW z G W0 (B ++ [(q, .inl (cB, N', .inr (.inr (.inr (.inr (fun _ => none))))))]) H1 → va_S (Az z) s.heap H1 locs → W p l e R s m args below meth c H1 locs (cells + 1) (slots + N') Q (F0 m (pc + 3) ls (.ref q :: rest))) : W p l e R s m args below meth c H locs cells slots Q (F0 m pc ls (.int n :: rest)) := by
  obtain ⟨hP, hD⟩ := hW
  refine va_newq (C := C) hx hb hown (hts _ hlink) (hE.2.2.2.2.2.2.2.2.1 C hao) hE.1 hP hD hS (fun q h => Nat.le_trans hz h) hn hN hbytes hcells hslots hdg (fun q cA H1 kK k1 k2 k3 => ?_)
  have e : cA = cB := uni_obj (kK.2 6 (cA, .object C) rfl).2 (hE.1.2 t0 (cB, .object C) ht).2
  subst e
  exact kk q H1 ⟨by rwa [List.append_assoc] at k1, by rwa [List.append_assoc] at k2⟩ k3
theorem k_CV {y : MethodName} {bytes : ByteArray} {maxL nL mc ms n : Nat} {ret : Option FieldType} {ws : List Cond} {rm : Room} {b : Nat} {As st0 : List Value} {post : va_W → Prop} (SS : CallFix p m c cc nL s args Ts own) (hE : Ev z G s) (hz : z ≤ s.heap.size) (hS : va_S (Az z) s.heap H locs) (hW : CW z G W0 B H) (hM : Met l y ws rm (Pci z G W0 B (.ref b :: As)) (Qci z G W0 post) mc ms (Az z)) (cw : CallW R s args own C index y bytes maxL ret ws rm mc ms n) (hr : ∃ cell : Cell, H[b]? = some cell ∧ cell.vm.isStatics = false ∧ s.vm.findClass C = some cell.cls) (hn : As.length = n) (hsz : ls.size = nL) (hst : st0 = As.reverse ++ .ref b :: rest) (hrm : (rest.map fun v => v.category).sum ≤ 8) (hdg : decode cc pc = .ok (.invokevirtual index, 3)) (hf : cells + mc ≤ R.cells ∧ slots + ms ≤ R.slots)
    (kk : ∀ (u : va_W) (H1 : Heap) (locs1 : List Loc), post u → CW z G W0 u H1 → va_S (Az z) s.heap H1 locs1 → W p l e R s m args below meth c H1 locs1 (cells + mc) (slots + ms) Q (F0 m (pc + 3) ls rest)) : W p l e R s m args below meth c H locs cells slots Q (F0 m pc ls st0) := by
  subst hst
  exact va_callv (va_runV (As := As) (rest := rest) SS hM cw ⟨Pci.blind, hr, fun U hU hw => ⟨rfl, Bci.of hE hz hW hS hU hw⟩⟩ rfl hn hsz rfl (lv_room hrm) hdg hf) hS (fun _ _ h => h) (fun _ h => h) (fun u t H1 locs1 ht _ hp hB _ _ hS1 => kk u H1 locs1 hp (by rw [← ht]; exact hB) hS1)
end RK8
set_option maxHeartbeats 4000000 in
set_option maxRecDepth 100000 in
theorem miJxa1e45_init_da8c8 (l : Launch) (z : Nat) (G : Gl) (W0 : va_W) (a : Nat) (B : va_W) : Met l yJxa1e45_init_da8c8 wsJxa1e45_init_da8c8 ({ frames := 1, cells := 0, slots := 0, locals := 12 } : Room) (Pci z G W0 B [.ref a]) (Qci z G W0 (fun u => u = B)) 0 0 (Az z) := by
  refine Met.ofW (cc := cJxa1e45_init_da8c8) (maxL := 1) (ret := none) (by decide) rfl ?_
  intro p e s m args below meth c s₁ BB hml hv
  obtain ⟨rfl, hz, hW, hE⟩ := hv
  have hx := BB.exec
  have hb := BB.bytes
  have hr := BB.returns
  have hts := atoms_spec (ws := wsJxa1e45_init_da8c8) BB.pre
  have hown : s.vm.findClass RJxa1e45 = some m.cls := findClass_of_methodNamed BB.named
  have hlocks := BB.notSynchronized
  have hin : meth.name = "<init>" := (name_of_methodNamed BB.named BB.method).1
  have hS : va_S (Az z) s.heap s.heap [] := va_S.rf
  have hl := lv_entry [.ref a] (n := 1) (Nat.le_of_ble_eq_true rfl)
  rw [lg_entry_eq]
  generalize (lg_sl [.ref a] ++ List.replicate (1 - (lg_sl [.ref a]).length) Slot.unset).toArray = ls at hl ⊢
  have hl : lv_has ls 1 [(0, .ref a)] := hl
  refine lv_aload_n hx hb dJxa1e45_init_da8c8_0 rfl (lv_at hl 0 rfl) ?_
  refine W.objInit hx hb hown (hts _ (List.mem_of_getElem? (i := 1) rfl)) (hts _ (List.mem_of_getElem? (i := 2) rfl)) (hts _ (List.mem_of_getElem? (i := 3) rfl)) rfl (by rw [hml]; exact hl.1) rfl dJxa1e45_init_da8c8_1 (Nat.le_of_ble_eq_true rfl) (Nat.le_of_ble_eq_true rfl) ?_
  refine W.eq (g2 := F0 m 4 ls []) rfl ?_
  exact W.vret hx hb hr (fun t ht _ => ⟨⟨_, rfl, rfl, CW.at9 ht hW⟩, hS.F ht⟩) hS.2.2 dJxa1e45_init_da8c8_4 (hlocks := hlocks)
set_option maxHeartbeats 4000000 in
set_option maxRecDepth 100000 in
theorem miJxc12de_init_da8c8 (l : Launch) (z : Nat) (G : Gl) (W0 : va_W) (a : Nat) (X : va_W) : Met l yJxc12de_init_da8c8 wsJxc12de_init_da8c8 ({ frames := 2, cells := 0, slots := 0, locals := 32 } : Room) (Pci z G W0 ((a, (.inr (2, [.int 0, .null, .int 0]) : va_E)) :: X) [.ref a]) (Qci z G W0 (fun u => u = ((a, (.inr (2, [.int 0, .null, .int 0]) : va_E)) :: X))) 0 0 (Az z) := by
  refine Met.ofW (cc := cJxc12de_init_da8c8) (maxL := 1) (ret := none) (by decide) rfl ?_
  intro p e s m args below meth c s₁ BB hml hv
  obtain ⟨rfl, hz, hW, hE⟩ := hv
  have hx := BB.exec
  have hb := BB.bytes
  have hr := BB.returns
  have hts := atoms_spec (ws := wsJxc12de_init_da8c8) BB.pre
  have hown : s.vm.findClass RJxc12de = some m.cls := findClass_of_methodNamed BB.named
  have hlocks := BB.notSynchronized
  have hin : meth.name = "<init>" := (name_of_methodNamed BB.named BB.method).1
  have hS : va_S (Az z) s.heap s.heap [] := va_S.rf
  have hl := lv_entry [.ref a] (n := 1) (Nat.le_of_ble_eq_true rfl)
  rw [lg_entry_eq]
  generalize (lg_sl [.ref a] ++ List.replicate (1 - (lg_sl [.ref a]).length) Slot.unset).toArray = ls at hl ⊢
  have hl : lv_has ls 1 [(0, .ref a)] := hl
  refine lv_aload_n hx hb dJxc12de_init_da8c8_0 rfl (lv_at hl 0 rfl) ?_
  refine k_I (rest := []) (As := []) ⟨hx, hb, hml, hown, hts⟩ hE hz hS hW (miJxa1e45_init_da8c8 l z G W0 a ((a, (.inr (2, [.int 0, .null, .int 0]) : va_E)) :: X)) (cwI 0 hts gJxc12de_init_da8c8_Jxa1e45_init_da8c8 rfl rfl rfl (hts _ (List.mem_of_getElem? (i := 4) rfl)) (hts _ (List.mem_of_getElem? (i := 2) rfl)) (hts _ (List.mem_of_getElem? (i := 3) rfl)) rfl (by decide +kernel) ⟨Nat.le_of_ble_eq_true rfl, Nat.le_of_ble_eq_true rfl⟩) rfl hl.1 rfl (Nat.le_of_ble_eq_true rfl) dJxc12de_init_da8c8_1 ⟨Nat.le_of_ble_eq_true rfl, Nat.le_of_ble_eq_true rfl⟩ (fun u9 H locs hp hW hS => ?_)
  subst hp
  refine lv_aload_n hx hb dJxc12de_init_da8c8_4 rfl (lv_at hl 0 rfl) ?_
  refine lv_iconst (v := (0 : Int32)) hx hb dJxc12de_init_da8c8_5 (by decide) ?_
  refine c_put (C := RJx4a65c) (T := TJx4a65c) (N := 3) (v := .int 0) (ty := .int) hx hb hts hown hE hW hS 0 rfl rfl (fun w h => List.mem_cons_of_mem _ (List.mem_append_right _ h)) tyJx4a65c_ok nmJx4a65c 0 (by decide) (List.mem_of_getElem? (i := 1) rfl) rfl rfl (by decide +kernel) rfl rfl (Nat.le_of_ble_eq_true rfl) dJxc12de_init_da8c8_6 (fun H locs hW hS => ?_)
  have hW : CW z G W0 ((a, (.inr (2, [.int 0, .null, .int 0]) : va_E)) :: X) H := hW
  exact W.vret hx hb hr (fun t ht _ => ⟨⟨_, rfl, rfl, CW.at9 ht hW⟩, hS.F ht⟩) hS.2.2 dJxc12de_init_da8c8_9 (hlocks := hlocks)
set_option maxHeartbeats 4000000 in
set_option maxRecDepth 100000 in
theorem miJx4a65c_init_da8c8 (l : Launch) (z : Nat) (G : Gl) (W0 : va_W) (a : Nat) (X : va_W) : Met l yJx4a65c_init_da8c8 wsJx4a65c_init_da8c8 ({ frames := 3, cells := 0, slots := 0, locals := 52 } : Room) (Pci z G W0 ((a, (.inr (2, [.int 0, .null, .int 0]) : va_E)) :: X) [.ref a]) (Qci z G W0 (fun u => u = ((a, (.inr (2, [.int 0, .ref G.2.2.1, .int 0]) : va_E)) :: X))) 0 0 (Az z) := by
  refine Met.ofW (cc := cJx4a65c_init_da8c8) (maxL := 1) (ret := none) (by decide) rfl ?_
  intro p e s m args below meth c s₁ BB hml hv
  obtain ⟨rfl, hz, hW, hE⟩ := hv
  have hx := BB.exec
  have hb := BB.bytes
  have hr := BB.returns
  have hts := atoms_spec (ws := wsJx4a65c_init_da8c8) BB.pre
  have hown : s.vm.findClass RJx4a65c = some m.cls := findClass_of_methodNamed BB.named
  have hlocks := BB.notSynchronized
  have hin : meth.name = "<init>" := (name_of_methodNamed BB.named BB.method).1
  have hS : va_S (Az z) s.heap s.heap [] := va_S.rf
  have hl := lv_entry [.ref a] (n := 1) (Nat.le_of_ble_eq_true rfl)
  rw [lg_entry_eq]
  generalize (lg_sl [.ref a] ++ List.replicate (1 - (lg_sl [.ref a]).length) Slot.unset).toArray = ls at hl ⊢
  have hl : lv_has ls 1 [(0, .ref a)] := hl
  refine lv_aload_n hx hb dJx4a65c_init_da8c8_0 rfl (lv_at hl 0 rfl) ?_
  refine k_I (rest := []) (As := []) ⟨hx, hb, hml, hown, hts⟩ hE hz hS hW (miJxc12de_init_da8c8 l z G W0 a X) (cwI 0 hts gJx4a65c_init_da8c8_Jxc12de_init_da8c8 rfl rfl rfl (hts _ (List.mem_of_getElem? (i := 5) rfl)) (hts _ (List.mem_of_getElem? (i := 3) rfl)) (hts _ (List.mem_of_getElem? (i := 4) rfl)) rfl (by decide +kernel) ⟨Nat.le_of_ble_eq_true rfl, Nat.le_of_ble_eq_true rfl⟩) rfl hl.1 rfl (Nat.le_of_ble_eq_true rfl) dJx4a65c_init_da8c8_1 ⟨Nat.le_of_ble_eq_true rfl, Nat.le_of_ble_eq_true rfl⟩ (fun u9 H locs hp hW hS => ?_)
  subst hp
  refine lv_aload_n hx hb dJx4a65c_init_da8c8_4 rfl (lv_at hl 0 rfl) ?_
  refine va_gets hx hb hE.2.1 hS hown (hts _ (List.mem_of_getElem? (i := 1) rfl)) (fun _ h => h) dJx4a65c_init_da8c8_5 ?_
  refine c_put (C := RJx4a65c) (T := TJx4a65c) (N := 3) (v := .ref G.2.2.1) (ty := .array (.object "java/lang/Object")) hx hb hts hown hE hW hS 0 rfl rfl (fun w h => List.mem_cons_of_mem _ (List.mem_append_right _ h)) tyJx4a65c_ok nmJx4a65c 1 (by decide) (List.mem_of_getElem? (i := 2) rfl) rfl rfl (by decide +kernel) rfl rfl (Nat.le_of_ble_eq_true rfl) dJx4a65c_init_da8c8_8 (fun H locs hW hS => ?_)
  have hW : CW z G W0 ((a, (.inr (2, [.int 0, .ref G.2.2.1, .int 0]) : va_E)) :: X) H := hW
  exact W.vret hx hb hr (fun t ht _ => ⟨⟨_, rfl, rfl, CW.at9 ht hW⟩, hS.F ht⟩) hS.2.2 dJx4a65c_init_da8c8_11 (hlocks := hlocks)
set_option maxHeartbeats 4000000 in
set_option maxRecDepth 100000 in
theorem miJx4a65c_clear_da8c8 (l : Launch) (z : Nat) (G : Gl) (W0 : va_W) (a : Nat) (md : Int32) (e0 : Nat) (X : va_W) : Met l yJx4a65c_clear_da8c8 wsJx4a65c_clear_da8c8 ({ frames := 0, cells := 0, slots := 0, locals := 0 } : Room) (Pci z G W0 ((a, (.inr (2, [.int md, .ref e0, .int 0]) : va_E)) :: X) [.ref a]) (Qci z G W0 (fun u => u = ((a, (.inr (2, [.int (md + 1), .ref e0, .int 0]) : va_E)) :: X))) 0 0 (Az z) := by
  refine Met.ofW (cc := cJx4a65c_clear_da8c8) (maxL := 4) (ret := none) (by decide) rfl ?_
  intro p e s m args below meth c s₁ BB hml hv
  obtain ⟨rfl, hz, hW, hE⟩ := hv
  have hx := BB.exec
  have hb := BB.bytes
  have hr := BB.returns
  have hts := atoms_spec (ws := wsJx4a65c_clear_da8c8) BB.pre
  have hown : s.vm.findClass RJx4a65c = some m.cls := findClass_of_methodNamed BB.named
  have hlocks := BB.notSynchronized
  have hS : va_S (Az z) s.heap s.heap [] := va_S.rf
  have hl := lv_entry [.ref a] (n := 4) (Nat.le_of_ble_eq_true rfl)
  rw [lg_entry_eq]
  generalize (lg_sl [.ref a] ++ List.replicate (4 - (lg_sl [.ref a]).length) Slot.unset).toArray = ls at hl ⊢
  have hl : lv_has ls 4 [(0, .ref a)] := hl
  refine lv_aload_n hx hb dJx4a65c_clear_da8c8_0 rfl (lv_at hl 0 rfl) ?_
  refine lv_dup hx hb dJx4a65c_clear_da8c8_1 rfl ?_
  refine c_get (C := RJx4a65c) (T := TJx4a65c) (N := 3) (ci := 2) hx hb hts hown hE hW 0 rfl rfl (fun w h => List.mem_cons_of_mem _ (List.mem_append_right _ h)) 0 (by decide) (List.mem_of_getElem? (i := 1) rfl) (Or.inr (List.mem_of_getElem? (i := 2) rfl)) (v := .int md) rfl dJx4a65c_clear_da8c8_2 ?_
  refine lv_iconst (v := (1 : Int32)) hx hb dJx4a65c_clear_da8c8_5 (by decide) ?_
  refine lv_iadd hx hb dJx4a65c_clear_da8c8_6 ?_
  refine c_putS (C := RJx4a65c) (T := TJx4a65c) (N := 3) (v := .int (md + 1)) (ty := .int) hx hb hts hown hE hW hS 0 rfl rfl (fun w h => List.mem_cons_of_mem _ (List.mem_append_right _ h)) tyJx4a65c_ok nmJx4a65c 0 (by decide) (List.mem_of_getElem? (i := 1) rfl) (List.mem_of_getElem? (i := 2) rfl) rfl (by decide +kernel) rfl rfl (Nat.le_of_ble_eq_true rfl) dJx4a65c_clear_da8c8_7 (fun H locs hW hS => ?_)
  have hW : CW z G W0 ((a, (.inr (2, [.int (md + 1), .ref e0, .int 0]) : va_E)) :: X) H := hW
  refine lv_aload_n hx hb dJx4a65c_clear_da8c8_10 rfl (lv_at hl 0 rfl) ?_
  refine c_get (C := RJx4a65c) (T := TJx4a65c) (N := 3) (ci := 2) hx hb hts hown hE hW 0 rfl rfl (fun w h => List.mem_cons_of_mem _ (List.mem_append_right _ h)) 1 (by decide) (List.mem_of_getElem? (i := 3) rfl) (Or.inl rfl) (v := .ref e0) rfl dJx4a65c_clear_da8c8_11 ?_
  refine lv_astore_n (lv' := [(1, .ref e0), (0, .ref a)]) hx hb dJx4a65c_clear_da8c8_14 rfl hl (by decide) rfl (fun ls hl => ?_)
  refine lv_aload_n hx hb dJx4a65c_clear_da8c8_15 rfl (lv_at hl 1 rfl) ?_
  refine c_get (C := RJx4a65c) (T := TJx4a65c) (N := 3) (ci := 2) hx hb hts hown hE hW 0 rfl rfl (fun w h => List.mem_cons_of_mem _ (List.mem_append_right _ h)) 2 (by decide) (List.mem_of_getElem? (i := 4) rfl) (Or.inl rfl) (v := .int 0) rfl dJx4a65c_clear_da8c8_16 ?_
  refine lv_istore_n (lv' := [(2, .int 0), (1, .ref e0), (0, .ref a)]) hx hb dJx4a65c_clear_da8c8_19 rfl hl (by decide) rfl (fun ls hl => ?_)
  refine lv_aload_n hx hb dJx4a65c_clear_da8c8_20 rfl (lv_at hl 2 rfl) ?_
  refine lv_iconst (v := (0 : Int32)) hx hb dJx4a65c_clear_da8c8_21 (by decide) ?_
  refine lv_dup_x1 hx hb dJx4a65c_clear_da8c8_22 rfl rfl ?_
  refine c_put (C := RJx4a65c) (T := TJx4a65c) (N := 3) (v := .int 0) (ty := .int) hx hb hts hown hE hW hS 0 rfl rfl (fun w h => List.mem_cons_of_mem _ (List.mem_append_right _ h)) tyJx4a65c_ok nmJx4a65c 2 (by decide) (List.mem_of_getElem? (i := 4) rfl) rfl rfl (by decide +kernel) rfl rfl (Nat.le_of_ble_eq_true rfl) dJx4a65c_clear_da8c8_23 (fun H locs hW hS => ?_)
  have hW : CW z G W0 ((a, (.inr (2, [.int (md + 1), .ref e0, .int 0]) : va_E)) :: X) H := hW
  refine lv_istore_n (lv' := [(3, .int 0), (2, .int 0), (1, .ref e0), (0, .ref a)]) hx hb dJx4a65c_clear_da8c8_26 rfl hl (by decide) rfl (fun ls hl => ?_)
  refine lv_iload_n hx hb dJx4a65c_clear_da8c8_27 rfl (lv_at hl 0 rfl) ?_
  refine lv_iload_n hx hb dJx4a65c_clear_da8c8_28 rfl (lv_at hl 1 rfl) ?_
  refine r_icmp_ge (tgt := 42) hx hb (show (0 : Int32).toInt = 0 by decide) (show (0 : Int32).toInt = 0 by decide) dJx4a65c_clear_da8c8_29 (by decide) (fun q => ?_) (fun q => absurd q (by decide))
  exact W.vret hx hb hr (fun t ht _ => ⟨⟨_, rfl, rfl, CW.at9 ht hW⟩, hS.F ht⟩) hS.2.2 dJx4a65c_clear_da8c8_42 (hlocks := hlocks)
