/-! The dice: a script's number, or one made of its place. Written by wip/gen25/lrows.py -/
def PcD (z : Nat) (G : Gl) (ad : Nat → Nat → Nat) (S : St) (b L : Nat) (xs : Nat → Int32) (av : List Value) : Array Value → State → Prop := va_Pc av (fun U => Bc z G ad S U ∧ va_X b L xs U U.heap ∧ b < z)
theorem va_X_same {b L : Nat} {xs : Nat → Int32} {u U : State} {H : Heap} (hvm : u.vm = U.vm) (h : va_X b L xs u H) : va_X b L xs U H := by
  obtain ⟨scr, h1, h2, h3⟩ := h
  refine ⟨scr, h1, ?_, h3⟩
  unfold State.isArrayOf at h2 ⊢
  rw [← hvm]
  exact h2
theorem PcD.blind {z : Nat} {G : Gl} {ad : Nat → Nat → Nat} {S : St} {b L : Nat} {xs : Nat → Int32} {av : List Value} : FrameBlind (PcD z G ad S b L xs av) := by
  intro a U g mk h
  obtain ⟨h1, ⟨h2, h3, h4⟩, h5, h6⟩ := h
  exact ⟨h1, ⟨h2, h3, Ev.same (u := U) rfl rfl h4⟩, va_X_same (u := U) rfl h5, h6⟩
set_option maxHeartbeats 4000000 in
set_option maxRecDepth 100000 in
theorem mtL_dice (l : Launch) (z : Nat) (G : Gl) (ad : Nat → Nat → Nat) (S : St) (b L : Nat) (xs : Nat → Int32) (k : Int32) (hL : L ≤ 260) (hk : ¬ k.toInt < 0) : Met l yL_dice wsL_dice ({ frames := 0, cells := 0, slots := 0, locals := 0 } : Room) (PcD z G ad S b L xs [.ref b, .int k]) (Qis z G ad (fun r S1 => S1 = S ∧ r = dz L xs k)) 0 0 (Az z) := by
  refine Met.ofW (cc := cL_dice) (maxL := 2) (ret := (some .int)) (by decide) rfl ?_
  intro p e s m args below meth c s₁ B hml hv
  obtain ⟨rfl, ⟨hz, hW, hE⟩, hX, hbz⟩ := hv
  have hx := B.exec
  have hb := B.bytes
  have hr := B.returns
  have hts := atoms_spec (ws := wsL_dice) B.pre
  have hown : s.vm.findClass RL = some m.cls := findClass_of_methodNamed B.named
  have hlocks := B.notSynchronized
  have hS : va_S (Az z) s.heap s.heap [] := va_S.rf
  have hl := lv_entry [.ref b, .int k] (n := 2) (Nat.le_of_ble_eq_true rfl)
  rw [lg_entry_eq]
  generalize (lg_sl [.ref b, .int k] ++ List.replicate (2 - (lg_sl [.ref b, .int k]).length) Slot.unset).toArray = ls at hl ⊢
  have hl : lv_has ls 2 [(0, .ref b), (1, .int k)] := hl
  have hbA : ¬ Az z b := fun q => absurd hbz (Nat.not_lt.mpr q)
  have hbl : b < s.heap.size := Nat.lt_of_lt_of_le hbz hz
  refine lv_iload_n hx hb dL_dice_0 rfl (lv_at hl 1 rfl) ?_
  refine lv_aload_n hx hb dL_dice_1 rfl (lv_at hl 0 rfl) ?_
  refine va_slen hx hb hX hbl hbA hS dL_dice_2 ?_
  refine r_icmp_ge hx hb rfl rfl (tgt := 12) dL_dice_3 (by decide) (fun c1 => ?_) (fun c1 => ?_)
  · refine lv_ldcI (v := (1564074407 : Int32)) hx hb hown (hts _ (List.mem_of_getElem? (i := 1) rfl)) dL_dice_12 ?_
    refine lv_iload_n hx hb dL_dice_14 rfl (lv_at hl 1 rfl) ?_
    refine lv_sipush (v := (421 : Int32)) hx hb dL_dice_15 (by decide) ?_
    refine lv_iadd hx hb dL_dice_18 ?_
    refine lv_imul hx hb dL_dice_19 ?_
    refine lv_sipush (v := (833 : Int32)) hx hb dL_dice_20 (by decide) ?_
    refine lv_iload_n hx hb dL_dice_23 rfl (lv_at hl 1 rfl) ?_
    refine lv_imul hx hb dL_dice_24 ?_
    refine lv_iload_n hx hb dL_dice_25 rfl (lv_at hl 1 rfl) ?_
    refine lv_imul hx hb dL_dice_26 ?_
    refine lv_iadd hx hb dL_dice_27 ?_
    refine lv_sipush (v := (283 : Int32)) hx hb dL_dice_28 (by decide) ?_
    refine lv_iadd hx hb dL_dice_31 ?_
    refine lv_ldcI (v := (2147483647 : Int32)) hx hb hown (hts _ (List.mem_of_getElem? (i := 2) rfl)) dL_dice_32 ?_
    refine lv_iand hx hb dL_dice_34 ?_
    have e9 : dz L xs k = ((1564074407 : Int32) * (k + 421) + 833 * k * k + 283) &&& 2147483647 := by unfold dz; rw [if_neg c1]
    rw [← e9]
    exact W.iret (v := dz L xs k) hx hb hr (fun t ht _ => ⟨⟨_, S, rfl, ⟨rfl, rfl⟩, WP.at9 ht hW⟩, hS.F ht⟩) hS.2.2 dL_dice_35 (hlocks := hlocks)
  · refine lv_aload_n hx hb dL_dice_6 rfl (lv_at hl 0 rfl) ?_
    refine lv_iload_n hx hb dL_dice_7 rfl (lv_at hl 1 rfl) ?_
    refine va_sld hx hb hX hbl hbA hS (dz_in hL hk c1) dL_dice_8 ?_
    refine lv_goto (tgt := 32) hx hb dL_dice_9 (by decide) ?_
    refine lv_ldcI (v := (2147483647 : Int32)) hx hb hown (hts _ (List.mem_of_getElem? (i := 2) rfl)) dL_dice_32 ?_
    refine lv_iand hx hb dL_dice_34 ?_
    have e9 : dz L xs k = xs k.toNatClampNeg &&& 2147483647 := by unfold dz; rw [if_pos c1]
    rw [← e9]
    exact W.iret (v := dz L xs k) hx hb hr (fun t ht _ => ⟨⟨_, S, rfl, ⟨rfl, rfl⟩, WP.at9 ht hW⟩, hS.F ht⟩) hS.2.2 dL_dice_35 (hlocks := hlocks)
/-- what stands through the law -/
def LCX (p : Program) (l : Launch) (e : Env) (s : State) (m : MethodId) (below : List Frame) (meth : Method) (c : Code) (b L : Nat) (xs : Nat → Int32) (z : Nat) (G : Gl) : Prop :=
  p.tables.exec = Jvm.exec ∧ c.code = cL_law ∧ c.maxLocals = 23 ∧ s.vm.findClass RL = some m.cls ∧ (∀ w ∈ wsL_law, w.before #[Value.ref b] s = true) ∧ Ev z G s ∧ z ≤ s.heap.size ∧ l.stackTraces = false ∧ va_X b L xs s s.heap ∧ b < s.heap.size ∧ ¬ Az z b ∧ L ≤ 260 ∧ meth.sig.returnType = ret ∧ meth.locks = false ∧ z = s.heap.size
theorem r_dice {p : Program} {l : Launch} {e : Env} {s : State} {m : MethodId} {below : List Frame} {meth : Method} {c : Code} {b L : Nat} {xs : Nat → Int32} {z : Nat} {G : Gl} (X : LCX p l e s m below meth c b L xs z G) {Q : State → Prop} {S : St} {ad : Nat → Nat → Nat} {H : Heap} {locs : List Loc} {ls : Array Slot} {cells slots pc : Nat} {rest st0 : List Value} {k : Int32} (hW : WP z G ad S H) (hS : va_S (Az z) s.heap H locs) (hst : st0 = .int k :: .ref b :: rest) (hsz : ls.size = 23) (hrm : (rest.map fun v => v.category).sum ≤ 8) (hk : ¬ k.toInt < 0) (hdg : decode cL_law pc = .ok (.invokestatic 130, 3)) (hf : cells ≤ 600104 ∧ slots ≤ 7301314)
    (kk : ∀ (H1 : Heap) (locs1 : List Loc), WP z G ad S H1 → va_S (Az z) s.heap H1 locs1 → W p l e room_1 s m #[Value.ref b] below meth c H1 locs1 cells slots Q (F0 m (pc + 3) ls (.int (dz L xs k) :: rest))) : W p l e room_1 s m #[Value.ref b] below meth c H locs cells slots Q (F0 m pc ls st0) := by
  obtain ⟨hx, hb, hml, hown, hts, hE, hz, hlt, hX, hbl, hbA, hL, hr, hlocks, hze⟩ := id X
  subst hst
  have hbz : b < z := Nat.not_le.mp hbA
  refine va_calli (va_runS (As := [.ref b, .int k]) (rest := rest) ⟨hx, hb, hml, hown, hts⟩ (mtL_dice l z G ad S b L xs k hL hk) (va_cwS 2 hts gL_law_L_dice rfl rfl rfl (by decide +kernel) ⟨Nat.le_of_ble_eq_true rfl, Nat.le_of_ble_eq_true rfl⟩) ⟨PcD.blind, fun U hU hw => ⟨rfl, Bc.of hE hz hW hS hU hw, ?_, hbz⟩⟩ rfl rfl hsz rfl (lv_room hrm) hdg ⟨hf.1, hf.2⟩) hS (fun _ _ h => h) (fun _ h => h) (fun r u t H1 locs1 ht _ hp hB _ _ hS1 => ?_)
  · have h1 : va_X b L xs s H := hX.kept (hS.2.1 b hbl hbA)
    rw [hU]
    exact h1.moved hw.alike
  · obtain ⟨rfl, rfl⟩ := hp
    exact kk H1 locs1 (by rw [← ht]; exact hB) hS1
