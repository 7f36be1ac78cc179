/-! method by method: what it asks of the state (wp), and its walk. Written by wip/gen/gen.py -/
set_option maxHeartbeats 4000000 in
set_option maxRecDepth 100000 in
theorem mtX6_pass (l : Launch) (hlt : l.stackTraces = false) (z : Nat) (G : Gl) (ad : Nat → Nat → Nat) (σ : SG) (ν : NU) (ρ : RH) (lo : Int64) (p1 : Int32) (post : Int32 → SG → Prop) (px : String → SG → Prop) (h : wpX6_pass σ ν p1 post px) : vx_Met l yX6_pass wsX6_pass ({ frames := 6, cells := 1, slots := 6, locals := 82 } : Room) (Pcs z G ad (σ, ν, ρ, lo) [.ref (ad 0 0), .int p1]) (Qis z G ad (fun r S1 => ∃ t : SG, S1 = (t, ν, ρ, lo) ∧ post r t)) (XCs z G ad (fun E S1 => ∃ t : SG, S1 = (t, ν, ρ, lo) ∧ px E t)) 1 6 (Az z) := by
  refine vx_ofW (cc := cX6_pass) (maxL := 2) (ret := (some .int)) (by decide) rfl ?_
  intro p e s m args below meth c s₁ B hml htb hv
  obtain ⟨rfl, hz, hW, hE⟩ := hv
  have hx := B.exec
  have hb := B.bytes
  have hr := B.returns
  have hts := atoms_spec (ws := wsX6_pass) B.pre
  have hown : s.vm.findClass RX6 = some m.cls := findClass_of_methodNamed B.named
  have hlocks := B.notSynchronized
  have X : Cxx p l e s m _ below meth c cX6_pass (some .int) 2 RX6 wsX6_pass z G := ⟨hx, hb, hr, hml, hown, hts, hlocks, hE, hz, htb, hlt⟩
  have hS : va_S (Az z) s.heap s.heap [] := va_S.rf
  have hl := lv_entry [.ref (ad 0 0), .int p1] (n := 2) (Nat.le_of_ble_eq_true rfl)
  rw [lg_entry_eq]
  generalize (lg_sl [.ref (ad 0 0), .int p1] ++ List.replicate (2 - (lg_sl [.ref (ad 0 0), .int p1]).length) Slot.unset).toArray = ls at hl ⊢
  have hl : lv_has ls 2 [(0, .ref (ad 0 0)), (1, .int p1)] := hl
  unfold wpX6_pass at h
  refine lv_iload_n hx hb dX6_pass_0 rfl (lv_at hl 1 rfl) ?_
  refine lv_iconst (v := (1 : Int32)) hx hb dX6_pass_1 (by decide) ?_
  refine r_icmp_lt hx hb rfl (show (1 : Int32).toInt = 1 by decide) (tgt := 12) dX6_pass_2 (by decide) (fun c1 => ?_) (fun c1 => ?_)
  · have h := ite_t c1 h
    exact r_throw (k := 0) (k2 := 2) (cls := "java/lang/IllegalArgumentException") (ik := 53) (is := 55) (ic := 57) (text := "days is out of range") hx hb hlt hts hown hml hlocks htb hE hW hS hl.1 (List.mem_of_getElem? (i := 1) rfl) (List.mem_of_getElem? (i := 2) rfl) (fun w h => List.mem_cons_of_mem _ (List.mem_append_left _ (List.mem_append_right _ h))) rfl rfl (by decide +kernel) (by decide +kernel) rfl dX6_pass_12 dX6_pass_15 dX6_pass_16 dX6_pass_18 dX6_pass_21 (Nat.le_of_ble_eq_true rfl) (Nat.le_of_ble_eq_true rfl) (Nat.le_of_ble_eq_true rfl) (Nat.le_of_ble_eq_true rfl) (Nat.le_of_ble_eq_true rfl) (Nat.le_of_ble_eq_true rfl) ⟨_, rfl, h⟩
  · have h := ite_f c1 h
    refine lv_iload_n hx hb dX6_pass_5 rfl (lv_at hl 1 rfl) ?_
    refine lv_sipush (v := (500 : Int32)) hx hb dX6_pass_6 (by decide) ?_
    refine r_icmp_le hx hb rfl (show (500 : Int32).toInt = 500 by decide) (tgt := 22) dX6_pass_9 (by decide) (fun c2 => ?_) (fun c2 => ?_)
    · have h := ite_t c2 h
      refine lv_aload_n hx hb dX6_pass_22 rfl (lv_at hl 0 rfl) ?_
      refine r_get (C := RX6) (T := TX6) (N := 8) (ci := 9) (fs := fl_0 ad ν ρ 0 (σ 0 0)) hx hb hts hown hE hW 0 0 rfl rfl rfl (fun w h => List.mem_cons_of_mem _ (List.mem_append_left _ (List.mem_append_left _ (List.mem_append_right _ h)))) 4 (by decide) (List.mem_of_getElem? (i := 5) rfl) rfl (v := .int (σ 0 0 4)) rfl dX6_pass_23 ?_
      refine lv_iload_n hx hb dX6_pass_26 rfl (lv_at hl 1 rfl) ?_
      refine lv_iadd hx hb dX6_pass_27 ?_
      refine lv_sipush (v := (5000 : Int32)) hx hb dX6_pass_28 (by decide) ?_
      refine r_icmp_le hx hb rfl (show (5000 : Int32).toInt = 5000 by decide) (tgt := 44) dX6_pass_31 (by decide) (fun c3 => ?_) (fun c3 => ?_)
      · have h := ite_t c3 h
        refine lv_aload_n hx hb dX6_pass_44 rfl (lv_at hl 0 rfl) ?_
        refine lv_dup hx hb dX6_pass_45 rfl ?_
        refine r_get (C := RX6) (T := TX6) (N := 8) (ci := 9) (fs := fl_0 ad ν ρ 0 (σ 0 0)) hx hb hts hown hE hW 0 0 rfl rfl rfl (fun w h => List.mem_cons_of_mem _ (List.mem_append_left _ (List.mem_append_left _ (List.mem_append_right _ h)))) 4 (by decide) (List.mem_of_getElem? (i := 5) rfl) rfl (v := .int (σ 0 0 4)) rfl dX6_pass_46 ?_
        refine lv_iload_n hx hb dX6_pass_49 rfl (lv_at hl 1 rfl) ?_
        refine lv_iadd hx hb dX6_pass_50 ?_
        refine r_putC (C := RX6) (T := TX6) (N := 8) (ci := 9) (fl := fl_0 ad ν ρ 0) hx hb hts hown hE hW hS 0 0 rfl (fun _ => rfl) rfl (fun w h => List.mem_cons_of_mem _ (List.mem_append_left _ (List.mem_append_left _ (List.mem_append_right _ h)))) tyX6_ok nmX6 4 (by decide) (List.mem_of_getElem? (i := 5) rfl) rfl rfl rfl (Nat.le_of_ble_eq_true rfl) (x := (σ 0 0 4) + p1) rfl dX6_pass_51 (fun t4 e5 H locs hW hS => ?_)
        have h := h t4 e5
        refine lv_aload_n hx hb dX6_pass_54 rfl (lv_at hl 0 rfl) ?_
        refine r_get (C := RX6) (T := TX6) (N := 8) (ci := 9) (fs := fl_0 ad ν ρ 0 (t4 0 0)) hx hb hts hown hE hW 0 0 rfl rfl rfl (fun w h => List.mem_cons_of_mem _ (List.mem_append_left _ (List.mem_append_left _ (List.mem_append_right _ h)))) 4 (by decide) (List.mem_of_getElem? (i := 5) rfl) rfl (v := .int (t4 0 0 4)) rfl dX6_pass_55 ?_
        refine W.widen (k := 1) (n := 6) (Nat.le_of_ble_eq_true rfl) (Nat.le_of_ble_eq_true rfl) ?_
        refine vx_ret ?_
        exact W.iret (v := t4 0 0 4) hx hb hr (fun t ht _ => ⟨⟨_, (t4, ν, ρ, lo), rfl, ⟨_, rfl, h⟩, WP.at9 ht hW⟩, hS.F ht⟩) hS.2.2 dX6_pass_58 (hlocks := hlocks)
      · have h := ite_f c3 h
        exact r_throw (k := 1) (k2 := 3) (cls := "java/lang/IllegalStateException") (ik := 60) (is := 62) (ic := 64) (text := "the days end") hx hb hlt hts hown hml hlocks htb hE hW hS hl.1 (List.mem_of_getElem? (i := 3) rfl) (List.mem_of_getElem? (i := 4) rfl) (fun w h => List.mem_cons_of_mem _ (List.mem_append_right _ h)) rfl rfl (by decide +kernel) (by decide +kernel) rfl dX6_pass_34 dX6_pass_37 dX6_pass_38 dX6_pass_40 dX6_pass_43 (Nat.le_of_ble_eq_true rfl) (Nat.le_of_ble_eq_true rfl) (Nat.le_of_ble_eq_true rfl) (Nat.le_of_ble_eq_true rfl) (Nat.le_of_ble_eq_true rfl) (Nat.le_of_ble_eq_true rfl) ⟨_, rfl, h⟩
    · have h := ite_f c2 h
      exact r_throw (k := 0) (k2 := 2) (cls := "java/lang/IllegalArgumentException") (ik := 53) (is := 55) (ic := 57) (text := "days is out of range") hx hb hlt hts hown hml hlocks htb hE hW hS hl.1 (List.mem_of_getElem? (i := 1) rfl) (List.mem_of_getElem? (i := 2) rfl) (fun w h => List.mem_cons_of_mem _ (List.mem_append_left _ (List.mem_append_right _ h))) rfl rfl (by decide +kernel) (by decide +kernel) rfl dX6_pass_12 dX6_pass_15 dX6_pass_16 dX6_pass_18 dX6_pass_21 (Nat.le_of_ble_eq_true rfl) (Nat.le_of_ble_eq_true rfl) (Nat.le_of_ble_eq_true rfl) (Nat.le_of_ble_eq_true rfl) (Nat.le_of_ble_eq_true rfl) (Nat.le_of_ble_eq_true rfl) ⟨_, rfl, h⟩
set_option maxHeartbeats 4000000 in
set_option maxRecDepth 100000 in
theorem mtX6_act (l : Launch) (hlt : l.stackTraces = false) (z : Nat) (G : Gl) (ad : Nat → Nat → Nat) (σ : SG) (ν : NU) (ρ : RH) (lo : Int64)  (post : Int32 → SG → Prop) (px : String → SG → Prop) (h : wpX6_act σ ν  post px) : vx_Met l yX6_act wsX6_act ({ frames := 6, cells := 1, slots := 6, locals := 82 } : Room) (Pcs z G ad (σ, ν, ρ, lo) [.ref (ad 0 0)]) (Qis z G ad (fun r S1 => ∃ t : SG, S1 = (t, ν, ρ, lo) ∧ post r t)) (XCs z G ad (fun E S1 => ∃ t : SG, S1 = (t, ν, ρ, lo) ∧ px E t)) 1 6 (Az z) := by
  refine vx_ofW (cc := cX6_act) (maxL := 1) (ret := (some .int)) (by decide) rfl ?_
  intro p e s m args below meth c s₁ B hml htb hv
  obtain ⟨rfl, hz, hW, hE⟩ := hv
  have hx := B.exec
  have hb := B.bytes
  have hr := B.returns
  have hts := atoms_spec (ws := wsX6_act) B.pre
  have hown : s.vm.findClass RX6 = some m.cls := findClass_of_methodNamed B.named
  have hlocks := B.notSynchronized
  have X : Cxx p l e s m _ below meth c cX6_act (some .int) 1 RX6 wsX6_act z G := ⟨hx, hb, hr, hml, hown, hts, hlocks, hE, hz, htb, hlt⟩
  have hS : va_S (Az z) s.heap s.heap [] := va_S.rf
  have hl := lv_entry [.ref (ad 0 0)] (n := 1) (Nat.le_of_ble_eq_true rfl)
  rw [lg_entry_eq]
  generalize (lg_sl [.ref (ad 0 0)] ++ List.replicate (1 - (lg_sl [.ref (ad 0 0)]).length) Slot.unset).toArray = ls at hl ⊢
  have hl : lv_has ls 1 [(0, .ref (ad 0 0))] := hl
  unfold wpX6_act at h
  refine lv_aload_n hx hb dX6_act_0 rfl (lv_at hl 0 rfl) ?_
  refine r_get (C := RX6) (T := TX6) (N := 8) (ci := 9) (fs := fl_0 ad ν ρ 0 (σ 0 0)) hx hb hts hown hE hW 0 0 rfl rfl rfl (fun w h => List.mem_cons_of_mem _ (List.mem_append_left _ (List.mem_append_right _ h))) 5 (by decide) (List.mem_of_getElem? (i := 3) rfl) rfl (v := .int (σ 0 0 5)) rfl dX6_act_1 ?_
  refine lv_bipush (v := (10 : Int32)) hx hb dX6_act_4 (by decide) ?_
  refine r_icmp_lt hx hb rfl (show (10 : Int32).toInt = 10 by decide) (tgt := 19) dX6_act_6 (by decide) (fun c1 => ?_) (fun c1 => ?_)
  · have h := ite_t c1 h
    refine lv_aload_n hx hb dX6_act_19 rfl (lv_at hl 0 rfl) ?_
    refine lv_aload_n hx hb dX6_act_20 rfl (lv_at hl 0 rfl) ?_
    refine r_get (C := RX6) (T := TX6) (N := 8) (ci := 9) (fs := fl_0 ad ν ρ 0 (σ 0 0)) hx hb hts hown hE hW 0 0 rfl rfl rfl (fun w h => List.mem_cons_of_mem _ (List.mem_append_left _ (List.mem_append_right _ h))) 4 (by decide) (List.mem_of_getElem? (i := 4) rfl) rfl (v := .int (σ 0 0 4)) rfl dX6_act_21 ?_
    refine r_putC (C := RX6) (T := TX6) (N := 8) (ci := 9) (fl := fl_0 ad ν ρ 0) hx hb hts hown hE hW hS 0 0 rfl (fun _ => rfl) rfl (fun w h => List.mem_cons_of_mem _ (List.mem_append_left _ (List.mem_append_right _ h))) tyX6_ok nmX6 6 (by decide) (List.mem_of_getElem? (i := 5) rfl) rfl rfl rfl (Nat.le_of_ble_eq_true rfl) (x := σ 0 0 4) rfl dX6_act_24 (fun t2 e3 H locs hW hS => ?_)
    have h := h t2 e3
    refine lv_aload_n hx hb dX6_act_27 rfl (lv_at hl 0 rfl) ?_
    refine lv_dup hx hb dX6_act_28 rfl ?_
    refine r_get (C := RX6) (T := TX6) (N := 8) (ci := 9) (fs := fl_0 ad ν ρ 0 (t2 0 0)) hx hb hts hown hE hW 0 0 rfl rfl rfl (fun w h => List.mem_cons_of_mem _ (List.mem_append_left _ (List.mem_append_right _ h))) 5 (by decide) (List.mem_of_getElem? (i := 3) rfl) rfl (v := .int (t2 0 0 5)) rfl dX6_act_29 ?_
    refine lv_iconst (v := (1 : Int32)) hx hb dX6_act_32 (by decide) ?_
    refine lv_iadd hx hb dX6_act_33 ?_
    refine r_putC (C := RX6) (T := TX6) (N := 8) (ci := 9) (fl := fl_0 ad ν ρ 0) hx hb hts hown hE hW hS 0 0 rfl (fun _ => rfl) rfl (fun w h => List.mem_cons_of_mem _ (List.mem_append_left _ (List.mem_append_right _ h))) tyX6_ok nmX6 5 (by decide) (List.mem_of_getElem? (i := 3) rfl) rfl rfl rfl (Nat.le_of_ble_eq_true rfl) (x := (t2 0 0 5) + ((1 : Int32))) rfl dX6_act_34 (fun t4 e5 H locs hW hS => ?_)
    have h := h t4 e5
    refine lv_aload_n hx hb dX6_act_37 rfl (lv_at hl 0 rfl) ?_
    refine r_get (C := RX6) (T := TX6) (N := 8) (ci := 9) (fs := fl_0 ad ν ρ 0 (t4 0 0)) hx hb hts hown hE hW 0 0 rfl rfl rfl (fun w h => List.mem_cons_of_mem _ (List.mem_append_left _ (List.mem_append_right _ h))) 5 (by decide) (List.mem_of_getElem? (i := 3) rfl) rfl (v := .int (t4 0 0 5)) rfl dX6_act_38 ?_
    refine lv_iconst (v := (1 : Int32)) hx hb dX6_act_41 (by decide) ?_
    refine lv_isub hx hb dX6_act_42 ?_
    refine W.widen (k := 1) (n := 6) (Nat.le_of_ble_eq_true rfl) (Nat.le_of_ble_eq_true rfl) ?_
    refine vx_ret ?_
    exact W.iret (v := (t4 0 0 5) - ((1 : Int32))) hx hb hr (fun t ht _ => ⟨⟨_, (t4, ν, ρ, lo), rfl, ⟨_, rfl, h⟩, WP.at9 ht hW⟩, hS.F ht⟩) hS.2.2 dX6_act_43 (hlocks := hlocks)
  · have h := ite_f c1 h
    exact r_throw (k := 2) (k2 := 3) (cls := "java/lang/IllegalStateException") (ik := 60) (is := 65) (ic := 64) (text := "no more acts") hx hb hlt hts hown hml hlocks htb hE hW hS hl.1 (List.mem_of_getElem? (i := 1) rfl) (List.mem_of_getElem? (i := 2) rfl) (fun w h => List.mem_cons_of_mem _ (List.mem_append_right _ h)) rfl rfl (by decide +kernel) (by decide +kernel) rfl dX6_act_9 dX6_act_12 dX6_act_13 dX6_act_15 dX6_act_18 (Nat.le_of_ble_eq_true rfl) (Nat.le_of_ble_eq_true rfl) (Nat.le_of_ble_eq_true rfl) (Nat.le_of_ble_eq_true rfl) (Nat.le_of_ble_eq_true rfl) (Nat.le_of_ble_eq_true rfl) ⟨_, rfl, h⟩
set_option maxHeartbeats 4000000 in
set_option maxRecDepth 100000 in
theorem mtX6_needInstruction (l : Launch) (hlt : l.stackTraces = false) (z : Nat) (G : Gl) (ad : Nat → Nat → Nat) (σ : SG) (ν : NU) (ρ : RH) (lo : Int64) (p1 : Int32) (post : Nat → Prop) (px : String → Prop) (h : wpX6_needInstruction σ ν p1 post px) : vx_Met l yX6_needInstruction wsX6_needInstruction ({ frames := 6, cells := 1, slots := 6, locals := 82 } : Room) (Pcs z G ad (σ, ν, ρ, lo) [.ref (ad 0 0), .int p1]) (Qrs z G ad 3 (fun r S1 => S1 = (σ, ν, ρ, lo) ∧ post r)) (XCs z G ad (fun E S1 => S1 = (σ, ν, ρ, lo) ∧ px E)) 1 6 (Az z) := by
  refine vx_ofW (cc := cX6_needInstruction) (maxL := 2) (ret := (some (.object "Amendmark$Instruction"))) (by decide) rfl ?_
  intro p e s m args below meth c s₁ B hml htb hv
  obtain ⟨rfl, hz, hW, hE⟩ := hv
  have hx := B.exec
  have hb := B.bytes
  have hr := B.returns
  have hts := atoms_spec (ws := wsX6_needInstruction) B.pre
  have hown : s.vm.findClass RX6 = some m.cls := findClass_of_methodNamed B.named
  have hlocks := B.notSynchronized
  have X : Cxx p l e s m _ below meth c cX6_needInstruction (some (.object "Amendmark$Instruction")) 2 RX6 wsX6_needInstruction z G := ⟨hx, hb, hr, hml, hown, hts, hlocks, hE, hz, htb, hlt⟩
  have hS : va_S (Az z) s.heap s.heap [] := va_S.rf
  have hl := lv_entry [.ref (ad 0 0), .int p1] (n := 2) (Nat.le_of_ble_eq_true rfl)
  rw [lg_entry_eq]
  generalize (lg_sl [.ref (ad 0 0), .int p1] ++ List.replicate (2 - (lg_sl [.ref (ad 0 0), .int p1]).length) Slot.unset).toArray = ls at hl ⊢
  have hl : lv_has ls 2 [(0, .ref (ad 0 0)), (1, .int p1)] := hl
  unfold wpX6_needInstruction at h
  refine lv_iload_n hx hb dX6_needInstruction_0 rfl (lv_at hl 1 rfl) ?_
  refine r_if_lt hx hb rfl (tgt := 15) dX6_needInstruction_1 (by decide) (fun c1 => ?_) (fun c1 => ?_)
  · have h := ite_t c1 h
    exact r_throw (k := 18) (k2 := 4) (cls := "java/lang/IndexOutOfBoundsException") (ik := 189) (is := 241) (ic := 193) (text := "there is no such instruction") hx hb hlt hts hown hml hlocks htb hE hW hS hl.1 (List.mem_of_getElem? (i := 1) rfl) (List.mem_of_getElem? (i := 2) rfl) (fun w h => List.mem_cons_of_mem _ (List.mem_append_right _ h)) rfl rfl (by decide +kernel) (by decide +kernel) rfl dX6_needInstruction_15 dX6_needInstruction_18 dX6_needInstruction_19 dX6_needInstruction_21 dX6_needInstruction_24 (Nat.le_of_ble_eq_true rfl) (Nat.le_of_ble_eq_true rfl) (Nat.le_of_ble_eq_true rfl) (Nat.le_of_ble_eq_true rfl) (Nat.le_of_ble_eq_true rfl) (Nat.le_of_ble_eq_true rfl) ⟨rfl, h⟩
  · have h := ite_f c1 h
    refine lv_iload_n hx hb dX6_needInstruction_4 rfl (lv_at hl 1 rfl) ?_
    refine lv_aload_n hx hb dX6_needInstruction_5 rfl (lv_at hl 0 rfl) ?_
    refine r_get (C := RX6) (T := TX6) (N := 8) (ci := 9) (fs := fl_0 ad ν ρ 0 (σ 0 0)) hx hb hts hown hE hW 0 0 rfl rfl rfl (fun w h => List.mem_cons_of_mem _ (List.mem_append_left _ (List.mem_append_left _ (List.mem_append_right _ h)))) 0 (by decide) (List.mem_of_getElem? (i := 3) rfl) rfl (v := .ref (ad 7 0)) rfl dX6_needInstruction_6 ?_
    refine k_Vi (rest := [.int p1]) (As := []) ⟨hx, hb, hml, hown, hts⟩ hE hz hS hW (mtJx4a65c_size_8abf5 l z G ad σ ν ρ lo 0 _ h) (cwV 0 hts gX6_needInstruction_Jx4a65c_size_8abf5 rfl rfl rfl (by decide +kernel) ⟨Nat.le_of_ble_eq_true rfl, Nat.le_of_ble_eq_true rfl⟩) (r_recv hE hW 7 0 (show 0 < 3 by decide) (ci := 2) rfl rfl) rfl hl.1 rfl (Nat.le_of_ble_eq_true rfl) dX6_needInstruction_9 ⟨Nat.le_of_ble_eq_true rfl, Nat.le_of_ble_eq_true rfl⟩ (fun r2 S1 H locs hp hW hS => ?_)
    obtain ⟨rfl, h⟩ := hp
    refine r_icmp_lt hx hb rfl rfl (tgt := 25) dX6_needInstruction_12 (by decide) (fun c3 => ?_) (fun c3 => ?_)
    · have h := ite_t c3 h
      refine lv_aload_n hx hb dX6_needInstruction_25 rfl (lv_at hl 0 rfl) ?_
      refine r_get (C := RX6) (T := TX6) (N := 8) (ci := 9) (fs := fl_0 ad ν ρ 0 (σ 0 0)) hx hb hts hown hE hW 0 0 rfl rfl rfl (fun w h => List.mem_cons_of_mem _ (List.mem_append_left _ (List.mem_append_left _ (List.mem_append_right _ h)))) 0 (by decide) (List.mem_of_getElem? (i := 3) rfl) rfl (v := .ref (ad 7 0)) rfl dX6_needInstruction_26 ?_
      refine lv_iload_n hx hb dX6_needInstruction_29 rfl (lv_at hl 1 rfl) ?_
      refine k_Vr (rest := []) (As := [.int p1]) ⟨hx, hb, hml, hown, hts⟩ hE hz hS hW (mtJx4a65c_get_915e3 l z G ad σ ν ρ lo 0 p1 _ h) (cwV 1 hts gX6_needInstruction_Jx4a65c_get_915e3 rfl rfl rfl (by decide +kernel) ⟨Nat.le_of_ble_eq_true rfl, Nat.le_of_ble_eq_true rfl⟩) (r_recv hE hW 7 0 (show 0 < 3 by decide) (ci := 2) rfl rfl) rfl hl.1 rfl (Nat.le_of_ble_eq_true rfl) dX6_needInstruction_30 ⟨Nat.le_of_ble_eq_true rfl, Nat.le_of_ble_eq_true rfl⟩ (fun r4 S1 H locs hp hW hS => ?_)
      obtain ⟨rfl, h⟩ := hp
      obtain ⟨g5, h⟩ := h
      refine r_cast hx hb hts hown hE hW r4 g5 (List.mem_of_getElem? (i := 4) rfl) dX6_needInstruction_33 ?_
      refine W.widen (k := 1) (n := 6) (Nat.le_of_ble_eq_true rfl) (Nat.le_of_ble_eq_true rfl) ?_
      refine vx_ret ?_
      exact W.aret hx hb hr (Or.inl ⟨_, rfl⟩) (Or.inr ⟨_, rfl⟩) (fun t ht _ => ⟨⟨((σ, ν, ρ, lo), r4), _, rfl, ⟨rfl, h⟩, rfl, WP.at9 ht hW⟩, hS.F ht⟩) hS.2.2 dX6_needInstruction_36 (hlocks := hlocks)
    · have h := ite_f c3 h
      exact r_throw (k := 18) (k2 := 4) (cls := "java/lang/IndexOutOfBoundsException") (ik := 189) (is := 241) (ic := 193) (text := "there is no such instruction") hx hb hlt hts hown hml hlocks htb hE hW hS hl.1 (List.mem_of_getElem? (i := 1) rfl) (List.mem_of_getElem? (i := 2) rfl) (fun w h => List.mem_cons_of_mem _ (List.mem_append_right _ h)) rfl rfl (by decide +kernel) (by decide +kernel) rfl dX6_needInstruction_15 dX6_needInstruction_18 dX6_needInstruction_19 dX6_needInstruction_21 dX6_needInstruction_24 (Nat.le_of_ble_eq_true rfl) (Nat.le_of_ble_eq_true rfl) (Nat.le_of_ble_eq_true rfl) (Nat.le_of_ble_eq_true rfl) (Nat.le_of_ble_eq_true rfl) (Nat.le_of_ble_eq_true rfl) ⟨rfl, h⟩
set_option maxHeartbeats 4000000 in
set_option maxRecDepth 100000 in
theorem mtX6_needDay (l : Launch) (hlt : l.stackTraces = false) (z : Nat) (G : Gl) (ad : Nat → Nat → Nat) (σ : SG) (ν : NU) (ρ : RH) (lo : Int64) (p0 : Int32) (post : Prop) (px : String → Prop) (h : wpX6_needDay σ ν p0 post px) : vx_Met l yX6_needDay wsX6_needDay ({ frames := 6, cells := 1, slots := 6, locals := 82 } : Room) (Pcs z G ad (σ, ν, ρ, lo) [.int p0]) (Qvs z G ad (fun S1 => S1 = (σ, ν, ρ, lo) ∧ post)) (XCs z G ad (fun E S1 => S1 = (σ, ν, ρ, lo) ∧ px E)) 1 6 (Az z) := by
  refine vx_ofW (cc := cX6_needDay) (maxL := 1) (ret := none) (by decide) rfl ?_
  intro p e s m args below meth c s₁ B hml htb hv
  obtain ⟨rfl, hz, hW, hE⟩ := hv
  have hx := B.exec
  have hb := B.bytes
  have hr := B.returns
  have hts := atoms_spec (ws := wsX6_needDay) B.pre
  have hown : s.vm.findClass RX6 = some m.cls := findClass_of_methodNamed B.named
  have hlocks := B.notSynchronized
  have X : Cxx p l e s m _ below meth c cX6_needDay none 1 RX6 wsX6_needDay z G := ⟨hx, hb, hr, hml, hown, hts, hlocks, hE, hz, htb, hlt⟩
  have hS : va_S (Az z) s.heap s.heap [] := va_S.rf
  have hl := lv_entry [.int p0] (n := 1) (Nat.le_of_ble_eq_true rfl)
  rw [lg_entry_eq]
  generalize (lg_sl [.int p0] ++ List.replicate (1 - (lg_sl [.int p0]).length) Slot.unset).toArray = ls at hl ⊢
  have hl : lv_has ls 1 [(0, .int p0)] := hl
  unfold wpX6_needDay at h
  refine lv_iload_n hx hb dX6_needDay_0 rfl (lv_at hl 0 rfl) ?_
  refine r_if_lt hx hb rfl (tgt := 11) dX6_needDay_1 (by decide) (fun c1 => ?_) (fun c1 => ?_)
  · have h := ite_t c1 h
    exact r_throw (k := 20) (k2 := 2) (cls := "java/lang/IllegalArgumentException") (ik := 53) (is := 249) (ic := 57) (text := "a day is out of range") hx hb hlt hts hown hml hlocks htb hE hW hS hl.1 (List.mem_of_getElem? (i := 1) rfl) (List.mem_of_getElem? (i := 2) rfl) (fun w h => List.mem_cons_of_mem _ (List.mem_append_right _ h)) rfl rfl (by decide +kernel) (by decide +kernel) rfl dX6_needDay_11 dX6_needDay_14 dX6_needDay_15 dX6_needDay_17 dX6_needDay_20 (Nat.le_of_ble_eq_true rfl) (Nat.le_of_ble_eq_true rfl) (Nat.le_of_ble_eq_true rfl) (Nat.le_of_ble_eq_true rfl) (Nat.le_of_ble_eq_true rfl) (Nat.le_of_ble_eq_true rfl) ⟨rfl, h⟩
  · have h := ite_f c1 h
    refine lv_iload_n hx hb dX6_needDay_4 rfl (lv_at hl 0 rfl) ?_
    refine lv_sipush (v := (5000 : Int32)) hx hb dX6_needDay_5 (by decide) ?_
    refine r_icmp_le hx hb rfl (show (5000 : Int32).toInt = 5000 by decide) (tgt := 21) dX6_needDay_8 (by decide) (fun c2 => ?_) (fun c2 => ?_)
    · have h := ite_t c2 h
      refine W.widen (k := 1) (n := 6) (Nat.le_of_ble_eq_true rfl) (Nat.le_of_ble_eq_true rfl) ?_
      refine vx_ret ?_
      exact W.vret hx hb hr (fun t ht _ => ⟨⟨(σ, ν, ρ, lo), rfl, ⟨rfl, h⟩, WP.at9 ht hW⟩, hS.F ht⟩) hS.2.2 dX6_needDay_21 (hlocks := hlocks)
    · have h := ite_f c2 h
      exact r_throw (k := 20) (k2 := 2) (cls := "java/lang/IllegalArgumentException") (ik := 53) (is := 249) (ic := 57) (text := "a day is out of range") hx hb hlt hts hown hml hlocks htb hE hW hS hl.1 (List.mem_of_getElem? (i := 1) rfl) (List.mem_of_getElem? (i := 2) rfl) (fun w h => List.mem_cons_of_mem _ (List.mem_append_right _ h)) rfl rfl (by decide +kernel) (by decide +kernel) rfl dX6_needDay_11 dX6_needDay_14 dX6_needDay_15 dX6_needDay_17 dX6_needDay_20 (Nat.le_of_ble_eq_true rfl) (Nat.le_of_ble_eq_true rfl) (Nat.le_of_ble_eq_true rfl) (Nat.le_of_ble_eq_true rfl) (Nat.le_of_ble_eq_true rfl) (Nat.le_of_ble_eq_true rfl) ⟨rfl, h⟩
set_option maxHeartbeats 4000000 in
set_option maxRecDepth 100000 in
theorem tX6_terms_38 {p : Program} {l : Launch} {e : Env} {s : State} {m : MethodId} {args : Array Value} {below : List Frame} {meth : Method} {c : Code} {z : Nat} {G : Gl} {ad : Nat → Nat → Nat} {σ : SG} {ν : NU} {ρ : RH} {lo : Int64} (X : Cxx p l e s m args below meth c cX6_terms none 5 RX6 wsX6_terms z G) (p1 : Int32) (p2 : Int32) (p3 : Int32) (p4 : Int32)  (post : SG → NU → Prop) (px : String → Prop) : ∀  {H : Heap} {locs : List Loc} {ls : Array Slot}, WP z G ad (σ, ν, ρ, lo) H → va_S (Az z) s.heap H locs → lv_has ls 5 [(0, .ref (ad 0 0)), (1, .int p1), (2, .int p2), (3, .int p3), (4, .int p4)] → jX6_terms_38 p1 p2 p3 p4 post px σ ν → W p l e ({ frames := 7, cells := 4, slots := 22, locals := 103 } : Room) s m args below meth c H locs 2 12 (vx_MQ below (Qva z G (fun S1 => ∃ (t : SG) (u : NU), S1.1 = (t, u, ρ, lo) ∧ Xt ad S1.2 ν u ∧ post t u)) (XCs z G ad (fun E S1 => S1 = (σ, ν, ρ, lo) ∧ px E)) args s 4 22 (Az z)) (F0 m 38 ls []) := by
  obtain ⟨hx, hb, hr, hml, hown, hts, hlocks, hE, hz, htb, hlt⟩ := id X
  intro  H locs ls hW hS hl h
  unfold jX6_terms_38 at h
  refine lv_iload_n hx hb dX6_terms_38 rfl (lv_at hl 3 rfl) ?_
  refine lv_iconst (v := (1 : Int32)) hx hb dX6_terms_39 (by decide) ?_
  refine r_icmp_lt hx hb rfl (show (1 : Int32).toInt = 1 by decide) (tgt := 49) dX6_terms_40 (by decide) (fun c5 => ?_) (fun c5 => ?_)
  · have h := ite_t c5 h
    exact r_throw (k := 4) (k2 := 2) (cls := "java/lang/IllegalArgumentException") (ik := 53) (is := 77) (ic := 57) (text := "territories is out of range") hx hb hlt hts hown hml hlocks htb hE hW hS hl.1 (List.mem_of_getElem? (i := 1) rfl) (List.mem_of_getElem? (i := 2) rfl) (fun w h => List.mem_cons_of_mem _ (List.mem_append_left _ (List.mem_append_right _ h))) rfl rfl (by decide +kernel) (by decide +kernel) rfl dX6_terms_49 dX6_terms_52 dX6_terms_53 dX6_terms_55 dX6_terms_58 (Nat.le_of_ble_eq_true rfl) (Nat.le_of_ble_eq_true rfl) (Nat.le_of_ble_eq_true rfl) (Nat.le_of_ble_eq_true rfl) (Nat.le_of_ble_eq_true rfl) (Nat.le_of_ble_eq_true rfl) ⟨rfl, h⟩
  · have h := ite_f c5 h
    refine lv_iload_n hx hb dX6_terms_43 rfl (lv_at hl 3 rfl) ?_
    refine lv_bipush (v := (7 : Int32)) hx hb dX6_terms_44 (by decide) ?_
    refine r_icmp_le hx hb rfl (show (7 : Int32).toInt = 7 by decide) (tgt := 59) dX6_terms_46 (by decide) (fun c6 => ?_) (fun c6 => ?_)
    · have h := ite_t c6 h
      refine lv_iload hx hb dX6_terms_59 (lv_at hl 4 rfl) ?_
      refine lv_iconst (v := (-1 : Int32)) hx hb dX6_terms_61 (by decide) ?_
      refine r_icmp_eq hx hb rfl (show (-1 : Int32).toInt = (-1) by decide) (tgt := 70) dX6_terms_62 (by decide) (fun c7 => ?_) (fun c7 => ?_)
      · have h := ite_t c7 h
        refine lv_aload_n hx hb dX6_terms_70 rfl (lv_at hl 0 rfl) ?_
        refine r_get (C := RX6) (T := TX6) (N := 8) (ci := 9) (fs := fl_0 ad ν ρ 0 (σ 0 0)) hx hb hts hown hE hW 0 0 rfl rfl rfl (fun w h => List.mem_cons_of_mem _ (List.mem_append_left _ (List.mem_append_left _ (List.mem_append_left _ (List.mem_append_left _ (List.mem_append_left _ (List.mem_append_right _ h))))))) 3 (by decide) (List.mem_of_getElem? (i := 3) rfl) rfl (v := .ref (ad 3 (ν 0 0 3))) rfl dX6_terms_71 ?_
        obtain ⟨g14, g15, h⟩ := h
        refine r_newTerms hx hb hml hl.1 hts hown hE hz hW hS (lv_at hl 1 rfl) (lv_at hl 2 rfl) (lv_at hl 3 rfl) (lv_at hl 4 rfl) (ν 0 0 3) g14 g15 ⟨(Nat.le_of_ble_eq_true rfl), (Nat.le_of_ble_eq_true rfl), (Nat.le_of_ble_eq_true rfl), (Nat.le_of_ble_eq_true rfl)⟩ (fun t8 vv9 ad10 e12 e13 q11 H locs hW hS => ?_)
        have h := h t8 e12 vv9 e13
        refine W.widen (k := 4) (n := 22) (Nat.le_of_ble_eq_true rfl) (Nat.le_of_ble_eq_true rfl) ?_
        refine vx_ret ?_
        exact W.vret hx hb hr (fun t ht _ => ⟨⟨((t8, vv9, ρ, lo), ad10), rfl, ⟨_, _, rfl, (Xt.tr Xt.rf q11), h⟩, WP.at9 ht hW⟩, hS.F ht⟩) hS.2.2 dX6_terms_89 (hlocks := hlocks)
      · have h := ite_f c7 h
        refine lv_iload hx hb dX6_terms_65 (lv_at hl 4 rfl) ?_
        refine x_Sv (rest := []) (As := [.int p4]) ⟨hx, hb, hml, hown, hts⟩ hE hz hS hW (mtX6_needDay l hlt z G ad σ ν ρ lo p4 _ _ h) (va_cwS 1 hts gX6_terms_X6_needDay rfl rfl rfl (by decide +kernel) ⟨Nat.le_of_ble_eq_true rfl, Nat.le_of_ble_eq_true rfl⟩) rfl hl.1 rfl (Nat.le_of_ble_eq_true rfl) dX6_terms_67 ⟨Nat.le_of_ble_eq_true rfl, Nat.le_of_ble_eq_true rfl⟩ hlocks htb (fun E S1 q => q) ⟨Nat.le_of_ble_eq_true rfl, Nat.le_of_ble_eq_true rfl⟩ (fun S1 H locs hp hW hS => ?_)
        obtain ⟨rfl, h⟩ := hp
        refine lv_aload_n hx hb dX6_terms_70 rfl (lv_at hl 0 rfl) ?_
        refine r_get (C := RX6) (T := TX6) (N := 8) (ci := 9) (fs := fl_0 ad ν ρ 0 (σ 0 0)) hx hb hts hown hE hW 0 0 rfl rfl rfl (fun w h => List.mem_cons_of_mem _ (List.mem_append_left _ (List.mem_append_left _ (List.mem_append_left _ (List.mem_append_left _ (List.mem_append_left _ (List.mem_append_right _ h))))))) 3 (by decide) (List.mem_of_getElem? (i := 3) rfl) rfl (v := .ref (ad 3 (ν 0 0 3))) rfl dX6_terms_71 ?_
        obtain ⟨g22, g23, h⟩ := h
        refine r_newTerms hx hb hml hl.1 hts hown hE hz hW hS (lv_at hl 1 rfl) (lv_at hl 2 rfl) (lv_at hl 3 rfl) (lv_at hl 4 rfl) (ν 0 0 3) g22 g23 ⟨(Nat.le_of_ble_eq_true rfl), (Nat.le_of_ble_eq_true rfl), (Nat.le_of_ble_eq_true rfl), (Nat.le_of_ble_eq_true rfl)⟩ (fun t16 vv17 ad18 e20 e21 q19 H locs hW hS => ?_)
        have h := h t16 e20 vv17 e21
        refine vx_ret ?_
        exact W.vret hx hb hr (fun t ht _ => ⟨⟨((t16, vv17, ρ, lo), ad18), rfl, ⟨_, _, rfl, (Xt.tr Xt.rf q19), h⟩, WP.at9 ht hW⟩, hS.F ht⟩) hS.2.2 dX6_terms_89 (hlocks := hlocks)
    · have h := ite_f c6 h
      exact r_throw (k := 4) (k2 := 2) (cls := "java/lang/IllegalArgumentException") (ik := 53) (is := 77) (ic := 57) (text := "territories is out of range") hx hb hlt hts hown hml hlocks htb hE hW hS hl.1 (List.mem_of_getElem? (i := 1) rfl) (List.mem_of_getElem? (i := 2) rfl) (fun w h => List.mem_cons_of_mem _ (List.mem_append_left _ (List.mem_append_right _ h))) rfl rfl (by decide +kernel) (by decide +kernel) rfl dX6_terms_49 dX6_terms_52 dX6_terms_53 dX6_terms_55 dX6_terms_58 (Nat.le_of_ble_eq_true rfl) (Nat.le_of_ble_eq_true rfl) (Nat.le_of_ble_eq_true rfl) (Nat.le_of_ble_eq_true rfl) (Nat.le_of_ble_eq_true rfl) (Nat.le_of_ble_eq_true rfl) ⟨rfl, h⟩
set_option maxHeartbeats 4000000 in
set_option maxRecDepth 100000 in
theorem tX6_terms_11 {p : Program} {l : Launch} {e : Env} {s : State} {m : MethodId} {args : Array Value} {below : List Frame} {meth : Method} {c : Code} {z : Nat} {G : Gl} {ad : Nat → Nat → Nat} {σ : SG} {ν : NU} {ρ : RH} {lo : Int64} (X : Cxx p l e s m args below meth c cX6_terms none 5 RX6 wsX6_terms z G) (p1 : Int32) (p2 : Int32) (p3 : Int32) (p4 : Int32)  (post : SG → NU → Prop) (px : String → Prop) : ∀  {H : Heap} {locs : List Loc} {ls : Array Slot}, WP z G ad (σ, ν, ρ, lo) H → va_S (Az z) s.heap H locs → lv_has ls 5 [(0, .ref (ad 0 0)), (1, .int p1), (2, .int p2), (3, .int p3), (4, .int p4)] → jX6_terms_11 p1 p2 p3 p4 post px σ ν → W p l e ({ frames := 7, cells := 4, slots := 22, locals := 103 } : Room) s m args below meth c H locs 1 6 (vx_MQ below (Qva z G (fun S1 => ∃ (t : SG) (u : NU), S1.1 = (t, u, ρ, lo) ∧ Xt ad S1.2 ν u ∧ post t u)) (XCs z G ad (fun E S1 => S1 = (σ, ν, ρ, lo) ∧ px E)) args s 4 22 (Az z)) (F0 m 11 ls []) := by
  obtain ⟨hx, hb, hr, hml, hown, hts, hlocks, hE, hz, htb, hlt⟩ := id X
  intro  H locs ls hW hS hl h
  unfold jX6_terms_11 at h
  refine lv_iload_n hx hb dX6_terms_11 rfl (lv_at hl 1 rfl) ?_
  refine r_if_lt hx hb rfl (tgt := 20) dX6_terms_12 (by decide) (fun c2 => ?_) (fun c2 => ?_)
  · have h := ite_t c2 h
    exact r_throw (k := 3) (k2 := 2) (cls := "java/lang/IllegalArgumentException") (ik := 53) (is := 71) (ic := 57) (text := "how is out of range") hx hb hlt hts hown hml hlocks htb hE hW hS hl.1 (List.mem_of_getElem? (i := 1) rfl) (List.mem_of_getElem? (i := 2) rfl) (fun w h => List.mem_cons_of_mem _ (List.mem_append_left _ (List.mem_append_right _ h))) rfl rfl (by decide +kernel) (by decide +kernel) rfl dX6_terms_20 dX6_terms_23 dX6_terms_24 dX6_terms_26 dX6_terms_29 (Nat.le_of_ble_eq_true rfl) (Nat.le_of_ble_eq_true rfl) (Nat.le_of_ble_eq_true rfl) (Nat.le_of_ble_eq_true rfl) (Nat.le_of_ble_eq_true rfl) (Nat.le_of_ble_eq_true rfl) ⟨rfl, h⟩
  · have h := ite_f c2 h
    refine lv_iload_n hx hb dX6_terms_15 rfl (lv_at hl 1 rfl) ?_
    refine lv_iconst (v := (2 : Int32)) hx hb dX6_terms_16 (by decide) ?_
    refine r_icmp_le hx hb rfl (show (2 : Int32).toInt = 2 by decide) (tgt := 30) dX6_terms_17 (by decide) (fun c3 => ?_) (fun c3 => ?_)
    · have h := ite_t c3 h
      refine lv_iload_n hx hb dX6_terms_30 rfl (lv_at hl 1 rfl) ?_
      refine r_if_ne hx hb rfl (tgt := 38) dX6_terms_31 (by decide) (fun c4 => ?_) (fun c4 => ?_)
      · have h := ite_f c4 h
        refine W.widen (k := 2) (n := 12) (Nat.le_of_ble_eq_true rfl) (Nat.le_of_ble_eq_true rfl) ?_
        exact tX6_terms_38 (σ := σ) (ρ := ρ) X p1 p2 p3 p4 post px   hW hS (lv_sub hl [0, 1, 2, 3, 4] rfl) h
      · have h := ite_t c4 h
        refine lv_iload_n hx hb dX6_terms_34 rfl (lv_at hl 2 rfl) ?_
        refine x_Sv (rest := []) (As := [.int p2]) ⟨hx, hb, hml, hown, hts⟩ hE hz hS hW (mtX6_needDay l hlt z G ad σ ν ρ lo p2 _ _ h) (va_cwS 1 hts gX6_terms_X6_needDay rfl rfl rfl (by decide +kernel) ⟨Nat.le_of_ble_eq_true rfl, Nat.le_of_ble_eq_true rfl⟩) rfl hl.1 rfl (Nat.le_of_ble_eq_true rfl) dX6_terms_35 ⟨Nat.le_of_ble_eq_true rfl, Nat.le_of_ble_eq_true rfl⟩ hlocks htb (fun E S1 q => q) ⟨Nat.le_of_ble_eq_true rfl, Nat.le_of_ble_eq_true rfl⟩ (fun S1 H locs hp hW hS => ?_)
        obtain ⟨rfl, h⟩ := hp
        exact tX6_terms_38 (σ := σ) (ρ := ρ) X p1 p2 p3 p4 post px   hW hS (lv_sub hl [0, 1, 2, 3, 4] rfl) h
    · have h := ite_f c3 h
      exact r_throw (k := 3) (k2 := 2) (cls := "java/lang/IllegalArgumentException") (ik := 53) (is := 71) (ic := 57) (text := "how is out of range") hx hb hlt hts hown hml hlocks htb hE hW hS hl.1 (List.mem_of_getElem? (i := 1) rfl) (List.mem_of_getElem? (i := 2) rfl) (fun w h => List.mem_cons_of_mem _ (List.mem_append_left _ (List.mem_append_right _ h))) rfl rfl (by decide +kernel) (by decide +kernel) rfl dX6_terms_20 dX6_terms_23 dX6_terms_24 dX6_terms_26 dX6_terms_29 (Nat.le_of_ble_eq_true rfl) (Nat.le_of_ble_eq_true rfl) (Nat.le_of_ble_eq_true rfl) (Nat.le_of_ble_eq_true rfl) (Nat.le_of_ble_eq_true rfl) (Nat.le_of_ble_eq_true rfl) ⟨rfl, h⟩
set_option maxHeartbeats 4000000 in
set_option maxRecDepth 100000 in
theorem mtX6_terms (l : Launch) (hlt : l.stackTraces = false) (z : Nat) (G : Gl) (ad : Nat → Nat → Nat) (σ : SG) (ν : NU) (ρ : RH) (lo : Int64) (p1 : Int32) (p2 : Int32) (p3 : Int32) (p4 : Int32) (post : SG → NU → Prop) (px : String → Prop) (h : wpX6_terms σ ν p1 p2 p3 p4 post px) : vx_Met l yX6_terms wsX6_terms ({ frames := 7, cells := 4, slots := 22, locals := 103 } : Room) (Pcs z G ad (σ, ν, ρ, lo) [.ref (ad 0 0), .int p1, .int p2, .int p3, .int p4]) (Qva z G (fun S1 => ∃ (t : SG) (u : NU), S1.1 = (t, u, ρ, lo) ∧ Xt ad S1.2 ν u ∧ post t u)) (XCs z G ad (fun E S1 => S1 = (σ, ν, ρ, lo) ∧ px E)) 4 22 (Az z) := by
  refine vx_ofW (cc := cX6_terms) (maxL := 5) (ret := none) (by decide) rfl ?_
  intro p e s m args below meth c s₁ B hml htb hv
  obtain ⟨rfl, hz, hW, hE⟩ := hv
  have hx := B.exec
  have hb := B.bytes
  have hr := B.returns
  have hts := atoms_spec (ws := wsX6_terms) B.pre
  have hown : s.vm.findClass RX6 = some m.cls := findClass_of_methodNamed B.named
  have hlocks := B.notSynchronized
  have X : Cxx p l e s m _ below meth c cX6_terms none 5 RX6 wsX6_terms z G := ⟨hx, hb, hr, hml, hown, hts, hlocks, hE, hz, htb, hlt⟩
  have hS : va_S (Az z) s.heap s.heap [] := va_S.rf
  have hl := lv_entry [.ref (ad 0 0), .int p1, .int p2, .int p3, .int p4] (n := 5) (Nat.le_of_ble_eq_true rfl)
  rw [lg_entry_eq]
  generalize (lg_sl [.ref (ad 0 0), .int p1, .int p2, .int p3, .int p4] ++ List.replicate (5 - (lg_sl [.ref (ad 0 0), .int p1, .int p2, .int p3, .int p4]).length) Slot.unset).toArray = ls at hl ⊢
  have hl : lv_has ls 5 [(0, .ref (ad 0 0)), (1, .int p1), (2, .int p2), (3, .int p3), (4, .int p4)] := hl
  unfold wpX6_terms at h
  refine lv_iload_n hx hb dX6_terms_0 rfl (lv_at hl 1 rfl) ?_
  refine lv_iconst (v := (2 : Int32)) hx hb dX6_terms_1 (by decide) ?_
  refine r_icmp_ne hx hb rfl (show (2 : Int32).toInt = 2 by decide) (tgt := 11) dX6_terms_2 (by decide) (fun c1 => ?_) (fun c1 => ?_)
  · have h := ite_f c1 h
    refine W.widen (k := 1) (n := 6) (Nat.le_of_ble_eq_true rfl) (Nat.le_of_ble_eq_true rfl) ?_
    exact tX6_terms_11 (σ := σ) (ρ := ρ) X p1 p2 p3 p4 post px   hW hS (lv_sub hl [0, 1, 2, 3, 4] rfl) h
  · have h := ite_t c1 h
    refine lv_aload_n hx hb dX6_terms_5 rfl (lv_at hl 0 rfl) ?_
    refine lv_iload_n hx hb dX6_terms_6 rfl (lv_at hl 2 rfl) ?_
    refine x_Vr (rest := []) (As := [.int p2]) ⟨hx, hb, hml, hown, hts⟩ hE hz hS hW (mtX6_needInstruction l hlt z G ad σ ν ρ lo p2 _ _ h) (cwV 1 hts gX6_terms_X6_needInstruction rfl rfl rfl (by decide +kernel) ⟨Nat.le_of_ble_eq_true rfl, Nat.le_of_ble_eq_true rfl⟩) (r_recv hE hW 0 0 rfl (ci := 9) rfl rfl) rfl hl.1 rfl (Nat.le_of_ble_eq_true rfl) dX6_terms_7 ⟨Nat.le_of_ble_eq_true rfl, Nat.le_of_ble_eq_true rfl⟩ hlocks htb (fun E S1 q => q) ⟨Nat.le_of_ble_eq_true rfl, Nat.le_of_ble_eq_true rfl⟩ (fun r24 S1 H locs hp hW hS => ?_)
    obtain ⟨rfl, h⟩ := hp
    refine lv_pop hx hb dX6_terms_10 rfl ?_
    exact tX6_terms_11 (σ := σ) (ρ := ρ) X p1 p2 p3 p4 post px   hW hS (lv_sub hl [0, 1, 2, 3, 4] rfl) h
set_option maxHeartbeats 4000000 in
set_option maxRecDepth 100000 in
theorem mtX2_append (l : Launch) (z : Nat) (G : Gl) (ad : Nat → Nat → Nat) (σ : SG) (ν : NU) (ρ : RH) (lo : Int64) (o0 : Nat) (p1 : Int32) (post : Int32 → SG → Prop) (h : wpX2_append σ ν o0 p1 post) : Met l yX2_append wsX2_append ({ frames := 0, cells := 0, slots := 0, locals := 0 } : Room) (Pcs z G ad (σ, ν, ρ, lo) [.ref (ad 4 o0), .int p1]) (Qis z G ad (fun r S1 => ∃ t : SG, S1 = (t, ν, ρ, lo) ∧ post r t)) 0 0 (Az z) := by
  refine Met.ofW (cc := cX2_append) (maxL := 2) (ret := (some .boolean)) (by decide) rfl ?_
  intro p e s m args below meth c s₁ B hml hv
  obtain ⟨rfl, hz, hW, hE⟩ := hv
  have hx := B.exec
  have hb := B.bytes
  have hr := B.returns
  have hts := atoms_spec (ws := wsX2_append) B.pre
  have hown : s.vm.findClass RX2 = some m.cls := findClass_of_methodNamed B.named
  have hlocks := B.notSynchronized
  have X : Cx p l e s m _ below meth c cX2_append (some .boolean) 2 RX2 wsX2_append z G := ⟨hx, hb, hr, hml, hown, hts, hlocks, hE, hz⟩
  have hS : va_S (Az z) s.heap s.heap [] := va_S.rf
  have hl := lv_entry [.ref (ad 4 o0), .int p1] (n := 2) (Nat.le_of_ble_eq_true rfl)
  rw [lg_entry_eq]
  generalize (lg_sl [.ref (ad 4 o0), .int p1] ++ List.replicate (2 - (lg_sl [.ref (ad 4 o0), .int p1]).length) Slot.unset).toArray = ls at hl ⊢
  have hl : lv_has ls 2 [(0, .ref (ad 4 o0)), (1, .int p1)] := hl
  unfold wpX2_append at h
  refine lv_aload_n hx hb dX2_append_0 rfl (lv_at hl 0 rfl) ?_
  obtain ⟨g1, h⟩ := h
  refine r_get (C := RX2) (T := TX2) (N := 2) (ci := 5) (fs := fl_4 ad ν ρ o0 (σ 4 o0)) hx hb hts hown hE hW 4 o0 g1 rfl rfl (fun w h => List.mem_cons_of_mem _ (List.mem_append_right _ h)) 1 (by decide) (List.mem_of_getElem? (i := 1) rfl) rfl (v := .int (σ 4 o0 1)) rfl dX2_append_1 ?_
  refine lv_aload_n hx hb dX2_append_4 rfl (lv_at hl 0 rfl) ?_
  refine r_get (C := RX2) (T := TX2) (N := 2) (ci := 5) (fs := fl_4 ad ν ρ o0 (σ 4 o0)) hx hb hts hown hE hW 4 o0 g1 rfl rfl (fun w h => List.mem_cons_of_mem _ (List.mem_append_right _ h)) 0 (by decide) (List.mem_of_getElem? (i := 2) rfl) rfl (v := .ref (ad 22 o0)) rfl dX2_append_5 ?_
  refine r_alen hx hb hE hW 22 o0 g1 rfl 0 rfl (v := (4 : Int32)) rfl dX2_append_8 ?_
  refine r_icmp_lt hx hb rfl (show (4 : Int32).toInt = 4 by decide) (tgt := 14) dX2_append_9 (by decide) (fun c2 => ?_) (fun c2 => ?_)
  · have h := ite_t c2 h
    refine lv_aload_n hx hb dX2_append_14 rfl (lv_at hl 0 rfl) ?_
    refine r_get (C := RX2) (T := TX2) (N := 2) (ci := 5) (fs := fl_4 ad ν ρ o0 (σ 4 o0)) hx hb hts hown hE hW 4 o0 g1 rfl rfl (fun w h => List.mem_cons_of_mem _ (List.mem_append_right _ h)) 0 (by decide) (List.mem_of_getElem? (i := 2) rfl) rfl (v := .ref (ad 22 o0)) rfl dX2_append_15 ?_
    refine lv_aload_n hx hb dX2_append_18 rfl (lv_at hl 0 rfl) ?_
    refine r_get (C := RX2) (T := TX2) (N := 2) (ci := 5) (fs := fl_4 ad ν ρ o0 (σ 4 o0)) hx hb hts hown hE hW 4 o0 g1 rfl rfl (fun w h => List.mem_cons_of_mem _ (List.mem_append_right _ h)) 1 (by decide) (List.mem_of_getElem? (i := 1) rfl) rfl (v := .int (σ 4 o0 1)) rfl dX2_append_19 ?_
    refine lv_iload_n hx hb dX2_append_22 rfl (lv_at hl 1 rfl) ?_
    obtain ⟨b3, h⟩ := h
    refine r_iastC hx hb hE hW hS 22 o0 g1 (n := 4) (fun _ => rfl) b3 dX2_append_23 (fun t4 e5 H locs hW hS => ?_)
    have h := h t4 e5
    refine lv_aload_n hx hb dX2_append_24 rfl (lv_at hl 0 rfl) ?_
    refine lv_dup hx hb dX2_append_25 rfl ?_
    refine r_get (C := RX2) (T := TX2) (N := 2) (ci := 5) (fs := fl_4 ad ν ρ o0 (t4 4 o0)) hx hb hts hown hE hW 4 o0 g1 rfl rfl (fun w h => List.mem_cons_of_mem _ (List.mem_append_right _ h)) 1 (by decide) (List.mem_of_getElem? (i := 1) rfl) rfl (v := .int (t4 4 o0 1)) rfl dX2_append_26 ?_
    refine lv_iconst (v := (1 : Int32)) hx hb dX2_append_29 (by decide) ?_
    refine lv_iadd hx hb dX2_append_30 ?_
    refine r_putC (C := RX2) (T := TX2) (N := 2) (ci := 5) (fl := fl_4 ad ν ρ o0) hx hb hts hown hE hW hS 4 o0 g1 (fun _ => rfl) rfl (fun w h => List.mem_cons_of_mem _ (List.mem_append_right _ h)) tyX2_ok nmX2 1 (by decide) (List.mem_of_getElem? (i := 1) rfl) rfl rfl rfl (Nat.le_of_ble_eq_true rfl) (x := (t4 4 o0 1) + ((1 : Int32))) rfl dX2_append_31 (fun t6 e7 H locs hW hS => ?_)
    have h := h t6 e7
    refine lv_iconst (v := (1 : Int32)) hx hb dX2_append_34 (by decide) ?_
    exact W.zret (v := (1 : Int32)) (ty := .boolean) hx hb hr rfl (fun t ht _ => ⟨⟨_, (t6, ν, ρ, lo), rfl, ⟨_, rfl, h⟩, WP.at9 ht hW⟩, hS.F ht⟩) hS.2.2 dX2_append_35 (hlocks := hlocks)
  · have h := ite_f c2 h
    refine lv_iconst (v := (0 : Int32)) hx hb dX2_append_12 (by decide) ?_
    exact W.zret (v := (0 : Int32)) (ty := .boolean) hx hb hr rfl (fun t ht _ => ⟨⟨_, (σ, ν, ρ, lo), rfl, ⟨_, rfl, h⟩, WP.at9 ht hW⟩, hS.F ht⟩) hS.2.2 dX2_append_13 (hlocks := hlocks)
set_option maxHeartbeats 4000000 in
set_option maxRecDepth 100000 in
theorem tX6_word_42 {p : Program} {l : Launch} {e : Env} {s : State} {m : MethodId} {args : Array Value} {below : List Frame} {meth : Method} {c : Code} {z : Nat} {G : Gl} {ad : Nat → Nat → Nat} {σ : SG} {ν : NU} {ρ : RH} {lo : Int64} (X : Cxx p l e s m args below meth c cX6_word (some .int) 4 RX6 wsX6_word z G) (p1 : Int32) (p2 : Int32)  (post : Int32 → SG → Prop) (px : String → SG → Prop) : ∀ (y0 : Nat) {H : Heap} {locs : List Loc} {ls : Array Slot}, WP z G ad (σ, ν, ρ, lo) H → va_S (Az z) s.heap H locs → lv_has ls 4 [(1, .int p1)] → jX6_word_42 p1 p2 post px σ ν y0 → W p l e ({ frames := 6, cells := 1, slots := 6, locals := 82 } : Room) s m args below meth c H locs 0 0 (vx_MQ below (Qis z G ad (fun r S1 => ∃ t : SG, S1 = (t, ν, ρ, lo) ∧ post r t)) (XCs z G ad (fun E S1 => ∃ t : SG, S1 = (t, ν, ρ, lo) ∧ px E t)) args s 1 6 (Az z)) (F0 m 42 ls [.ref (ad 4 y0)]) := by
  obtain ⟨hx, hb, hr, hml, hown, hts, hlocks, hE, hz, htb, hlt⟩ := id X
  intro y0 H locs ls hW hS hl h
  unfold jX6_word_42 at h
  refine lv_astore_n (lv' := [(3, .ref (ad 4 y0)), (1, .int p1)]) hx hb dX6_word_42 rfl hl (by decide) rfl (fun ls hl => ?_)
  refine lv_aload_n hx hb dX6_word_43 rfl (lv_at hl 0 rfl) ?_
  refine lv_iload_n hx hb dX6_word_44 rfl (lv_at hl 1 rfl) ?_
  obtain ⟨g5, h⟩ := h
  refine k_Vi (rest := []) (As := [.int p1]) ⟨hx, hb, hml, hown, hts⟩ hE hz hS hW (mtX2_append l z G ad σ ν ρ lo y0 p1 _ h) (cwV 1 hts gX6_word_X2_append rfl rfl rfl (by decide +kernel) ⟨Nat.le_of_ble_eq_true rfl, Nat.le_of_ble_eq_true rfl⟩) (r_recv hE hW 4 y0 g5 (ci := 5) rfl rfl) rfl hl.1 rfl (Nat.le_of_ble_eq_true rfl) dX6_word_45 ⟨Nat.le_of_ble_eq_true rfl, Nat.le_of_ble_eq_true rfl⟩ (fun r6 S1 H locs hp hW hS => ?_)
  obtain ⟨t7, rfl, h⟩ := hp
  refine r_if_ne hx hb rfl (tgt := 61) dX6_word_48 (by decide) (fun c8 => ?_) (fun c8 => ?_)
  · have h := ite_f c8 h
    refine lv_aload_n hx hb dX6_word_61 rfl (lv_at hl 0 rfl) ?_
    refine r_get (C := RX2) (T := TX2) (N := 2) (ci := 5) (fs := fl_4 ad ν ρ y0 (t7 4 y0)) hx hb hts hown hE hW 4 y0 g5 rfl rfl (fun w h => List.mem_cons_of_mem _ (List.mem_append_left _ (List.mem_append_left _ (List.mem_append_right _ h)))) 1 (by decide) (List.mem_of_getElem? (i := 8) rfl) rfl (v := .int (t7 4 y0 1)) rfl dX6_word_62 ?_
    refine W.widen (k := 1) (n := 6) (Nat.le_of_ble_eq_true rfl) (Nat.le_of_ble_eq_true rfl) ?_
    refine vx_ret ?_
    exact W.iret (v := t7 4 y0 1) hx hb hr (fun t ht _ => ⟨⟨_, (t7, ν, ρ, lo), rfl, ⟨_, rfl, h⟩, WP.at9 ht hW⟩, hS.F ht⟩) hS.2.2 dX6_word_65 (hlocks := hlocks)
  · have h := ite_t c8 h
    exact r_throw (k := 6) (k2 := 3) (cls := "java/lang/IllegalStateException") (ik := 60) (is := 98) (ic := 64) (text := "no more words") hx hb hlt hts hown hml hlocks htb hE hW hS hl.1 (List.mem_of_getElem? (i := 3) rfl) (List.mem_of_getElem? (i := 4) rfl) (fun w h => List.mem_cons_of_mem _ (List.mem_append_right _ h)) rfl rfl (by decide +kernel) (by decide +kernel) rfl dX6_word_51 dX6_word_54 dX6_word_55 dX6_word_57 dX6_word_60 (Nat.le_of_ble_eq_true rfl) (Nat.le_of_ble_eq_true rfl) (Nat.le_of_ble_eq_true rfl) (Nat.le_of_ble_eq_true rfl) (Nat.le_of_ble_eq_true rfl) (Nat.le_of_ble_eq_true rfl) ⟨_, rfl, h⟩
set_option maxHeartbeats 4000000 in
set_option maxRecDepth 100000 in
theorem mtX6_word (l : Launch) (hlt : l.stackTraces = false) (z : Nat) (G : Gl) (ad : Nat → Nat → Nat) (σ : SG) (ν : NU) (ρ : RH) (lo : Int64) (p1 : Int32) (p2 : Int32) (post : Int32 → SG → Prop) (px : String → SG → Prop) (h : wpX6_word σ ν p1 p2 post px) : vx_Met l yX6_word wsX6_word ({ frames := 6, cells := 1, slots := 6, locals := 82 } : Room) (Pcs z G ad (σ, ν, ρ, lo) [.ref (ad 0 0), .int p1, .int p2]) (Qis z G ad (fun r S1 => ∃ t : SG, S1 = (t, ν, ρ, lo) ∧ post r t)) (XCs z G ad (fun E S1 => ∃ t : SG, S1 = (t, ν, ρ, lo) ∧ px E t)) 1 6 (Az z) := by
  refine vx_ofW (cc := cX6_word) (maxL := 4) (ret := (some .int)) (by decide) rfl ?_
  intro p e s m args below meth c s₁ B hml htb hv
  obtain ⟨rfl, hz, hW, hE⟩ := hv
  have hx := B.exec
  have hb := B.bytes
  have hr := B.returns
  have hts := atoms_spec (ws := wsX6_word) B.pre
  have hown : s.vm.findClass RX6 = some m.cls := findClass_of_methodNamed B.named
  have hlocks := B.notSynchronized
  have X : Cxx p l e s m _ below meth c cX6_word (some .int) 4 RX6 wsX6_word z G := ⟨hx, hb, hr, hml, hown, hts, hlocks, hE, hz, htb, hlt⟩
  have hS : va_S (Az z) s.heap s.heap [] := va_S.rf
  have hl := lv_entry [.ref (ad 0 0), .int p1, .int p2] (n := 4) (Nat.le_of_ble_eq_true rfl)
  rw [lg_entry_eq]
  generalize (lg_sl [.ref (ad 0 0), .int p1, .int p2] ++ List.replicate (4 - (lg_sl [.ref (ad 0 0), .int p1, .int p2]).length) Slot.unset).toArray = ls at hl ⊢
  have hl : lv_has ls 4 [(0, .ref (ad 0 0)), (1, .int p1), (2, .int p2)] := hl
  unfold wpX6_word at h
  refine lv_iload_n hx hb dX6_word_0 rfl (lv_at hl 1 rfl) ?_
  refine r_if_lt hx hb rfl (tgt := 11) dX6_word_1 (by decide) (fun c1 => ?_) (fun c1 => ?_)
  · have h := ite_t c1 h
    exact r_throw (k := 5) (k2 := 2) (cls := "java/lang/IllegalArgumentException") (ik := 53) (is := 83) (ic := 57) (text := "word is out of range") hx hb hlt hts hown hml hlocks htb hE hW hS hl.1 (List.mem_of_getElem? (i := 1) rfl) (List.mem_of_getElem? (i := 2) rfl) (fun w h => List.mem_cons_of_mem _ (List.mem_append_left _ (List.mem_append_right _ h))) rfl rfl (by decide +kernel) (by decide +kernel) rfl dX6_word_11 dX6_word_14 dX6_word_15 dX6_word_17 dX6_word_20 (Nat.le_of_ble_eq_true rfl) (Nat.le_of_ble_eq_true rfl) (Nat.le_of_ble_eq_true rfl) (Nat.le_of_ble_eq_true rfl) (Nat.le_of_ble_eq_true rfl) (Nat.le_of_ble_eq_true rfl) ⟨_, rfl, h⟩
  · have h := ite_f c1 h
    refine lv_iload_n hx hb dX6_word_4 rfl (lv_at hl 1 rfl) ?_
    refine lv_sipush (v := (139 : Int32)) hx hb dX6_word_5 (by decide) ?_
    refine r_icmp_le hx hb rfl (show (139 : Int32).toInt = 139 by decide) (tgt := 21) dX6_word_8 (by decide) (fun c2 => ?_) (fun c2 => ?_)
    · have h := ite_t c2 h
      refine lv_iload_n hx hb dX6_word_21 rfl (lv_at hl 2 rfl) ?_
      refine r_if_eq hx hb rfl (tgt := 35) dX6_word_22 (by decide) (fun c3 => ?_) (fun c3 => ?_)
      · have h := ite_t c3 h
        refine lv_aload_n hx hb dX6_word_35 rfl (lv_at hl 0 rfl) ?_
        refine r_get (C := RX6) (T := TX6) (N := 8) (ci := 9) (fs := fl_0 ad ν ρ 0 (σ 0 0)) hx hb hts hown hE hW 0 0 rfl rfl rfl (fun w h => List.mem_cons_of_mem _ (List.mem_append_left _ (List.mem_append_left _ (List.mem_append_left _ (List.mem_append_left _ (List.mem_append_right _ h)))))) 3 (by decide) (List.mem_of_getElem? (i := 5) rfl) rfl (v := .ref (ad 3 (ν 0 0 3))) rfl dX6_word_36 ?_
        obtain ⟨g4, h⟩ := h
        refine r_get (C := RX0) (T := TX0) (N := 13) (ci := 3) (fs := fl_3 ad ν ρ (ν 0 0 3) (σ 3 (ν 0 0 3))) hx hb hts hown hE hW 3 (ν 0 0 3) g4 rfl rfl (fun w h => List.mem_cons_of_mem _ (List.mem_append_left _ (List.mem_append_left _ (List.mem_append_left _ (List.mem_append_right _ h))))) 8 (by decide) (List.mem_of_getElem? (i := 7) rfl) rfl (v := .ref (ad 4 (2 * (ν 0 0 3)))) rfl dX6_word_39 ?_
        exact tX6_word_42 (σ := σ) (ρ := ρ) X p1 p2 post px  (2 * (ν 0 0 3)) hW hS (lv_sub hl [1] rfl) h
      · have h := ite_f c3 h
        refine lv_aload_n hx hb dX6_word_25 rfl (lv_at hl 0 rfl) ?_
        refine r_get (C := RX6) (T := TX6) (N := 8) (ci := 9) (fs := fl_0 ad ν ρ 0 (σ 0 0)) hx hb hts hown hE hW 0 0 rfl rfl rfl (fun w h => List.mem_cons_of_mem _ (List.mem_append_left _ (List.mem_append_left _ (List.mem_append_left _ (List.mem_append_left _ (List.mem_append_right _ h)))))) 3 (by decide) (List.mem_of_getElem? (i := 5) rfl) rfl (v := .ref (ad 3 (ν 0 0 3))) rfl dX6_word_26 ?_
        obtain ⟨g9, h⟩ := h
        refine r_get (C := RX0) (T := TX0) (N := 13) (ci := 3) (fs := fl_3 ad ν ρ (ν 0 0 3) (σ 3 (ν 0 0 3))) hx hb hts hown hE hW 3 (ν 0 0 3) g9 rfl rfl (fun w h => List.mem_cons_of_mem _ (List.mem_append_left _ (List.mem_append_left _ (List.mem_append_left _ (List.mem_append_right _ h))))) 9 (by decide) (List.mem_of_getElem? (i := 6) rfl) rfl (v := .ref (ad 4 (2 * (ν 0 0 3) + 1))) rfl dX6_word_29 ?_
        refine lv_goto (tgt := 42) hx hb dX6_word_32 (by decide) ?_
        exact tX6_word_42 (σ := σ) (ρ := ρ) X p1 p2 post px  (2 * (ν 0 0 3) + 1) hW hS (lv_sub hl [1] rfl) h
    · have h := ite_f c2 h
      exact r_throw (k := 5) (k2 := 2) (cls := "java/lang/IllegalArgumentException") (ik := 53) (is := 83) (ic := 57) (text := "word is out of range") hx hb hlt hts hown hml hlocks htb hE hW hS hl.1 (List.mem_of_getElem? (i := 1) rfl) (List.mem_of_getElem? (i := 2) rfl) (fun w h => List.mem_cons_of_mem _ (List.mem_append_left _ (List.mem_append_right _ h))) rfl rfl (by decide +kernel) (by decide +kernel) rfl dX6_word_11 dX6_word_14 dX6_word_15 dX6_word_17 dX6_word_20 (Nat.le_of_ble_eq_true rfl) (Nat.le_of_ble_eq_true rfl) (Nat.le_of_ble_eq_true rfl) (Nat.le_of_ble_eq_true rfl) (Nat.le_of_ble_eq_true rfl) (Nat.le_of_ble_eq_true rfl) ⟨_, rfl, h⟩
set_option maxHeartbeats 4000000 in
set_option maxRecDepth 100000 in
theorem mtX6_needProvision (l : Launch) (hlt : l.stackTraces = false) (z : Nat) (G : Gl) (ad : Nat → Nat → Nat) (σ : SG) (ν : NU) (ρ : RH) (lo : Int64) (p1 : Int32) (post : Prop) (px : String → Prop) (h : wpX6_needProvision σ ν p1 post px) : vx_Met l yX6_needProvision wsX6_needProvision ({ frames := 6, cells := 1, slots := 6, locals := 82 } : Room) (Pcs z G ad (σ, ν, ρ, lo) [.ref (ad 0 0), .int p1]) (Qvs z G ad (fun S1 => S1 = (σ, ν, ρ, lo) ∧ post)) (XCs z G ad (fun E S1 => S1 = (σ, ν, ρ, lo) ∧ px E)) 1 6 (Az z) := by
  refine vx_ofW (cc := cX6_needProvision) (maxL := 2) (ret := none) (by decide) rfl ?_
  intro p e s m args below meth c s₁ B hml htb hv
  obtain ⟨rfl, hz, hW, hE⟩ := hv
  have hx := B.exec
  have hb := B.bytes
  have hr := B.returns
  have hts := atoms_spec (ws := wsX6_needProvision) B.pre
  have hown : s.vm.findClass RX6 = some m.cls := findClass_of_methodNamed B.named
  have hlocks := B.notSynchronized
  have X : Cxx p l e s m _ below meth c cX6_needProvision none 2 RX6 wsX6_needProvision z G := ⟨hx, hb, hr, hml, hown, hts, hlocks, hE, hz, htb, hlt⟩
  have hS : va_S (Az z) s.heap s.heap [] := va_S.rf
  have hl := lv_entry [.ref (ad 0 0), .int p1] (n := 2) (Nat.le_of_ble_eq_true rfl)
  rw [lg_entry_eq]
  generalize (lg_sl [.ref (ad 0 0), .int p1] ++ List.replicate (2 - (lg_sl [.ref (ad 0 0), .int p1]).length) Slot.unset).toArray = ls at hl ⊢
  have hl : lv_has ls 2 [(0, .ref (ad 0 0)), (1, .int p1)] := hl
  unfold wpX6_needProvision at h
  refine lv_iload_n hx hb dX6_needProvision_0 rfl (lv_at hl 1 rfl) ?_
  refine r_if_lt hx hb rfl (tgt := 12) dX6_needProvision_1 (by decide) (fun c1 => ?_) (fun c1 => ?_)
  · have h := ite_t c1 h
    exact r_throw (k := 19) (k2 := 4) (cls := "java/lang/IndexOutOfBoundsException") (ik := 189) (is := 247) (ic := 193) (text := "there is no such provision") hx hb hlt hts hown hml hlocks htb hE hW hS hl.1 (List.mem_of_getElem? (i := 1) rfl) (List.mem_of_getElem? (i := 2) rfl) (fun w h => List.mem_cons_of_mem _ (List.mem_append_right _ h)) rfl rfl (by decide +kernel) (by decide +kernel) rfl dX6_needProvision_12 dX6_needProvision_15 dX6_needProvision_16 dX6_needProvision_18 dX6_needProvision_21 (Nat.le_of_ble_eq_true rfl) (Nat.le_of_ble_eq_true rfl) (Nat.le_of_ble_eq_true rfl) (Nat.le_of_ble_eq_true rfl) (Nat.le_of_ble_eq_true rfl) (Nat.le_of_ble_eq_true rfl) ⟨rfl, h⟩
  · have h := ite_f c1 h
    refine lv_iload_n hx hb dX6_needProvision_4 rfl (lv_at hl 1 rfl) ?_
    refine lv_aload_n hx hb dX6_needProvision_5 rfl (lv_at hl 0 rfl) ?_
    refine r_get (C := RX6) (T := TX6) (N := 8) (ci := 9) (fs := fl_0 ad ν ρ 0 (σ 0 0)) hx hb hts hown hE hW 0 0 rfl rfl rfl (fun w h => List.mem_cons_of_mem _ (List.mem_append_left _ (List.mem_append_right _ h))) 7 (by decide) (List.mem_of_getElem? (i := 3) rfl) rfl (v := .int (σ 0 0 7)) rfl dX6_needProvision_6 ?_
    refine r_icmp_lt hx hb rfl rfl (tgt := 22) dX6_needProvision_9 (by decide) (fun c2 => ?_) (fun c2 => ?_)
    · have h := ite_t c2 h
      refine W.widen (k := 1) (n := 6) (Nat.le_of_ble_eq_true rfl) (Nat.le_of_ble_eq_true rfl) ?_
      refine vx_ret ?_
      exact W.vret hx hb hr (fun t ht _ => ⟨⟨(σ, ν, ρ, lo), rfl, ⟨rfl, h⟩, WP.at9 ht hW⟩, hS.F ht⟩) hS.2.2 dX6_needProvision_22 (hlocks := hlocks)
    · have h := ite_f c2 h
      exact r_throw (k := 19) (k2 := 4) (cls := "java/lang/IndexOutOfBoundsException") (ik := 189) (is := 247) (ic := 193) (text := "there is no such provision") hx hb hlt hts hown hml hlocks htb hE hW hS hl.1 (List.mem_of_getElem? (i := 1) rfl) (List.mem_of_getElem? (i := 2) rfl) (fun w h => List.mem_cons_of_mem _ (List.mem_append_right _ h)) rfl rfl (by decide +kernel) (by decide +kernel) rfl dX6_needProvision_12 dX6_needProvision_15 dX6_needProvision_16 dX6_needProvision_18 dX6_needProvision_21 (Nat.le_of_ble_eq_true rfl) (Nat.le_of_ble_eq_true rfl) (Nat.le_of_ble_eq_true rfl) (Nat.le_of_ble_eq_true rfl) (Nat.le_of_ble_eq_true rfl) (Nat.le_of_ble_eq_true rfl) ⟨rfl, h⟩
set_option maxHeartbeats 4000000 in
set_option maxRecDepth 100000 in
theorem mtX6_needProvisionOrTop (l : Launch) (hlt : l.stackTraces = false) (z : Nat) (G : Gl) (ad : Nat → Nat → Nat) (σ : SG) (ν : NU) (ρ : RH) (lo : Int64) (p1 : Int32) (post : Prop) (px : String → Prop) (h : wpX6_needProvisionOrTop σ ν p1 post px) : vx_Met l yX6_needProvisionOrTop wsX6_needProvisionOrTop ({ frames := 7, cells := 1, slots := 6, locals := 103 } : Room) (Pcs z G ad (σ, ν, ρ, lo) [.ref (ad 0 0), .int p1]) (Qvs z G ad (fun S1 => S1 = (σ, ν, ρ, lo) ∧ post)) (XCs z G ad (fun E S1 => S1 = (σ, ν, ρ, lo) ∧ px E)) 1 6 (Az z) := by
  refine vx_ofW (cc := cX6_needProvisionOrTop) (maxL := 2) (ret := none) (by decide) rfl ?_
  intro p e s m args below meth c s₁ B hml htb hv
  obtain ⟨rfl, hz, hW, hE⟩ := hv
  have hx := B.exec
  have hb := B.bytes
  have hr := B.returns
  have hts := atoms_spec (ws := wsX6_needProvisionOrTop) B.pre
  have hown : s.vm.findClass RX6 = some m.cls := findClass_of_methodNamed B.named
  have hlocks := B.notSynchronized
  have X : Cxx p l e s m _ below meth c cX6_needProvisionOrTop none 2 RX6 wsX6_needProvisionOrTop z G := ⟨hx, hb, hr, hml, hown, hts, hlocks, hE, hz, htb, hlt⟩
  have hS : va_S (Az z) s.heap s.heap [] := va_S.rf
  have hl := lv_entry [.ref (ad 0 0), .int p1] (n := 2) (Nat.le_of_ble_eq_true rfl)
  rw [lg_entry_eq]
  generalize (lg_sl [.ref (ad 0 0), .int p1] ++ List.replicate (2 - (lg_sl [.ref (ad 0 0), .int p1]).length) Slot.unset).toArray = ls at hl ⊢
  have hl : lv_has ls 2 [(0, .ref (ad 0 0)), (1, .int p1)] := hl
  unfold wpX6_needProvisionOrTop at h
  refine lv_iload_n hx hb dX6_needProvisionOrTop_0 rfl (lv_at hl 1 rfl) ?_
  refine lv_iconst (v := (-1 : Int32)) hx hb dX6_needProvisionOrTop_1 (by decide) ?_
  refine r_icmp_eq hx hb rfl (show (-1 : Int32).toInt = (-1) by decide) (tgt := 10) dX6_needProvisionOrTop_2 (by decide) (fun c1 => ?_) (fun c1 => ?_)
  · have h := ite_t c1 h
    refine W.widen (k := 1) (n := 6) (Nat.le_of_ble_eq_true rfl) (Nat.le_of_ble_eq_true rfl) ?_
    refine vx_ret ?_
    exact W.vret hx hb hr (fun t ht _ => ⟨⟨(σ, ν, ρ, lo), rfl, ⟨rfl, h⟩, WP.at9 ht hW⟩, hS.F ht⟩) hS.2.2 dX6_needProvisionOrTop_10 (hlocks := hlocks)
  · have h := ite_f c1 h
    refine lv_aload_n hx hb dX6_needProvisionOrTop_5 rfl (lv_at hl 0 rfl) ?_
    refine lv_iload_n hx hb dX6_needProvisionOrTop_6 rfl (lv_at hl 1 rfl) ?_
    refine x_Vv (rest := []) (As := [.int p1]) ⟨hx, hb, hml, hown, hts⟩ hE hz hS hW (mtX6_needProvision l hlt z G ad σ ν ρ lo p1 _ _ h) (cwV 1 hts gX6_needProvisionOrTop_X6_needProvision rfl rfl rfl (by decide +kernel) ⟨Nat.le_of_ble_eq_true rfl, Nat.le_of_ble_eq_true rfl⟩) (r_recv hE hW 0 0 rfl (ci := 9) rfl rfl) rfl hl.1 rfl (Nat.le_of_ble_eq_true rfl) dX6_needProvisionOrTop_7 ⟨Nat.le_of_ble_eq_true rfl, Nat.le_of_ble_eq_true rfl⟩ hlocks htb (fun E S1 q => q) ⟨Nat.le_of_ble_eq_true rfl, Nat.le_of_ble_eq_true rfl⟩ (fun S1 H locs hp hW hS => ?_)
    obtain ⟨rfl, h⟩ := hp
    refine vx_ret ?_
    exact W.vret hx hb hr (fun t ht _ => ⟨⟨(σ, ν, ρ, lo), rfl, ⟨rfl, h⟩, WP.at9 ht hW⟩, hS.F ht⟩) hS.2.2 dX6_needProvisionOrTop_10 (hlocks := hlocks)
set_option maxHeartbeats 4000000 in
set_option maxRecDepth 100000 in
theorem mtX6_needLabel (l : Launch) (hlt : l.stackTraces = false) (z : Nat) (G : Gl) (ad : Nat → Nat → Nat) (σ : SG) (ν : NU) (ρ : RH) (lo : Int64) (p0 : Int32) (p1 : Int32) (post : Prop) (px : String → Prop) (h : wpX6_needLabel σ ν p0 p1 post px) : vx_Met l yX6_needLabel wsX6_needLabel ({ frames := 6, cells := 1, slots := 6, locals := 82 } : Room) (Pcs z G ad (σ, ν, ρ, lo) [.int p0, .int p1]) (Qvs z G ad (fun S1 => S1 = (σ, ν, ρ, lo) ∧ post)) (XCs z G ad (fun E S1 => S1 = (σ, ν, ρ, lo) ∧ px E)) 1 6 (Az z) := by
  refine vx_ofW (cc := cX6_needLabel) (maxL := 2) (ret := none) (by decide) rfl ?_
  intro p e s m args below meth c s₁ B hml htb hv
  obtain ⟨rfl, hz, hW, hE⟩ := hv
  have hx := B.exec
  have hb := B.bytes
  have hr := B.returns
  have hts := atoms_spec (ws := wsX6_needLabel) B.pre
  have hown : s.vm.findClass RX6 = some m.cls := findClass_of_methodNamed B.named
  have hlocks := B.notSynchronized
  have X : Cxx p l e s m _ below meth c cX6_needLabel none 2 RX6 wsX6_needLabel z G := ⟨hx, hb, hr, hml, hown, hts, hlocks, hE, hz, htb, hlt⟩
  have hS : va_S (Az z) s.heap s.heap [] := va_S.rf
  have hl := lv_entry [.int p0, .int p1] (n := 2) (Nat.le_of_ble_eq_true rfl)
  rw [lg_entry_eq]
  generalize (lg_sl [.int p0, .int p1] ++ List.replicate (2 - (lg_sl [.int p0, .int p1]).length) Slot.unset).toArray = ls at hl ⊢
  have hl : lv_has ls 2 [(0, .int p0), (1, .int p1)] := hl
  unfold wpX6_needLabel at h
  refine lv_iload_n hx hb dX6_needLabel_0 rfl (lv_at hl 0 rfl) ?_
  refine lv_iconst (v := (1 : Int32)) hx hb dX6_needLabel_1 (by decide) ?_
  refine r_icmp_lt hx hb rfl (show (1 : Int32).toInt = 1 by decide) (tgt := 11) dX6_needLabel_2 (by decide) (fun c1 => ?_) (fun c1 => ?_)
  · have h := ite_t c1 h
    exact r_throw (k := 21) (k2 := 2) (cls := "java/lang/IllegalArgumentException") (ik := 53) (is := 251) (ic := 57) (text := "number is out of range") hx hb hlt hts hown hml hlocks htb hE hW hS hl.1 (List.mem_of_getElem? (i := 1) rfl) (List.mem_of_getElem? (i := 2) rfl) (fun w h => List.mem_cons_of_mem _ (List.mem_append_right _ h)) rfl rfl (by decide +kernel) (by decide +kernel) rfl dX6_needLabel_11 dX6_needLabel_14 dX6_needLabel_15 dX6_needLabel_17 dX6_needLabel_20 (Nat.le_of_ble_eq_true rfl) (Nat.le_of_ble_eq_true rfl) (Nat.le_of_ble_eq_true rfl) (Nat.le_of_ble_eq_true rfl) (Nat.le_of_ble_eq_true rfl) (Nat.le_of_ble_eq_true rfl) ⟨rfl, h⟩
  · have h := ite_f c1 h
    refine lv_iload_n hx hb dX6_needLabel_5 rfl (lv_at hl 0 rfl) ?_
    refine lv_bipush (v := (99 : Int32)) hx hb dX6_needLabel_6 (by decide) ?_
    refine r_icmp_le hx hb rfl (show (99 : Int32).toInt = 99 by decide) (tgt := 21) dX6_needLabel_8 (by decide) (fun c2 => ?_) (fun c2 => ?_)
    · have h := ite_t c2 h
      refine lv_iload_n hx hb dX6_needLabel_21 rfl (lv_at hl 1 rfl) ?_
      refine r_if_lt hx hb rfl (tgt := 32) dX6_needLabel_22 (by decide) (fun c3 => ?_) (fun c3 => ?_)
      · have h := ite_t c3 h
        exact r_throw (k := 22) (k2 := 2) (cls := "java/lang/IllegalArgumentException") (ik := 53) (is := 253) (ic := 57) (text := "letters is out of range") hx hb hlt hts hown hml hlocks htb hE hW hS hl.1 (List.mem_of_getElem? (i := 1) rfl) (List.mem_of_getElem? (i := 2) rfl) (fun w h => List.mem_cons_of_mem _ (List.mem_append_right _ h)) rfl rfl (by decide +kernel) (by decide +kernel) rfl dX6_needLabel_32 dX6_needLabel_35 dX6_needLabel_36 dX6_needLabel_38 dX6_needLabel_41 (Nat.le_of_ble_eq_true rfl) (Nat.le_of_ble_eq_true rfl) (Nat.le_of_ble_eq_true rfl) (Nat.le_of_ble_eq_true rfl) (Nat.le_of_ble_eq_true rfl) (Nat.le_of_ble_eq_true rfl) ⟨rfl, h⟩
      · have h := ite_f c3 h
        refine lv_iload_n hx hb dX6_needLabel_25 rfl (lv_at hl 1 rfl) ?_
        refine lv_sipush (v := (728 : Int32)) hx hb dX6_needLabel_26 (by decide) ?_
        refine r_icmp_le hx hb rfl (show (728 : Int32).toInt = 728 by decide) (tgt := 42) dX6_needLabel_29 (by decide) (fun c4 => ?_) (fun c4 => ?_)
        · have h := ite_t c4 h
          refine lv_iload_n hx hb dX6_needLabel_42 rfl (lv_at hl 1 rfl) ?_
          refine r_if_le hx hb rfl (tgt := 63) dX6_needLabel_43 (by decide) (fun c5 => ?_) (fun c5 => ?_)
          · have h := ite_t c5 h
            refine W.widen (k := 1) (n := 6) (Nat.le_of_ble_eq_true rfl) (Nat.le_of_ble_eq_true rfl) ?_
            refine vx_ret ?_
            exact W.vret hx hb hr (fun t ht _ => ⟨⟨(σ, ν, ρ, lo), rfl, ⟨rfl, h⟩, WP.at9 ht hW⟩, hS.F ht⟩) hS.2.2 dX6_needLabel_63 (hlocks := hlocks)
          · have h := ite_f c5 h
            refine lv_iload_n hx hb dX6_needLabel_46 rfl (lv_at hl 1 rfl) ?_
            refine lv_bipush (v := (27 : Int32)) hx hb dX6_needLabel_47 (by decide) ?_
            refine lv_irem hx hb dX6_needLabel_49 (by decide) ?_
            refine r_if_ne hx hb rfl (tgt := 63) dX6_needLabel_50 (by decide) (fun c6 => ?_) (fun c6 => ?_)
            · have h := ite_f c6 h
              refine W.widen (k := 1) (n := 6) (Nat.le_of_ble_eq_true rfl) (Nat.le_of_ble_eq_true rfl) ?_
              refine vx_ret ?_
              exact W.vret hx hb hr (fun t ht _ => ⟨⟨(σ, ν, ρ, lo), rfl, ⟨rfl, h⟩, WP.at9 ht hW⟩, hS.F ht⟩) hS.2.2 dX6_needLabel_63 (hlocks := hlocks)
            · have h := ite_t c6 h
              exact r_throw (k := 23) (k2 := 2) (cls := "java/lang/IllegalArgumentException") (ik := 53) (is := 255) (ic := 57) (text := "the second letter is none") hx hb hlt hts hown hml hlocks htb hE hW hS hl.1 (List.mem_of_getElem? (i := 1) rfl) (List.mem_of_getElem? (i := 2) rfl) (fun w h => List.mem_cons_of_mem _ (List.mem_append_right _ h)) rfl rfl (by decide +kernel) (by decide +kernel) rfl dX6_needLabel_53 dX6_needLabel_56 dX6_needLabel_57 dX6_needLabel_59 dX6_needLabel_62 (Nat.le_of_ble_eq_true rfl) (Nat.le_of_ble_eq_true rfl) (Nat.le_of_ble_eq_true rfl) (Nat.le_of_ble_eq_true rfl) (Nat.le_of_ble_eq_true rfl) (Nat.le_of_ble_eq_true rfl) ⟨rfl, h⟩
        · have h := ite_f c4 h
          exact r_throw (k := 22) (k2 := 2) (cls := "java/lang/IllegalArgumentException") (ik := 53) (is := 253) (ic := 57) (text := "letters is out of range") hx hb hlt hts hown hml hlocks htb hE hW hS hl.1 (List.mem_of_getElem? (i := 1) rfl) (List.mem_of_getElem? (i := 2) rfl) (fun w h => List.mem_cons_of_mem _ (List.mem_append_right _ h)) rfl rfl (by decide +kernel) (by decide +kernel) rfl dX6_needLabel_32 dX6_needLabel_35 dX6_needLabel_36 dX6_needLabel_38 dX6_needLabel_41 (Nat.le_of_ble_eq_true rfl) (Nat.le_of_ble_eq_true rfl) (Nat.le_of_ble_eq_true rfl) (Nat.le_of_ble_eq_true rfl) (Nat.le_of_ble_eq_true rfl) (Nat.le_of_ble_eq_true rfl) ⟨rfl, h⟩
    · have h := ite_f c2 h
      exact r_throw (k := 21) (k2 := 2) (cls := "java/lang/IllegalArgumentException") (ik := 53) (is := 251) (ic := 57) (text := "number is out of range") hx hb hlt hts hown hml hlocks htb hE hW hS hl.1 (List.mem_of_getElem? (i := 1) rfl) (List.mem_of_getElem? (i := 2) rfl) (fun w h => List.mem_cons_of_mem _ (List.mem_append_right _ h)) rfl rfl (by decide +kernel) (by decide +kernel) rfl dX6_needLabel_11 dX6_needLabel_14 dX6_needLabel_15 dX6_needLabel_17 dX6_needLabel_20 (Nat.le_of_ble_eq_true rfl) (Nat.le_of_ble_eq_true rfl) (Nat.le_of_ble_eq_true rfl) (Nat.le_of_ble_eq_true rfl) (Nat.le_of_ble_eq_true rfl) (Nat.le_of_ble_eq_true rfl) ⟨rfl, h⟩
set_option maxHeartbeats 4000000 in
set_option maxRecDepth 100000 in
theorem mtX6_needRoomInAct (l : Launch) (hlt : l.stackTraces = false) (z : Nat) (G : Gl) (ad : Nat → Nat → Nat) (σ : SG) (ν : NU) (ρ : RH) (lo : Int64)  (post : Prop) (px : String → Prop) (h : wpX6_needRoomInAct σ ν  post px) : vx_Met l yX6_needRoomInAct wsX6_needRoomInAct ({ frames := 6, cells := 1, slots := 6, locals := 82 } : Room) (Pcs z G ad (σ, ν, ρ, lo) [.ref (ad 0 0)]) (Qvs z G ad (fun S1 => S1 = (σ, ν, ρ, lo) ∧ post)) (XCs z G ad (fun E S1 => S1 = (σ, ν, ρ, lo) ∧ px E)) 1 6 (Az z) := by
  refine vx_ofW (cc := cX6_needRoomInAct) (maxL := 1) (ret := none) (by decide) rfl ?_
  intro p e s m args below meth c s₁ B hml htb hv
  obtain ⟨rfl, hz, hW, hE⟩ := hv
  have hx := B.exec
  have hb := B.bytes
  have hr := B.returns
  have hts := atoms_spec (ws := wsX6_needRoomInAct) B.pre
  have hown : s.vm.findClass RX6 = some m.cls := findClass_of_methodNamed B.named
  have hlocks := B.notSynchronized
  have X : Cxx p l e s m _ below meth c cX6_needRoomInAct none 1 RX6 wsX6_needRoomInAct z G := ⟨hx, hb, hr, hml, hown, hts, hlocks, hE, hz, htb, hlt⟩
  have hS : va_S (Az z) s.heap s.heap [] := va_S.rf
  have hl := lv_entry [.ref (ad 0 0)] (n := 1) (Nat.le_of_ble_eq_true rfl)
  rw [lg_entry_eq]
  generalize (lg_sl [.ref (ad 0 0)] ++ List.replicate (1 - (lg_sl [.ref (ad 0 0)]).length) Slot.unset).toArray = ls at hl ⊢
  have hl : lv_has ls 1 [(0, .ref (ad 0 0))] := hl
  unfold wpX6_needRoomInAct at h
  refine lv_aload_n hx hb dX6_needRoomInAct_0 rfl (lv_at hl 0 rfl) ?_
  refine r_get (C := RX6) (T := TX6) (N := 8) (ci := 9) (fs := fl_0 ad ν ρ 0 (σ 0 0)) hx hb hts hown hE hW 0 0 rfl rfl rfl (fun w h => List.mem_cons_of_mem _ (List.mem_append_left _ (List.mem_append_left _ (List.mem_append_right _ h)))) 6 (by decide) (List.mem_of_getElem? (i := 3) rfl) rfl (v := .int (σ 0 0 6)) rfl dX6_needRoomInAct_1 ?_
  refine lv_aload_n hx hb dX6_needRoomInAct_4 rfl (lv_at hl 0 rfl) ?_
  refine r_get (C := RX6) (T := TX6) (N := 8) (ci := 9) (fs := fl_0 ad ν ρ 0 (σ 0 0)) hx hb hts hown hE hW 0 0 rfl rfl rfl (fun w h => List.mem_cons_of_mem _ (List.mem_append_left _ (List.mem_append_left _ (List.mem_append_right _ h)))) 4 (by decide) (List.mem_of_getElem? (i := 4) rfl) rfl (v := .int (σ 0 0 4)) rfl dX6_needRoomInAct_5 ?_
  refine r_icmp_eq hx hb rfl rfl (tgt := 22) dX6_needRoomInAct_8 (by decide) (fun c1 => ?_) (fun c1 => ?_)
  · have h := ite_t c1 h
    refine lv_aload_n hx hb dX6_needRoomInAct_22 rfl (lv_at hl 0 rfl) ?_
    refine r_get (C := RX6) (T := TX6) (N := 8) (ci := 9) (fs := fl_0 ad ν ρ 0 (σ 0 0)) hx hb hts hown hE hW 0 0 rfl rfl rfl (fun w h => List.mem_cons_of_mem _ (List.mem_append_left _ (List.mem_append_left _ (List.mem_append_right _ h)))) 0 (by decide) (List.mem_of_getElem? (i := 5) rfl) rfl (v := .ref (ad 7 0)) rfl dX6_needRoomInAct_23 ?_
    refine k_Vi (rest := []) (As := []) ⟨hx, hb, hml, hown, hts⟩ hE hz hS hW (mtJx4a65c_size_8abf5 l z G ad σ ν ρ lo 0 _ h) (cwV 0 hts gX6_needRoomInAct_Jx4a65c_size_8abf5 rfl rfl rfl (by decide +kernel) ⟨Nat.le_of_ble_eq_true rfl, Nat.le_of_ble_eq_true rfl⟩) (r_recv hE hW 7 0 (show 0 < 3 by decide) (ci := 2) rfl rfl) rfl hl.1 rfl (Nat.le_of_ble_eq_true rfl) dX6_needRoomInAct_26 ⟨Nat.le_of_ble_eq_true rfl, Nat.le_of_ble_eq_true rfl⟩ (fun r2 S1 H locs hp hW hS => ?_)
    obtain ⟨rfl, h⟩ := hp
    refine lv_bipush (v := (40 : Int32)) hx hb dX6_needRoomInAct_29 (by decide) ?_
    refine r_icmp_lt hx hb rfl (show (40 : Int32).toInt = 40 by decide) (tgt := 45) dX6_needRoomInAct_31 (by decide) (fun c3 => ?_) (fun c3 => ?_)
    · have h := ite_t c3 h
      refine W.widen (k := 1) (n := 6) (Nat.le_of_ble_eq_true rfl) (Nat.le_of_ble_eq_true rfl) ?_
      refine vx_ret ?_
      exact W.vret hx hb hr (fun t ht _ => ⟨⟨(σ, ν, ρ, lo), rfl, ⟨rfl, h⟩, WP.at9 ht hW⟩, hS.F ht⟩) hS.2.2 dX6_needRoomInAct_45 (hlocks := hlocks)
    · have h := ite_f c3 h
      exact r_throwW (k := 25) (k2 := 3) (cls := "java/lang/IllegalStateException") (ik := 60) (is := 259) (ic := 64) (text := "no more instructions") hx hb hlt hts hown hml hlocks htb hE hW hS hl.1 (List.mem_of_getElem? (i := 1) rfl) (List.mem_of_getElem? (i := 2) rfl) (fun w h => List.mem_cons_of_mem _ (List.mem_append_right _ h)) rfl rfl (by decide +kernel) (by decide +kernel) rfl dX6_needRoomInAct_34 dX6_needRoomInAct_37 dX6_needRoomInAct_38 dX6_needRoomInAct_41 dX6_needRoomInAct_44 (Nat.le_of_ble_eq_true rfl) (Nat.le_of_ble_eq_true rfl) (Nat.le_of_ble_eq_true rfl) (Nat.le_of_ble_eq_true rfl) (Nat.le_of_ble_eq_true rfl) (Nat.le_of_ble_eq_true rfl) ⟨rfl, h⟩
  · have h := ite_f c1 h
    exact r_throwW (k := 24) (k2 := 3) (cls := "java/lang/IllegalStateException") (ik := 60) (is := 257) (ic := 64) (text := "no act was made today") hx hb hlt hts hown hml hlocks htb hE hW hS hl.1 (List.mem_of_getElem? (i := 1) rfl) (List.mem_of_getElem? (i := 2) rfl) (fun w h => List.mem_cons_of_mem _ (List.mem_append_right _ h)) rfl rfl (by decide +kernel) (by decide +kernel) rfl dX6_needRoomInAct_11 dX6_needRoomInAct_14 dX6_needRoomInAct_15 dX6_needRoomInAct_18 dX6_needRoomInAct_21 (Nat.le_of_ble_eq_true rfl) (Nat.le_of_ble_eq_true rfl) (Nat.le_of_ble_eq_true rfl) (Nat.le_of_ble_eq_true rfl) (Nat.le_of_ble_eq_true rfl) (Nat.le_of_ble_eq_true rfl) ⟨rfl, h⟩
set_option maxHeartbeats 4000000 in
set_option maxRecDepth 100000 in
theorem mtX6_joinLabel (l : Launch) (z : Nat) (G : Gl) (ad : Nat → Nat → Nat) (σ : SG) (ν : NU) (ρ : RH) (lo : Int64) (p0 : Int32) (p1 : Int32) (post : Int32 → Prop) (h : wpX6_joinLabel σ ν p0 p1 post) : Met l yX6_joinLabel wsX6_joinLabel ({ frames := 0, cells := 0, slots := 0, locals := 0 } : Room) (Pcs z G ad (σ, ν, ρ, lo) [.int p0, .int p1]) (Qis z G ad (fun r S1 => S1 = (σ, ν, ρ, lo) ∧ post r)) 0 0 (Az z) := by
  refine Met.ofW (cc := cX6_joinLabel) (maxL := 2) (ret := (some .int)) (by decide) rfl ?_
  intro p e s m args below meth c s₁ B hml hv
  obtain ⟨rfl, hz, hW, hE⟩ := hv
  have hx := B.exec
  have hb := B.bytes
  have hr := B.returns
  have hts := atoms_spec (ws := wsX6_joinLabel) B.pre
  have hown : s.vm.findClass RX6 = some m.cls := findClass_of_methodNamed B.named
  have hlocks := B.notSynchronized
  have X : Cx p l e s m _ below meth c cX6_joinLabel (some .int) 2 RX6 wsX6_joinLabel z G := ⟨hx, hb, hr, hml, hown, hts, hlocks, hE, hz⟩
  have hS : va_S (Az z) s.heap s.heap [] := va_S.rf
  have hl := lv_entry [.int p0, .int p1] (n := 2) (Nat.le_of_ble_eq_true rfl)
  rw [lg_entry_eq]
  generalize (lg_sl [.int p0, .int p1] ++ List.replicate (2 - (lg_sl [.int p0, .int p1]).length) Slot.unset).toArray = ls at hl ⊢
  have hl : lv_has ls 2 [(0, .int p0), (1, .int p1)] := hl
  unfold wpX6_joinLabel at h
  refine lv_sipush (v := (1000 : Int32)) hx hb dX6_joinLabel_0 (by decide) ?_
  refine lv_iload_n hx hb dX6_joinLabel_3 rfl (lv_at hl 0 rfl) ?_
  refine lv_imul hx hb dX6_joinLabel_4 ?_
  refine lv_iload_n hx hb dX6_joinLabel_5 rfl (lv_at hl 1 rfl) ?_
  refine lv_iadd hx hb dX6_joinLabel_6 ?_
  exact W.iret (v := (((1000 : Int32)) * p0) + p1) hx hb hr (fun t ht _ => ⟨⟨_, (σ, ν, ρ, lo), rfl, ⟨rfl, h⟩, WP.at9 ht hW⟩, hS.F ht⟩) hS.2.2 dX6_joinLabel_7 (hlocks := hlocks)
set_option maxHeartbeats 4000000 in
set_option maxRecDepth 100000 in
theorem mtX6_add (l : Launch) (z : Nat) (G : Gl) (ad : Nat → Nat → Nat) (σ : SG) (ν : NU) (ρ : RH) (lo : Int64) (p1 : Int32) (p2 : Int32) (post : SG → NU → Prop) (h : wpX6_add σ ν p1 p2 post) : Met l yX6_add wsX6_add ({ frames := 7, cells := 9, slots := 94, locals := 171 } : Room) (Pcs z G ad (σ, ν, ρ, lo) [.ref (ad 0 0), .int p1, .int p2]) (Qva z G (fun S1 => ∃ (t : SG) (u : NU), S1.1 = (t, u, ρ, lo) ∧ Xt ad S1.2 ν u ∧ post t u)) 9 94 (Az z) := by
  refine Met.ofW (cc := cX6_add) (maxL := 3) (ret := none) (by decide) rfl ?_
  intro p e s m args below meth c s₁ B hml hv
  obtain ⟨rfl, hz, hW, hE⟩ := hv
  have hx := B.exec
  have hb := B.bytes
  have hr := B.returns
  have hts := atoms_spec (ws := wsX6_add) B.pre
  have hown : s.vm.findClass RX6 = some m.cls := findClass_of_methodNamed B.named
  have hlocks := B.notSynchronized
  have X : Cx p l e s m _ below meth c cX6_add none 3 RX6 wsX6_add z G := ⟨hx, hb, hr, hml, hown, hts, hlocks, hE, hz⟩
  have hS : va_S (Az z) s.heap s.heap [] := va_S.rf
  have hl := lv_entry [.ref (ad 0 0), .int p1, .int p2] (n := 3) (Nat.le_of_ble_eq_true rfl)
  rw [lg_entry_eq]
  generalize (lg_sl [.ref (ad 0 0), .int p1, .int p2] ++ List.replicate (3 - (lg_sl [.ref (ad 0 0), .int p1, .int p2]).length) Slot.unset).toArray = ls at hl ⊢
  have hl : lv_has ls 3 [(0, .ref (ad 0 0)), (1, .int p1), (2, .int p2)] := hl
  unfold wpX6_add at h
  refine lv_aload_n hx hb dX6_add_0 rfl (lv_at hl 0 rfl) ?_
  refine r_get (C := RX6) (T := TX6) (N := 8) (ci := 9) (fs := fl_0 ad ν ρ 0 (σ 0 0)) hx hb hts hown hE hW 0 0 rfl rfl rfl (fun w h => List.mem_cons_of_mem _ (List.mem_append_left _ (List.mem_append_left _ (List.mem_append_left _ (List.mem_append_left _ (List.mem_append_right _ h)))))) 3 (by decide) (List.mem_of_getElem? (i := 1) rfl) rfl (v := .ref (ad 3 (ν 0 0 3))) rfl dX6_add_1 ?_
  refine lv_aload_n hx hb dX6_add_4 rfl (lv_at hl 0 rfl) ?_
  refine r_get (C := RX6) (T := TX6) (N := 8) (ci := 9) (fs := fl_0 ad ν ρ 0 (σ 0 0)) hx hb hts hown hE hW 0 0 rfl rfl rfl (fun w h => List.mem_cons_of_mem _ (List.mem_append_left _ (List.mem_append_left _ (List.mem_append_left _ (List.mem_append_left _ (List.mem_append_right _ h)))))) 0 (by decide) (List.mem_of_getElem? (i := 2) rfl) rfl (v := .ref (ad 7 0)) rfl dX6_add_5 ?_
  refine k_Vi (rest := [.ref (ad 3 (ν 0 0 3))]) (As := []) ⟨hx, hb, hml, hown, hts⟩ hE hz hS hW (mtJx4a65c_size_8abf5 l z G ad σ ν ρ lo 0 _ h) (cwV 0 hts gX6_add_Jx4a65c_size_8abf5 rfl rfl rfl (by decide +kernel) ⟨Nat.le_of_ble_eq_true rfl, Nat.le_of_ble_eq_true rfl⟩) (r_recv hE hW 7 0 (show 0 < 3 by decide) (ci := 2) rfl rfl) rfl hl.1 rfl (Nat.le_of_ble_eq_true rfl) dX6_add_8 ⟨Nat.le_of_ble_eq_true rfl, Nat.le_of_ble_eq_true rfl⟩ (fun r1 S1 H locs hp hW hS => ?_)
  obtain ⟨rfl, h⟩ := hp
  obtain ⟨g2, h⟩ := h
  refine r_putC (C := RX0) (T := TX0) (N := 13) (ci := 3) (fl := fl_3 ad ν ρ (ν 0 0 3)) hx hb hts hown hE hW hS 3 (ν 0 0 3) g2 (fun _ => rfl) rfl (fun w h => List.mem_cons_of_mem _ (List.mem_append_left _ (List.mem_append_left _ (List.mem_append_left _ (List.mem_append_right _ h))))) tyX0_ok nmX0 0 (by decide) (List.mem_of_getElem? (i := 3) rfl) rfl rfl rfl (Nat.le_of_ble_eq_true rfl) (x := r1) rfl dX6_add_11 (fun t3 e4 H locs hW hS => ?_)
  have h := h t3 e4
  refine lv_aload_n hx hb dX6_add_14 rfl (lv_at hl 0 rfl) ?_
  refine r_get (C := RX6) (T := TX6) (N := 8) (ci := 9) (fs := fl_0 ad ν ρ 0 (t3 0 0)) hx hb hts hown hE hW 0 0 rfl rfl rfl (fun w h => List.mem_cons_of_mem _ (List.mem_append_left _ (List.mem_append_left _ (List.mem_append_left _ (List.mem_append_left _ (List.mem_append_right _ h)))))) 3 (by decide) (List.mem_of_getElem? (i := 1) rfl) rfl (v := .ref (ad 3 (ν 0 0 3))) rfl dX6_add_15 ?_
  refine lv_aload_n hx hb dX6_add_18 rfl (lv_at hl 0 rfl) ?_
  refine r_get (C := RX6) (T := TX6) (N := 8) (ci := 9) (fs := fl_0 ad ν ρ 0 (t3 0 0)) hx hb hts hown hE hW 0 0 rfl rfl rfl (fun w h => List.mem_cons_of_mem _ (List.mem_append_left _ (List.mem_append_left _ (List.mem_append_left _ (List.mem_append_left _ (List.mem_append_right _ h)))))) 5 (by decide) (List.mem_of_getElem? (i := 4) rfl) rfl (v := .int (t3 0 0 5)) rfl dX6_add_19 ?_
  refine lv_iconst (v := (1 : Int32)) hx hb dX6_add_22 (by decide) ?_
  refine lv_isub hx hb dX6_add_23 ?_
  refine r_putC (C := RX0) (T := TX0) (N := 13) (ci := 3) (fl := fl_3 ad ν ρ (ν 0 0 3)) hx hb hts hown hE hW hS 3 (ν 0 0 3) g2 (fun _ => rfl) rfl (fun w h => List.mem_cons_of_mem _ (List.mem_append_left _ (List.mem_append_left _ (List.mem_append_left _ (List.mem_append_right _ h))))) tyX0_ok nmX0 1 (by decide) (List.mem_of_getElem? (i := 5) rfl) rfl rfl rfl (Nat.le_of_ble_eq_true rfl) (x := (t3 0 0 5) - ((1 : Int32))) rfl dX6_add_24 (fun t5 e6 H locs hW hS => ?_)
  have h := h t5 e6
  refine lv_aload_n hx hb dX6_add_27 rfl (lv_at hl 0 rfl) ?_
  refine r_get (C := RX6) (T := TX6) (N := 8) (ci := 9) (fs := fl_0 ad ν ρ 0 (t5 0 0)) hx hb hts hown hE hW 0 0 rfl rfl rfl (fun w h => List.mem_cons_of_mem _ (List.mem_append_left _ (List.mem_append_left _ (List.mem_append_left _ (List.mem_append_left _ (List.mem_append_right _ h)))))) 3 (by decide) (List.mem_of_getElem? (i := 1) rfl) rfl (v := .ref (ad 3 (ν 0 0 3))) rfl dX6_add_28 ?_
  refine lv_aload_n hx hb dX6_add_31 rfl (lv_at hl 0 rfl) ?_
  refine r_get (C := RX6) (T := TX6) (N := 8) (ci := 9) (fs := fl_0 ad ν ρ 0 (t5 0 0)) hx hb hts hown hE hW 0 0 rfl rfl rfl (fun w h => List.mem_cons_of_mem _ (List.mem_append_left _ (List.mem_append_left _ (List.mem_append_left _ (List.mem_append_left _ (List.mem_append_right _ h)))))) 4 (by decide) (List.mem_of_getElem? (i := 6) rfl) rfl (v := .int (t5 0 0 4)) rfl dX6_add_32 ?_
  refine r_putC (C := RX0) (T := TX0) (N := 13) (ci := 3) (fl := fl_3 ad ν ρ (ν 0 0 3)) hx hb hts hown hE hW hS 3 (ν 0 0 3) g2 (fun _ => rfl) rfl (fun w h => List.mem_cons_of_mem _ (List.mem_append_left _ (List.mem_append_left _ (List.mem_append_left _ (List.mem_append_right _ h))))) tyX0_ok nmX0 2 (by decide) (List.mem_of_getElem? (i := 7) rfl) rfl rfl rfl (Nat.le_of_ble_eq_true rfl) (x := t5 0 0 4) rfl dX6_add_35 (fun t7 e8 H locs hW hS => ?_)
  have h := h t7 e8
  refine lv_aload_n hx hb dX6_add_38 rfl (lv_at hl 0 rfl) ?_
  refine r_get (C := RX6) (T := TX6) (N := 8) (ci := 9) (fs := fl_0 ad ν ρ 0 (t7 0 0)) hx hb hts hown hE hW 0 0 rfl rfl rfl (fun w h => List.mem_cons_of_mem _ (List.mem_append_left _ (List.mem_append_left _ (List.mem_append_left _ (List.mem_append_left _ (List.mem_append_right _ h)))))) 3 (by decide) (List.mem_of_getElem? (i := 1) rfl) rfl (v := .ref (ad 3 (ν 0 0 3))) rfl dX6_add_39 ?_
  refine lv_iload_n hx hb dX6_add_42 rfl (lv_at hl 1 rfl) ?_
  refine r_putC (C := RX0) (T := TX0) (N := 13) (ci := 3) (fl := fl_3 ad ν ρ (ν 0 0 3)) hx hb hts hown hE hW hS 3 (ν 0 0 3) g2 (fun _ => rfl) rfl (fun w h => List.mem_cons_of_mem _ (List.mem_append_left _ (List.mem_append_left _ (List.mem_append_left _ (List.mem_append_right _ h))))) tyX0_ok nmX0 3 (by decide) (List.mem_of_getElem? (i := 8) rfl) rfl rfl rfl (Nat.le_of_ble_eq_true rfl) (x := p1) rfl dX6_add_43 (fun t9 e10 H locs hW hS => ?_)
  have h := h t9 e10
  refine lv_aload_n hx hb dX6_add_46 rfl (lv_at hl 0 rfl) ?_
  refine r_get (C := RX6) (T := TX6) (N := 8) (ci := 9) (fs := fl_0 ad ν ρ 0 (t9 0 0)) hx hb hts hown hE hW 0 0 rfl rfl rfl (fun w h => List.mem_cons_of_mem _ (List.mem_append_left _ (List.mem_append_left _ (List.mem_append_left _ (List.mem_append_left _ (List.mem_append_right _ h)))))) 3 (by decide) (List.mem_of_getElem? (i := 1) rfl) rfl (v := .ref (ad 3 (ν 0 0 3))) rfl dX6_add_47 ?_
  refine lv_iload_n hx hb dX6_add_50 rfl (lv_at hl 2 rfl) ?_
  refine r_putC (C := RX0) (T := TX0) (N := 13) (ci := 3) (fl := fl_3 ad ν ρ (ν 0 0 3)) hx hb hts hown hE hW hS 3 (ν 0 0 3) g2 (fun _ => rfl) rfl (fun w h => List.mem_cons_of_mem _ (List.mem_append_left _ (List.mem_append_left _ (List.mem_append_left _ (List.mem_append_right _ h))))) tyX0_ok nmX0 4 (by decide) (List.mem_of_getElem? (i := 9) rfl) rfl rfl rfl (Nat.le_of_ble_eq_true rfl) (x := p2) rfl dX6_add_51 (fun t11 e12 H locs hW hS => ?_)
  have h := h t11 e12
  refine lv_aload_n hx hb dX6_add_54 rfl (lv_at hl 0 rfl) ?_
  refine r_get (C := RX6) (T := TX6) (N := 8) (ci := 9) (fs := fl_0 ad ν ρ 0 (t11 0 0)) hx hb hts hown hE hW 0 0 rfl rfl rfl (fun w h => List.mem_cons_of_mem _ (List.mem_append_left _ (List.mem_append_left _ (List.mem_append_left _ (List.mem_append_left _ (List.mem_append_right _ h)))))) 0 (by decide) (List.mem_of_getElem? (i := 2) rfl) rfl (v := .ref (ad 7 0)) rfl dX6_add_55 ?_
  refine lv_aload_n hx hb dX6_add_58 rfl (lv_at hl 0 rfl) ?_
  refine r_get (C := RX6) (T := TX6) (N := 8) (ci := 9) (fs := fl_0 ad ν ρ 0 (t11 0 0)) hx hb hts hown hE hW 0 0 rfl rfl rfl (fun w h => List.mem_cons_of_mem _ (List.mem_append_left _ (List.mem_append_left _ (List.mem_append_left _ (List.mem_append_left _ (List.mem_append_right _ h)))))) 3 (by decide) (List.mem_of_getElem? (i := 1) rfl) rfl (v := .ref (ad 3 (ν 0 0 3))) rfl dX6_add_59 ?_
  refine kA_Vi (rest := []) (As := [.ref (ad 3 (ν 0 0 3))]) ⟨hx, hb, hml, hown, hts⟩ hE hz hS hW (mtJx4a65c_add_9ea2d l z G ad t11 ν ρ lo 0 (ν 0 0 3) _ h) (cwV 1 hts gX6_add_Jx4a65c_add_9ea2d rfl rfl rfl (by decide +kernel) ⟨Nat.le_of_ble_eq_true rfl, Nat.le_of_ble_eq_true rfl⟩) (r_recv hE hW 7 0 (show 0 < 3 by decide) (ci := 2) rfl rfl) rfl hl.1 rfl (Nat.le_of_ble_eq_true rfl) dX6_add_62 ⟨Nat.le_of_ble_eq_true rfl, Nat.le_of_ble_eq_true rfl⟩ (fun r13 S1 ad16 H locs hp hW hS => ?_)
  obtain ⟨t14, vv15, rfl, q17, h⟩ := hp
  have z18 : ad16 0 0 = ad 0 0 := (q17 0 0 (by decide) rfl).2
  have hl : lv_has ls 3 [(0, .ref (ad16 0 0)), (1, .int p1), (2, .int p2)] := by rw [z18]; exact hl
  refine lv_pop hx hb dX6_add_65 rfl ?_
  refine lv_aload_n hx hb dX6_add_66 rfl (lv_at hl 0 rfl) ?_
  obtain ⟨g25, h⟩ := h
  refine r_newInstr hx hb hml hl.1 hts hown hE hz hW hS (lv_at hl 0 rfl) g25 ⟨(Nat.le_of_ble_eq_true rfl), (Nat.le_of_ble_eq_true rfl), (Nat.le_of_ble_eq_true rfl), (Nat.le_of_ble_eq_true rfl)⟩ (fun t19 vv20 ad21 e23 e24 q22 H locs hW hS => ?_)
  have h := h t19 e23 vv20 e24
  exact W.vret hx hb hr (fun t ht _ => ⟨⟨((t19, vv20, ρ, lo), ad21), rfl, ⟨_, _, rfl, (Xt.tr (Xt.tr Xt.rf q17) q22), h⟩, WP.at9 ht hW⟩, hS.F ht⟩) hS.2.2 dX6_add_84 (hlocks := hlocks)
set_option maxHeartbeats 4000000 in
set_option maxRecDepth 100000 in
theorem tX5_clear_49 {p : Program} {l : Launch} {e : Env} {s : State} {m : MethodId} {args : Array Value} {below : List Frame} {meth : Method} {c : Code} {z : Nat} {G : Gl} {ad : Nat → Nat → Nat} {σ : SG} {ν : NU} {ρ : RH} {lo : Int64} (X : Cx p l e s m args below meth c cX5_clear none 2 RX5 wsX5_clear z G) (o0 : Nat)  (post : SG → NU → Prop) : ∀ (n : Nat) (a1 : SG) (a2 : NU) (x1 : Int32) {H : Heap} {locs : List Loc} {ls : Array Slot}, a2 99 = ν 99 → WP z G ad (a1, a2, ρ, lo) H → va_S (Az z) s.heap H locs → lv_has ls 2 [(0, .ref (ad 1 o0)), (1, .int x1)] → wX5_clear_49 o0 post n a1 a2 x1 → W p l e ({ frames := 1, cells := 0, slots := 0, locals := 23 } : Room) s m args below meth c H locs 0 0 (MQ below (Qvs z G ad (fun S1 => ∃ (t : SG) (u : NU), S1 = (t, u, ρ, lo) ∧ u 99 = ν 99 ∧ post t u)) args s 0 0 (Az z)) (F0 m 49 ls []) := by
  obtain ⟨hx, hb, hr, hml, hown, hts, hlocks, hE, hz⟩ := id X
  intro n
  induction n with
  | zero =>
    intro a1 a2 x1 H locs ls h99 hW hS hl h
    exact absurd h id
  | succ n ih =>
    intro a1 a2 x1 H locs ls h99 hW hS hl h
    unfold wX5_clear_49 at h
    refine lv_iload_n hx hb dX5_clear_49 rfl (lv_at hl 1 rfl) ?_
    refine lv_bipush (v := (20 : Int32)) hx hb dX5_clear_50 (by decide) ?_
    refine r_icmp_ge hx hb rfl (show (20 : Int32).toInt = 20 by decide) (tgt := 75) dX5_clear_52 (by decide) (fun c8 => ?_) (fun c8 => ?_)
    · have h := ite_f c8 h
      exact W.vret hx hb hr (fun t ht _ => ⟨⟨(a1, a2, ρ, lo), rfl, ⟨_, _, rfl, h99, h⟩, WP.at9 ht hW⟩, hS.F ht⟩) hS.2.2 dX5_clear_75 (hlocks := hlocks)
    · have h := ite_t c8 h
      refine lv_aload_n hx hb dX5_clear_55 rfl (lv_at hl 0 rfl) ?_
      obtain ⟨g9, h⟩ := h
      refine r_get (C := RX5) (T := TX5) (N := 13) (ci := 8) (fs := fl_1 ad a2 ρ o0 (a1 1 o0)) hx hb hts hown hE hW 1 o0 g9 rfl rfl (fun w h => List.mem_cons_of_mem _ (List.mem_append_left _ (List.mem_append_right _ h))) 4 (by decide) (List.mem_of_getElem? (i := 6) rfl) rfl (v := .ref (ad 14 o0)) rfl dX5_clear_56 ?_
      refine lv_iload_n hx hb dX5_clear_59 rfl (lv_at hl 1 rfl) ?_
      refine lv_iconst (v := (-1 : Int32)) hx hb dX5_clear_60 (by decide) ?_
      obtain ⟨b10, h⟩ := h
      refine r_iastC hx hb hE hW hS 14 o0 g9 (n := 20) (fun _ => rfl) b10 dX5_clear_61 (fun t11 e12 H locs hW hS => ?_)
      have h := h t11 e12
      refine lv_aload_n hx hb dX5_clear_62 rfl (lv_at hl 0 rfl) ?_
      refine r_get (C := RX5) (T := TX5) (N := 13) (ci := 8) (fs := fl_1 ad a2 ρ o0 (t11 1 o0)) hx hb hts hown hE hW 1 o0 g9 rfl rfl (fun w h => List.mem_cons_of_mem _ (List.mem_append_left _ (List.mem_append_right _ h))) 5 (by decide) (List.mem_of_getElem? (i := 7) rfl) rfl (v := .ref (ad 15 o0)) rfl dX5_clear_63 ?_
      refine lv_iload_n hx hb dX5_clear_66 rfl (lv_at hl 1 rfl) ?_
      refine lv_iconst (v := (-1 : Int32)) hx hb dX5_clear_67 (by decide) ?_
      obtain ⟨b13, h⟩ := h
      refine r_iastC hx hb hE hW hS 15 o0 g9 (n := 20) (fun _ => rfl) b13 dX5_clear_68 (fun t14 e15 H locs hW hS => ?_)
      have h := h t14 e15
      refine lv_iinc (v := x1 + (1 : Int32)) (lv' := [(1, .int (x1 + (1 : Int32))), (0, .ref (ad 1 o0))]) hx hb dX5_clear_69 hl (k := 1) rfl rfl (by decide) rfl (fun ls hl => ?_)
      refine lv_goto (tgt := 49) hx hb dX5_clear_72 (by decide) ?_
      exact ih t14 a2 (x1 + (1 : Int32)) h99 hW hS (lv_sub hl [1, 0] rfl) h
set_option maxHeartbeats 4000000 in
set_option maxRecDepth 100000 in
theorem tX5_clear_14 {p : Program} {l : Launch} {e : Env} {s : State} {m : MethodId} {args : Array Value} {below : List Frame} {meth : Method} {c : Code} {z : Nat} {G : Gl} {ad : Nat → Nat → Nat} {σ : SG} {ν : NU} {ρ : RH} {lo : Int64} (X : Cx p l e s m args below meth c cX5_clear none 2 RX5 wsX5_clear z G) (o0 : Nat)  (post : SG → NU → Prop) : ∀ (n : Nat) (a1 : SG) (a2 : NU) (x1 : Int32) {H : Heap} {locs : List Loc} {ls : Array Slot}, a2 99 = ν 99 → WP z G ad (a1, a2, ρ, lo) H → va_S (Az z) s.heap H locs → lv_has ls 2 [(0, .ref (ad 1 o0)), (1, .int x1)] → wX5_clear_14 o0 post n a1 a2 x1 → W p l e ({ frames := 1, cells := 0, slots := 0, locals := 23 } : Room) s m args below meth c H locs 0 0 (MQ below (Qvs z G ad (fun S1 => ∃ (t : SG) (u : NU), S1 = (t, u, ρ, lo) ∧ u 99 = ν 99 ∧ post t u)) args s 0 0 (Az z)) (F0 m 14 ls []) := by
  obtain ⟨hx, hb, hr, hml, hown, hts, hlocks, hE, hz⟩ := id X
  intro n
  induction n with
  | zero =>
    intro a1 a2 x1 H locs ls h99 hW hS hl h
    exact absurd h id
  | succ n ih =>
    intro a1 a2 x1 H locs ls h99 hW hS hl h
    unfold wX5_clear_14 at h
    refine lv_iload_n hx hb dX5_clear_14 rfl (lv_at hl 1 rfl) ?_
    refine lv_bipush (v := (40 : Int32)) hx hb dX5_clear_15 (by decide) ?_
    refine r_icmp_ge hx hb rfl (show (40 : Int32).toInt = 40 by decide) (tgt := 47) dX5_clear_17 (by decide) (fun c7 => ?_) (fun c7 => ?_)
    · have h := ite_f c7 h
      refine lv_iconst (v := (0 : Int32)) hx hb dX5_clear_47 (by decide) ?_
      refine lv_istore_n (lv' := [(1, .int ((0 : Int32))), (0, .ref (ad 1 o0))]) hx hb dX5_clear_48 rfl hl (by decide) rfl (fun ls hl => ?_)
      obtain ⟨n16, h⟩ := h
      exact tX5_clear_49 (σ := σ) (ρ := ρ) X o0 post  n16 a1 a2 ((0 : Int32)) h99 hW hS (lv_sub hl [1, 0] rfl) h
    · have h := ite_t c7 h
      refine lv_aload_n hx hb dX5_clear_20 rfl (lv_at hl 0 rfl) ?_
      obtain ⟨g17, h⟩ := h
      refine r_get (C := RX5) (T := TX5) (N := 13) (ci := 8) (fs := fl_1 ad a2 ρ o0 (a1 1 o0)) hx hb hts hown hE hW 1 o0 g17 rfl rfl (fun w h => List.mem_cons_of_mem _ (List.mem_append_left _ (List.mem_append_right _ h))) 1 (by decide) (List.mem_of_getElem? (i := 3) rfl) rfl (v := .ref (ad 11 o0)) rfl dX5_clear_21 ?_
      refine lv_iload_n hx hb dX5_clear_24 rfl (lv_at hl 1 rfl) ?_
      refine lv_iconst (v := (-1 : Int32)) hx hb dX5_clear_25 (by decide) ?_
      obtain ⟨b18, h⟩ := h
      refine r_iastC hx hb hE hW hS 11 o0 g17 (n := 40) (fun _ => rfl) b18 dX5_clear_26 (fun t19 e20 H locs hW hS => ?_)
      have h := h t19 e20
      refine lv_aload_n hx hb dX5_clear_27 rfl (lv_at hl 0 rfl) ?_
      refine r_get (C := RX5) (T := TX5) (N := 13) (ci := 8) (fs := fl_1 ad a2 ρ o0 (t19 1 o0)) hx hb hts hown hE hW 1 o0 g17 rfl rfl (fun w h => List.mem_cons_of_mem _ (List.mem_append_left _ (List.mem_append_right _ h))) 2 (by decide) (List.mem_of_getElem? (i := 4) rfl) rfl (v := .ref (ad 12 o0)) rfl dX5_clear_28 ?_
      refine lv_iload_n hx hb dX5_clear_31 rfl (lv_at hl 1 rfl) ?_
      refine lv_iconst (v := (0 : Int32)) hx hb dX5_clear_32 (by decide) ?_
      obtain ⟨b21, h⟩ := h
      refine r_iastC hx hb hE hW hS 12 o0 g17 (n := 40) (fun _ => rfl) b21 dX5_clear_33 (fun t22 e23 H locs hW hS => ?_)
      have h := h t22 e23
      refine lv_aload_n hx hb dX5_clear_34 rfl (lv_at hl 0 rfl) ?_
      refine r_get (C := RX5) (T := TX5) (N := 13) (ci := 8) (fs := fl_1 ad a2 ρ o0 (t22 1 o0)) hx hb hts hown hE hW 1 o0 g17 rfl rfl (fun w h => List.mem_cons_of_mem _ (List.mem_append_left _ (List.mem_append_right _ h))) 3 (by decide) (List.mem_of_getElem? (i := 5) rfl) rfl (v := .ref (ad 13 o0)) rfl dX5_clear_35 ?_
      refine lv_iload_n hx hb dX5_clear_38 rfl (lv_at hl 1 rfl) ?_
      refine lv_null hx hb dX5_clear_39 ?_
      obtain ⟨b24, h⟩ := h
      refine r_toldN hx hb hE hW hS o0 g17 b24 dX5_clear_40 (fun vv25 e26 H locs hW hS => ?_)
      have q27 : vv25 99 = a2 99 := by rw [e26]; exact u3_ne (by decide)
      have h := h vv25 e26
      refine lv_iinc (v := x1 + (1 : Int32)) (lv' := [(1, .int (x1 + (1 : Int32))), (0, .ref (ad 1 o0))]) hx hb dX5_clear_41 hl (k := 1) rfl rfl (by decide) rfl (fun ls hl => ?_)
      refine lv_goto (tgt := 14) hx hb dX5_clear_44 (by decide) ?_
      exact ih t22 vv25 (x1 + (1 : Int32)) (q27.trans h99) hW hS (lv_sub hl [1, 0] rfl) h
set_option maxHeartbeats 4000000 in
set_option maxRecDepth 100000 in
theorem mtX5_clear (l : Launch) (z : Nat) (G : Gl) (ad : Nat → Nat → Nat) (σ : SG) (ν : NU) (ρ : RH) (lo : Int64) (o0 : Nat) (post : SG → NU → Prop) (h : wpX5_clear σ ν o0 post) : Met l yX5_clear wsX5_clear ({ frames := 1, cells := 0, slots := 0, locals := 23 } : Room) (Pcs z G ad (σ, ν, ρ, lo) [.ref (ad 1 o0)]) (Qvs z G ad (fun S1 => ∃ (t : SG) (u : NU), S1 = (t, u, ρ, lo) ∧ u 99 = ν 99 ∧ post t u)) 0 0 (Az z) := by
  refine Met.ofW (cc := cX5_clear) (maxL := 2) (ret := none) (by decide) rfl ?_
  intro p e s m args below meth c s₁ B hml hv
  obtain ⟨rfl, hz, hW, hE⟩ := hv
  have hx := B.exec
  have hb := B.bytes
  have hr := B.returns
  have hts := atoms_spec (ws := wsX5_clear) B.pre
  have hown : s.vm.findClass RX5 = some m.cls := findClass_of_methodNamed B.named
  have hlocks := B.notSynchronized
  have X : Cx p l e s m _ below meth c cX5_clear none 2 RX5 wsX5_clear z G := ⟨hx, hb, hr, hml, hown, hts, hlocks, hE, hz⟩
  have hS : va_S (Az z) s.heap s.heap [] := va_S.rf
  have hl := lv_entry [.ref (ad 1 o0)] (n := 2) (Nat.le_of_ble_eq_true rfl)
  rw [lg_entry_eq]
  generalize (lg_sl [.ref (ad 1 o0)] ++ List.replicate (2 - (lg_sl [.ref (ad 1 o0)]).length) Slot.unset).toArray = ls at hl ⊢
  have hl : lv_has ls 2 [(0, .ref (ad 1 o0))] := hl
  unfold wpX5_clear at h
  refine lv_aload_n hx hb dX5_clear_0 rfl (lv_at hl 0 rfl) ?_
  obtain ⟨g1, h⟩ := h
  refine r_get (C := RX5) (T := TX5) (N := 13) (ci := 8) (fs := fl_1 ad ν ρ o0 (σ 1 o0)) hx hb hts hown hE hW 1 o0 g1 rfl rfl (fun w h => List.mem_cons_of_mem _ (List.mem_append_left _ (List.mem_append_right _ h))) 0 (by decide) (List.mem_of_getElem? (i := 1) rfl) rfl (v := .ref (ad 7 (1 + o0))) rfl dX5_clear_1 ?_
  refine k_Vv (rest := []) (As := []) ⟨hx, hb, hml, hown, hts⟩ hE hz hS hW (mtJx4a65c_clear_da8c8 l z G ad σ ν ρ lo (1 + o0) _ h) (cwV 0 hts gX5_clear_Jx4a65c_clear_da8c8 rfl rfl rfl (by decide +kernel) ⟨Nat.le_of_ble_eq_true rfl, Nat.le_of_ble_eq_true rfl⟩) (r_recv hE hW 7 (1 + o0) (show 1 + o0 < 3 by omega) (ci := 2) rfl rfl) rfl hl.1 rfl (Nat.le_of_ble_eq_true rfl) dX5_clear_4 ⟨Nat.le_of_ble_eq_true rfl, Nat.le_of_ble_eq_true rfl⟩ (fun S1 H locs hp hW hS => ?_)
  obtain ⟨t2, vv3, rfl, q4, h⟩ := hp
  refine lv_aload_n hx hb dX5_clear_7 rfl (lv_at hl 0 rfl) ?_
  refine lv_iconst (v := (0 : Int32)) hx hb dX5_clear_8 (by decide) ?_
  refine r_putC (C := RX5) (T := TX5) (N := 13) (ci := 8) (fl := fl_1 ad vv3 ρ o0) hx hb hts hown hE hW hS 1 o0 g1 (fun _ => rfl) rfl (fun w h => List.mem_cons_of_mem _ (List.mem_append_left _ (List.mem_append_right _ h))) tyX5_ok nmX5 9 (by decide) (List.mem_of_getElem? (i := 2) rfl) rfl rfl rfl (Nat.le_of_ble_eq_true rfl) (x := (0 : Int32)) rfl dX5_clear_9 (fun t5 e6 H locs hW hS => ?_)
  have h := h t5 e6
  refine lv_iconst (v := (0 : Int32)) hx hb dX5_clear_12 (by decide) ?_
  refine lv_istore_n (lv' := [(1, .int ((0 : Int32))), (0, .ref (ad 1 o0))]) hx hb dX5_clear_13 rfl hl (by decide) rfl (fun ls hl => ?_)
  obtain ⟨n28, h⟩ := h
  exact tX5_clear_14 (σ := σ) (ρ := ρ) X o0 post  n28 t5 vv3 ((0 : Int32)) q4 hW hS (lv_sub hl [1, 0] rfl) h
set_option maxHeartbeats 4000000 in
set_option maxRecDepth 100000 in
theorem mtX1_isGiven (l : Launch) (z : Nat) (G : Gl) (ad : Nat → Nat → Nat) (σ : SG) (ν : NU) (ρ : RH) (lo : Int64) (o0 : Nat) (post : Int32 → Prop) (h : wpX1_isGiven σ ν o0 post) : Met l yX1_isGiven wsX1_isGiven ({ frames := 0, cells := 0, slots := 0, locals := 0 } : Room) (Pcs z G ad (σ, ν, ρ, lo) [.ref (ad 6 o0)]) (Qis z G ad (fun r S1 => S1 = (σ, ν, ρ, lo) ∧ post r)) 0 0 (Az z) := by
  refine Met.ofW (cc := cX1_isGiven) (maxL := 1) (ret := (some .boolean)) (by decide) rfl ?_
  intro p e s m args below meth c s₁ B hml hv
  obtain ⟨rfl, hz, hW, hE⟩ := hv
  have hx := B.exec
  have hb := B.bytes
  have hr := B.returns
  have hts := atoms_spec (ws := wsX1_isGiven) B.pre
  have hown : s.vm.findClass RX1 = some m.cls := findClass_of_methodNamed B.named
  have hlocks := B.notSynchronized
  have X : Cx p l e s m _ below meth c cX1_isGiven (some .boolean) 1 RX1 wsX1_isGiven z G := ⟨hx, hb, hr, hml, hown, hts, hlocks, hE, hz⟩
  have hS : va_S (Az z) s.heap s.heap [] := va_S.rf
  have hl := lv_entry [.ref (ad 6 o0)] (n := 1) (Nat.le_of_ble_eq_true rfl)
  rw [lg_entry_eq]
  generalize (lg_sl [.ref (ad 6 o0)] ++ List.replicate (1 - (lg_sl [.ref (ad 6 o0)]).length) Slot.unset).toArray = ls at hl ⊢
  have hl : lv_has ls 1 [(0, .ref (ad 6 o0))] := hl
  unfold wpX1_isGiven at h
  refine lv_aload_n hx hb dX1_isGiven_0 rfl (lv_at hl 0 rfl) ?_
  obtain ⟨g1, h⟩ := h
  refine r_get (C := RX1) (T := TX1) (N := 3) (ci := 4) (fs := fl_6 ad ν ρ o0 (σ 6 o0)) hx hb hts hown hE hW 6 o0 g1 rfl rfl (fun w h => List.mem_cons_of_mem _ (List.mem_append_right _ h)) 0 (by decide) (List.mem_of_getElem? (i := 1) rfl) rfl (v := .int (σ 6 o0 0)) rfl dX1_isGiven_1 ?_
  refine lv_iconst (v := (-1 : Int32)) hx hb dX1_isGiven_4 (by decide) ?_
  refine r_icmp_eq hx hb rfl (show (-1 : Int32).toInt = (-1) by decide) (tgt := 12) dX1_isGiven_5 (by decide) (fun c2 => ?_) (fun c2 => ?_)
  · have h := ite_t c2 h
    refine lv_iconst (v := (0 : Int32)) hx hb dX1_isGiven_12 (by decide) ?_
    exact W.zret (v := (0 : Int32)) (ty := .boolean) hx hb hr rfl (fun t ht _ => ⟨⟨_, (σ, ν, ρ, lo), rfl, ⟨rfl, h⟩, WP.at9 ht hW⟩, hS.F ht⟩) hS.2.2 dX1_isGiven_13 (hlocks := hlocks)
  · have h := ite_f c2 h
    refine lv_iconst (v := (1 : Int32)) hx hb dX1_isGiven_8 (by decide) ?_
    refine lv_goto (tgt := 13) hx hb dX1_isGiven_9 (by decide) ?_
    exact W.zret (v := (1 : Int32)) (ty := .boolean) hx hb hr rfl (fun t ht _ => ⟨⟨_, (σ, ν, ρ, lo), rfl, ⟨rfl, h⟩, WP.at9 ht hW⟩, hS.F ht⟩) hS.2.2 dX1_isGiven_13 (hlocks := hlocks)
set_option maxHeartbeats 4000000 in
set_option maxRecDepth 100000 in
theorem mtX1_isKnownOn (l : Launch) (z : Nat) (G : Gl) (ad : Nat → Nat → Nat) (σ : SG) (ν : NU) (ρ : RH) (lo : Int64) (o0 : Nat) (p1 : Int32) (post : Int32 → Prop) (h : wpX1_isKnownOn σ ν o0 p1 post) : Met l yX1_isKnownOn wsX1_isKnownOn ({ frames := 1, cells := 0, slots := 0, locals := 20 } : Room) (Pcs z G ad (σ, ν, ρ, lo) [.ref (ad 6 o0), .int p1]) (Qis z G ad (fun r S1 => S1 = (σ, ν, ρ, lo) ∧ post r)) 0 0 (Az z) := by
  refine Met.ofW (cc := cX1_isKnownOn) (maxL := 2) (ret := (some .boolean)) (by decide) rfl ?_
  intro p e s m args below meth c s₁ B hml hv
  obtain ⟨rfl, hz, hW, hE⟩ := hv
  have hx := B.exec
  have hb := B.bytes
  have hr := B.returns
  have hts := atoms_spec (ws := wsX1_isKnownOn) B.pre
  have hown : s.vm.findClass RX1 = some m.cls := findClass_of_methodNamed B.named
  have hlocks := B.notSynchronized
  have X : Cx p l e s m _ below meth c cX1_isKnownOn (some .boolean) 2 RX1 wsX1_isKnownOn z G := ⟨hx, hb, hr, hml, hown, hts, hlocks, hE, hz⟩
  have hS : va_S (Az z) s.heap s.heap [] := va_S.rf
  have hl := lv_entry [.ref (ad 6 o0), .int p1] (n := 2) (Nat.le_of_ble_eq_true rfl)
  rw [lg_entry_eq]
  generalize (lg_sl [.ref (ad 6 o0), .int p1] ++ List.replicate (2 - (lg_sl [.ref (ad 6 o0), .int p1]).length) Slot.unset).toArray = ls at hl ⊢
  have hl : lv_has ls 2 [(0, .ref (ad 6 o0)), (1, .int p1)] := hl
  unfold wpX1_isKnownOn at h
  refine lv_aload_n hx hb dX1_isKnownOn_0 rfl (lv_at hl 0 rfl) ?_
  obtain ⟨g1, h⟩ := h
  refine k_Vi (rest := []) (As := []) ⟨hx, hb, hml, hown, hts⟩ hE hz hS hW (mtX1_isGiven l z G ad σ ν ρ lo o0 _ h) (cwV 0 hts gX1_isKnownOn_X1_isGiven rfl rfl rfl (by decide +kernel) ⟨Nat.le_of_ble_eq_true rfl, Nat.le_of_ble_eq_true rfl⟩) (r_recv hE hW 6 o0 g1 (ci := 4) rfl rfl) rfl hl.1 rfl (Nat.le_of_ble_eq_true rfl) dX1_isKnownOn_1 ⟨Nat.le_of_ble_eq_true rfl, Nat.le_of_ble_eq_true rfl⟩ (fun r2 S1 H locs hp hW hS => ?_)
  obtain ⟨rfl, h⟩ := hp
  refine r_if_eq hx hb rfl (tgt := 19) dX1_isKnownOn_4 (by decide) (fun c3 => ?_) (fun c3 => ?_)
  · have h := ite_t c3 h
    refine lv_iconst (v := (0 : Int32)) hx hb dX1_isKnownOn_19 (by decide) ?_
    exact W.zret (v := (0 : Int32)) (ty := .boolean) hx hb hr rfl (fun t ht _ => ⟨⟨_, (σ, ν, ρ, lo), rfl, ⟨rfl, h⟩, WP.at9 ht hW⟩, hS.F ht⟩) hS.2.2 dX1_isKnownOn_20 (hlocks := hlocks)
  · have h := ite_f c3 h
    refine lv_aload_n hx hb dX1_isKnownOn_7 rfl (lv_at hl 0 rfl) ?_
    refine r_get (C := RX1) (T := TX1) (N := 3) (ci := 4) (fs := fl_6 ad ν ρ o0 (σ 6 o0)) hx hb hts hown hE hW 6 o0 g1 rfl rfl (fun w h => List.mem_cons_of_mem _ (List.mem_append_right _ h)) 0 (by decide) (List.mem_of_getElem? (i := 1) rfl) rfl (v := .int (σ 6 o0 0)) rfl dX1_isKnownOn_8 ?_
    refine lv_iload_n hx hb dX1_isKnownOn_11 rfl (lv_at hl 1 rfl) ?_
    refine r_icmp_gt hx hb rfl rfl (tgt := 19) dX1_isKnownOn_12 (by decide) (fun c4 => ?_) (fun c4 => ?_)
    · have h := ite_f c4 h
      refine lv_iconst (v := (0 : Int32)) hx hb dX1_isKnownOn_19 (by decide) ?_
      exact W.zret (v := (0 : Int32)) (ty := .boolean) hx hb hr rfl (fun t ht _ => ⟨⟨_, (σ, ν, ρ, lo), rfl, ⟨rfl, h⟩, WP.at9 ht hW⟩, hS.F ht⟩) hS.2.2 dX1_isKnownOn_20 (hlocks := hlocks)
    · have h := ite_t c4 h
      refine lv_iconst (v := (1 : Int32)) hx hb dX1_isKnownOn_15 (by decide) ?_
      refine lv_goto (tgt := 20) hx hb dX1_isKnownOn_16 (by decide) ?_
      exact W.zret (v := (1 : Int32)) (ty := .boolean) hx hb hr rfl (fun t ht _ => ⟨⟨_, (σ, ν, ρ, lo), rfl, ⟨rfl, h⟩, WP.at9 ht hW⟩, hS.F ht⟩) hS.2.2 dX1_isKnownOn_20 (hlocks := hlocks)
set_option maxHeartbeats 4000000 in
set_option maxRecDepth 100000 in
theorem mtX5_beginningOf (l : Launch) (z : Nat) (G : Gl) (ad : Nat → Nat → Nat) (σ : SG) (ν : NU) (ρ : RH) (lo : Int64) (o0 : Nat) (p1 : Int32) (post : Int32 → Prop) (h : wpX5_beginningOf σ ν o0 p1 post) : Met l yX5_beginningOf wsX5_beginningOf ({ frames := 0, cells := 0, slots := 0, locals := 0 } : Room) (Pcs z G ad (σ, ν, ρ, lo) [.ref (ad 1 o0), .int p1]) (Qis z G ad (fun r S1 => S1 = (σ, ν, ρ, lo) ∧ post r)) 0 0 (Az z) := by
  refine Met.ofW (cc := cX5_beginningOf) (maxL := 2) (ret := (some .int)) (by decide) rfl ?_
  intro p e s m args below meth c s₁ B hml hv
  obtain ⟨rfl, hz, hW, hE⟩ := hv
  have hx := B.exec
  have hb := B.bytes
  have hr := B.returns
  have hts := atoms_spec (ws := wsX5_beginningOf) B.pre
  have hown : s.vm.findClass RX5 = some m.cls := findClass_of_methodNamed B.named
  have hlocks := B.notSynchronized
  have X : Cx p l e s m _ below meth c cX5_beginningOf (some .int) 2 RX5 wsX5_beginningOf z G := ⟨hx, hb, hr, hml, hown, hts, hlocks, hE, hz⟩
  have hS : va_S (Az z) s.heap s.heap [] := va_S.rf
  have hl := lv_entry [.ref (ad 1 o0), .int p1] (n := 2) (Nat.le_of_ble_eq_true rfl)
  rw [lg_entry_eq]
  generalize (lg_sl [.ref (ad 1 o0), .int p1] ++ List.replicate (2 - (lg_sl [.ref (ad 1 o0), .int p1]).length) Slot.unset).toArray = ls at hl ⊢
  have hl : lv_has ls 2 [(0, .ref (ad 1 o0)), (1, .int p1)] := hl
  unfold wpX5_beginningOf at h
  refine lv_iload_n hx hb dX5_beginningOf_0 rfl (lv_at hl 1 rfl) ?_
  refine r_if_lt hx hb rfl (tgt := 22) dX5_beginningOf_1 (by decide) (fun c1 => ?_) (fun c1 => ?_)
  · have h := ite_t c1 h
    refine lv_iconst (v := (-1 : Int32)) hx hb dX5_beginningOf_22 (by decide) ?_
    exact W.iret (v := (-1 : Int32)) hx hb hr (fun t ht _ => ⟨⟨_, (σ, ν, ρ, lo), rfl, ⟨rfl, h⟩, WP.at9 ht hW⟩, hS.F ht⟩) hS.2.2 dX5_beginningOf_23 (hlocks := hlocks)
  · have h := ite_f c1 h
    refine lv_iload_n hx hb dX5_beginningOf_4 rfl (lv_at hl 1 rfl) ?_
    refine lv_aload_n hx hb dX5_beginningOf_5 rfl (lv_at hl 0 rfl) ?_
    obtain ⟨g2, h⟩ := h
    refine r_get (C := RX5) (T := TX5) (N := 13) (ci := 8) (fs := fl_1 ad ν ρ o0 (σ 1 o0)) hx hb hts hown hE hW 1 o0 g2 rfl rfl (fun w h => List.mem_cons_of_mem _ (List.mem_append_right _ h)) 1 (by decide) (List.mem_of_getElem? (i := 1) rfl) rfl (v := .ref (ad 11 o0)) rfl dX5_beginningOf_6 ?_
    refine r_alen hx hb hE hW 11 o0 g2 rfl 0 rfl (v := (40 : Int32)) rfl dX5_beginningOf_9 ?_
    refine r_icmp_ge hx hb rfl (show (40 : Int32).toInt = 40 by decide) (tgt := 22) dX5_beginningOf_10 (by decide) (fun c3 => ?_) (fun c3 => ?_)
    · have h := ite_f c3 h
      refine lv_iconst (v := (-1 : Int32)) hx hb dX5_beginningOf_22 (by decide) ?_
      exact W.iret (v := (-1 : Int32)) hx hb hr (fun t ht _ => ⟨⟨_, (σ, ν, ρ, lo), rfl, ⟨rfl, h⟩, WP.at9 ht hW⟩, hS.F ht⟩) hS.2.2 dX5_beginningOf_23 (hlocks := hlocks)
    · have h := ite_t c3 h
      refine lv_aload_n hx hb dX5_beginningOf_13 rfl (lv_at hl 0 rfl) ?_
      refine r_get (C := RX5) (T := TX5) (N := 13) (ci := 8) (fs := fl_1 ad ν ρ o0 (σ 1 o0)) hx hb hts hown hE hW 1 o0 g2 rfl rfl (fun w h => List.mem_cons_of_mem _ (List.mem_append_right _ h)) 1 (by decide) (List.mem_of_getElem? (i := 1) rfl) rfl (v := .ref (ad 11 o0)) rfl dX5_beginningOf_14 ?_
      refine lv_iload_n hx hb dX5_beginningOf_17 rfl (lv_at hl 1 rfl) ?_
      obtain ⟨b4, h⟩ := h
      refine r_iald hx hb hE hW 11 o0 g2 (n := 40) (f := σ 11 o0) rfl b4 (v := σ 11 o0 p1.toNatClampNeg) rfl dX5_beginningOf_18 ?_
      refine lv_goto (tgt := 23) hx hb dX5_beginningOf_19 (by decide) ?_
      exact W.iret (v := σ 11 o0 p1.toNatClampNeg) hx hb hr (fun t ht _ => ⟨⟨_, (σ, ν, ρ, lo), rfl, ⟨rfl, h⟩, WP.at9 ht hW⟩, hS.F ht⟩) hS.2.2 dX5_beginningOf_23 (hlocks := hlocks)
set_option maxHeartbeats 4000000 in
set_option maxRecDepth 100000 in
theorem mtX5_findBeginning (l : Launch) (z : Nat) (G : Gl) (ad : Nat → Nat → Nat) (σ : SG) (ν : NU) (ρ : RH) (lo : Int64) (o0 : Nat) (o1 : Nat) (post : Int32 → Prop) (h : wpX5_findBeginning σ ν o0 o1 post) : Met l yX5_findBeginning wsX5_findBeginning ({ frames := 2, cells := 0, slots := 0, locals := 41 } : Room) (Pcs z G ad (σ, ν, ρ, lo) [.ref (ad 1 o0), .ref (ad 3 o1)]) (Qis z G ad (fun r S1 => S1 = (σ, ν, ρ, lo) ∧ post r)) 0 0 (Az z) := by
  refine Met.ofW (cc := cX5_findBeginning) (maxL := 2) (ret := (some .int)) (by decide) rfl ?_
  intro p e s m args below meth c s₁ B hml hv
  obtain ⟨rfl, hz, hW, hE⟩ := hv
  have hx := B.exec
  have hb := B.bytes
  have hr := B.returns
  have hts := atoms_spec (ws := wsX5_findBeginning) B.pre
  have hown : s.vm.findClass RX5 = some m.cls := findClass_of_methodNamed B.named
  have hlocks := B.notSynchronized
  have X : Cx p l e s m _ below meth c cX5_findBeginning (some .int) 2 RX5 wsX5_findBeginning z G := ⟨hx, hb, hr, hml, hown, hts, hlocks, hE, hz⟩
  have hS : va_S (Az z) s.heap s.heap [] := va_S.rf
  have hl := lv_entry [.ref (ad 1 o0), .ref (ad 3 o1)] (n := 2) (Nat.le_of_ble_eq_true rfl)
  rw [lg_entry_eq]
  generalize (lg_sl [.ref (ad 1 o0), .ref (ad 3 o1)] ++ List.replicate (2 - (lg_sl [.ref (ad 1 o0), .ref (ad 3 o1)]).length) Slot.unset).toArray = ls at hl ⊢
  have hl : lv_has ls 2 [(0, .ref (ad 1 o0)), (1, .ref (ad 3 o1))] := hl
  unfold wpX5_findBeginning at h
  refine lv_aload_n hx hb dX5_findBeginning_0 rfl (lv_at hl 1 rfl) ?_
  obtain ⟨g1, h⟩ := h
  refine r_get (C := RX0) (T := TX0) (N := 13) (ci := 3) (fs := fl_3 ad ν ρ o1 (σ 3 o1)) hx hb hts hown hE hW 3 o1 g1 rfl rfl (fun w h => List.mem_cons_of_mem _ (List.mem_append_left _ (List.mem_append_left _ (List.mem_append_left _ (List.mem_append_right _ h))))) 2 (by decide) (List.mem_of_getElem? (i := 1) rfl) rfl (v := .int (σ 3 o1 2)) rfl dX5_findBeginning_1 ?_
  refine lv_aload_n hx hb dX5_findBeginning_4 rfl (lv_at hl 0 rfl) ?_
  obtain ⟨g2, h⟩ := h
  refine r_get (C := RX5) (T := TX5) (N := 13) (ci := 8) (fs := fl_1 ad ν ρ o0 (σ 1 o0)) hx hb hts hown hE hW 1 o0 g2 rfl rfl (fun w h => List.mem_cons_of_mem _ (List.mem_append_left _ (List.mem_append_left _ (List.mem_append_right _ h)))) 11 (by decide) (List.mem_of_getElem? (i := 2) rfl) rfl (v := .int (σ 1 o0 11)) rfl dX5_findBeginning_5 ?_
  refine r_icmp_le hx hb rfl rfl (tgt := 13) dX5_findBeginning_8 (by decide) (fun c3 => ?_) (fun c3 => ?_)
  · have h := ite_t c3 h
    refine lv_aload_n hx hb dX5_findBeginning_13 rfl (lv_at hl 1 rfl) ?_
    refine r_get (C := RX0) (T := TX0) (N := 13) (ci := 3) (fs := fl_3 ad ν ρ o1 (σ 3 o1)) hx hb hts hown hE hW 3 o1 g1 rfl rfl (fun w h => List.mem_cons_of_mem _ (List.mem_append_left _ (List.mem_append_left _ (List.mem_append_left _ (List.mem_append_right _ h))))) 7 (by decide) (List.mem_of_getElem? (i := 3) rfl) rfl (v := .ref (ad 5 (ν 3 o1 7))) rfl dX5_findBeginning_14 ?_
    obtain ⟨g4, h⟩ := h
    refine r_get (C := RX3) (T := TX3) (N := 4) (ci := 6) (fs := fl_5 ad ν ρ (ν 3 o1 7) (σ 5 (ν 3 o1 7))) hx hb hts hown hE hW 5 (ν 3 o1 7) g4 rfl rfl (fun w h => List.mem_cons_of_mem _ (List.mem_append_left _ (List.mem_append_right _ h))) 0 (by decide) (List.mem_of_getElem? (i := 4) rfl) rfl (v := .int (σ 5 (ν 3 o1 7) 0)) rfl dX5_findBeginning_17 ?_
    by_cases c5 : (σ 5 (ν 3 o1 7) 0).toInt = 0
    · have h := ite_t c5 h
      refine lv_lookup (tgt := 48) (off := 28) hx hb dX5_findBeginning_20 (by decide) (by rw [c5]; decide) (by decide) ?_
      refine lv_aload_n hx hb dX5_findBeginning_48 rfl (lv_at hl 1 rfl) ?_
      refine r_get (C := RX0) (T := TX0) (N := 13) (ci := 3) (fs := fl_3 ad ν ρ o1 (σ 3 o1)) hx hb hts hown hE hW 3 o1 g1 rfl rfl (fun w h => List.mem_cons_of_mem _ (List.mem_append_left _ (List.mem_append_left _ (List.mem_append_left _ (List.mem_append_right _ h))))) 7 (by decide) (List.mem_of_getElem? (i := 3) rfl) rfl (v := .ref (ad 5 (ν 3 o1 7))) rfl dX5_findBeginning_49 ?_
      refine r_get (C := RX3) (T := TX3) (N := 4) (ci := 6) (fs := fl_5 ad ν ρ (ν 3 o1 7) (σ 5 (ν 3 o1 7))) hx hb hts hown hE hW 5 (ν 3 o1 7) g4 rfl rfl (fun w h => List.mem_cons_of_mem _ (List.mem_append_left _ (List.mem_append_right _ h))) 1 (by decide) (List.mem_of_getElem? (i := 5) rfl) rfl (v := .int (σ 5 (ν 3 o1 7) 1)) rfl dX5_findBeginning_52 ?_
      exact W.iret (v := σ 5 (ν 3 o1 7) 1) hx hb hr (fun t ht _ => ⟨⟨_, (σ, ν, ρ, lo), rfl, ⟨rfl, h⟩, WP.at9 ht hW⟩, hS.F ht⟩) hS.2.2 dX5_findBeginning_55 (hlocks := hlocks)
    · have h := ite_f c5 h
      by_cases c6 : (σ 5 (ν 3 o1 7) 0).toInt = 1
      · have h := ite_t c6 h
        refine lv_lookup (tgt := 56) (off := 36) hx hb dX5_findBeginning_20 (by decide) (by rw [c6]; decide) (by decide) ?_
        refine lv_aload_n hx hb dX5_findBeginning_56 rfl (lv_at hl 1 rfl) ?_
        refine r_get (C := RX0) (T := TX0) (N := 13) (ci := 3) (fs := fl_3 ad ν ρ o1 (σ 3 o1)) hx hb hts hown hE hW 3 o1 g1 rfl rfl (fun w h => List.mem_cons_of_mem _ (List.mem_append_left _ (List.mem_append_left _ (List.mem_append_left _ (List.mem_append_right _ h))))) 10 (by decide) (List.mem_of_getElem? (i := 6) rfl) rfl (v := .ref (ad 6 (3 * o1))) rfl dX5_findBeginning_57 ?_
        refine lv_aload_n hx hb dX5_findBeginning_60 rfl (lv_at hl 0 rfl) ?_
        refine r_get (C := RX5) (T := TX5) (N := 13) (ci := 8) (fs := fl_1 ad ν ρ o0 (σ 1 o0)) hx hb hts hown hE hW 1 o0 g2 rfl rfl (fun w h => List.mem_cons_of_mem _ (List.mem_append_left _ (List.mem_append_left _ (List.mem_append_right _ h)))) 11 (by decide) (List.mem_of_getElem? (i := 2) rfl) rfl (v := .int (σ 1 o0 11)) rfl dX5_findBeginning_61 ?_
        refine k_Vi (rest := []) (As := [.int (σ 1 o0 11)]) ⟨hx, hb, hml, hown, hts⟩ hE hz hS hW (mtX1_isKnownOn l z G ad σ ν ρ lo (3 * o1) (σ 1 o0 11) _ h) (cwV 1 hts gX5_findBeginning_X1_isKnownOn rfl rfl rfl (by decide +kernel) ⟨Nat.le_of_ble_eq_true rfl, Nat.le_of_ble_eq_true rfl⟩) (r_recv hE hW 6 (3 * o1) (show 3 * o1 < 3 * ν 99 0 0 by omega) (ci := 4) rfl rfl) rfl hl.1 rfl (Nat.le_of_ble_eq_true rfl) dX5_findBeginning_64 ⟨Nat.le_of_ble_eq_true rfl, Nat.le_of_ble_eq_true rfl⟩ (fun r7 S1 H locs hp hW hS => ?_)
        obtain ⟨rfl, h⟩ := hp
        refine r_if_eq hx hb rfl (tgt := 80) dX5_findBeginning_67 (by decide) (fun c8 => ?_) (fun c8 => ?_)
        · have h := ite_t c8 h
          refine lv_iconst (v := (-1 : Int32)) hx hb dX5_findBeginning_80 (by decide) ?_
          exact W.iret (v := (-1 : Int32)) hx hb hr (fun t ht _ => ⟨⟨_, (σ, ν, ρ, lo), rfl, ⟨rfl, h⟩, WP.at9 ht hW⟩, hS.F ht⟩) hS.2.2 dX5_findBeginning_81 (hlocks := hlocks)
        · have h := ite_f c8 h
          refine lv_aload_n hx hb dX5_findBeginning_70 rfl (lv_at hl 1 rfl) ?_
          refine r_get (C := RX0) (T := TX0) (N := 13) (ci := 3) (fs := fl_3 ad ν ρ o1 (σ 3 o1)) hx hb hts hown hE hW 3 o1 g1 rfl rfl (fun w h => List.mem_cons_of_mem _ (List.mem_append_left _ (List.mem_append_left _ (List.mem_append_left _ (List.mem_append_right _ h))))) 10 (by decide) (List.mem_of_getElem? (i := 6) rfl) rfl (v := .ref (ad 6 (3 * o1))) rfl dX5_findBeginning_71 ?_
          refine r_get (C := RX1) (T := TX1) (N := 3) (ci := 4) (fs := fl_6 ad ν ρ (3 * o1) (σ 6 (3 * o1))) hx hb hts hown hE hW 6 (3 * o1) (show 3 * o1 < 3 * ν 99 0 0 by omega) rfl rfl (fun w h => List.mem_cons_of_mem _ (List.mem_append_right _ h)) 1 (by decide) (List.mem_of_getElem? (i := 7) rfl) rfl (v := .int (σ 6 (3 * o1) 1)) rfl dX5_findBeginning_74 ?_
          refine lv_goto (tgt := 81) hx hb dX5_findBeginning_77 (by decide) ?_
          exact W.iret (v := σ 6 (3 * o1) 1) hx hb hr (fun t ht _ => ⟨⟨_, (σ, ν, ρ, lo), rfl, ⟨rfl, h⟩, WP.at9 ht hW⟩, hS.F ht⟩) hS.2.2 dX5_findBeginning_81 (hlocks := hlocks)
      · have h := ite_f c6 h
        refine lv_lookup (tgt := 82) (off := 62) hx hb dX5_findBeginning_20 (by decide) (by rw [show (#[(0, 28), (1, 36)] : Array (Int × Int)).toList = [(0, 28), (1, 36)] from rfl, Op.lookupswitch.offset_cons, if_neg (fun q => c5 q.symm), Op.lookupswitch.offset_cons, if_neg (fun q => c6 q.symm)]; rfl) (by decide) ?_
        refine lv_aload_n hx hb dX5_findBeginning_82 rfl (lv_at hl 0 rfl) ?_
        refine lv_aload_n hx hb dX5_findBeginning_83 rfl (lv_at hl 1 rfl) ?_
        refine r_get (C := RX0) (T := TX0) (N := 13) (ci := 3) (fs := fl_3 ad ν ρ o1 (σ 3 o1)) hx hb hts hown hE hW 3 o1 g1 rfl rfl (fun w h => List.mem_cons_of_mem _ (List.mem_append_left _ (List.mem_append_left _ (List.mem_append_left _ (List.mem_append_right _ h))))) 7 (by decide) (List.mem_of_getElem? (i := 3) rfl) rfl (v := .ref (ad 5 (ν 3 o1 7))) rfl dX5_findBeginning_84 ?_
        refine r_get (C := RX3) (T := TX3) (N := 4) (ci := 6) (fs := fl_5 ad ν ρ (ν 3 o1 7) (σ 5 (ν 3 o1 7))) hx hb hts hown hE hW 5 (ν 3 o1 7) g4 rfl rfl (fun w h => List.mem_cons_of_mem _ (List.mem_append_left _ (List.mem_append_right _ h))) 1 (by decide) (List.mem_of_getElem? (i := 5) rfl) rfl (v := .int (σ 5 (ν 3 o1 7) 1)) rfl dX5_findBeginning_87 ?_
        refine k_Vi (rest := []) (As := [.int (σ 5 (ν 3 o1 7) 1)]) ⟨hx, hb, hml, hown, hts⟩ hE hz hS hW (mtX5_beginningOf l z G ad σ ν ρ lo o0 (σ 5 (ν 3 o1 7) 1) _ h) (cwV 1 hts gX5_findBeginning_X5_beginningOf rfl rfl rfl (by decide +kernel) ⟨Nat.le_of_ble_eq_true rfl, Nat.le_of_ble_eq_true rfl⟩) (r_recv hE hW 1 o0 g2 (ci := 8) rfl rfl) rfl hl.1 rfl (Nat.le_of_ble_eq_true rfl) dX5_findBeginning_90 ⟨Nat.le_of_ble_eq_true rfl, Nat.le_of_ble_eq_true rfl⟩ (fun r9 S1 H locs hp hW hS => ?_)
        obtain ⟨rfl, h⟩ := hp
        exact W.iret (v := r9) hx hb hr (fun t ht _ => ⟨⟨_, (σ, ν, ρ, lo), rfl, ⟨rfl, h⟩, WP.at9 ht hW⟩, hS.F ht⟩) hS.2.2 dX5_findBeginning_93 (hlocks := hlocks)
  · have h := ite_f c3 h
    refine lv_iconst (v := (-1 : Int32)) hx hb dX5_findBeginning_11 (by decide) ?_
    exact W.iret (v := (-1 : Int32)) hx hb hr (fun t ht _ => ⟨⟨_, (σ, ν, ρ, lo), rfl, ⟨rfl, h⟩, WP.at9 ht hW⟩, hS.F ht⟩) hS.2.2 dX5_findBeginning_12 (hlocks := hlocks)
set_option maxHeartbeats 4000000 in
set_option maxRecDepth 100000 in
theorem mtX3_reach (l : Launch) (z : Nat) (G : Gl) (ad : Nat → Nat → Nat) (σ : SG) (ν : NU) (ρ : RH) (lo : Int64) (o0 : Nat) (p1 : Int32) (post : Int32 → Prop) (h : wpX3_reach σ ν o0 p1 post) : Met l yX3_reach wsX3_reach ({ frames := 0, cells := 0, slots := 0, locals := 0 } : Room) (Pcs z G ad (σ, ν, ρ, lo) [.ref (ad 5 o0), .int p1]) (Qis z G ad (fun r S1 => S1 = (σ, ν, ρ, lo) ∧ post r)) 0 0 (Az z) := by
  refine Met.ofW (cc := cX3_reach) (maxL := 2) (ret := (some .boolean)) (by decide) rfl ?_
  intro p e s m args below meth c s₁ B hml hv
  obtain ⟨rfl, hz, hW, hE⟩ := hv
  have hx := B.exec
  have hb := B.bytes
  have hr := B.returns
  have hts := atoms_spec (ws := wsX3_reach) B.pre
  have hown : s.vm.findClass RX3 = some m.cls := findClass_of_methodNamed B.named
  have hlocks := B.notSynchronized
  have X : Cx p l e s m _ below meth c cX3_reach (some .boolean) 2 RX3 wsX3_reach z G := ⟨hx, hb, hr, hml, hown, hts, hlocks, hE, hz⟩
  have hS : va_S (Az z) s.heap s.heap [] := va_S.rf
  have hl := lv_entry [.ref (ad 5 o0), .int p1] (n := 2) (Nat.le_of_ble_eq_true rfl)
  rw [lg_entry_eq]
  generalize (lg_sl [.ref (ad 5 o0), .int p1] ++ List.replicate (2 - (lg_sl [.ref (ad 5 o0), .int p1]).length) Slot.unset).toArray = ls at hl ⊢
  have hl : lv_has ls 2 [(0, .ref (ad 5 o0)), (1, .int p1)] := hl
  unfold wpX3_reach at h
  refine lv_aload_n hx hb dX3_reach_0 rfl (lv_at hl 0 rfl) ?_
  obtain ⟨g1, h⟩ := h
  refine r_get (C := RX3) (T := TX3) (N := 4) (ci := 6) (fs := fl_5 ad ν ρ o0 (σ 5 o0)) hx hb hts hown hE hW 5 o0 g1 rfl rfl (fun w h => List.mem_cons_of_mem _ (List.mem_append_right _ h)) 2 (by decide) (List.mem_of_getElem? (i := 1) rfl) rfl (v := .int (σ 5 o0 2)) rfl dX3_reach_1 ?_
  refine lv_iload_n hx hb dX3_reach_4 rfl (lv_at hl 1 rfl) ?_
  refine lv_ishr hx hb dX3_reach_5 ?_
  refine lv_iconst (v := (1 : Int32)) hx hb dX3_reach_6 (by decide) ?_
  refine lv_iand hx hb dX3_reach_7 ?_
  refine lv_iconst (v := (1 : Int32)) hx hb dX3_reach_8 (by decide) ?_
  refine r_icmp_ne hx hb rfl (show (1 : Int32).toInt = 1 by decide) (tgt := 16) dX3_reach_9 (by decide) (fun c2 => ?_) (fun c2 => ?_)
  · have h := ite_f c2 h
    refine lv_iconst (v := (0 : Int32)) hx hb dX3_reach_16 (by decide) ?_
    exact W.zret (v := (0 : Int32)) (ty := .boolean) hx hb hr rfl (fun t ht _ => ⟨⟨_, (σ, ν, ρ, lo), rfl, ⟨rfl, h⟩, WP.at9 ht hW⟩, hS.F ht⟩) hS.2.2 dX3_reach_17 (hlocks := hlocks)
  · have h := ite_t c2 h
    refine lv_iconst (v := (1 : Int32)) hx hb dX3_reach_12 (by decide) ?_
    refine lv_goto (tgt := 17) hx hb dX3_reach_13 (by decide) ?_
    exact W.zret (v := (1 : Int32)) (ty := .boolean) hx hb hr rfl (fun t ht _ => ⟨⟨_, (σ, ν, ρ, lo), rfl, ⟨rfl, h⟩, WP.at9 ht hW⟩, hS.F ht⟩) hS.2.2 dX3_reach_17 (hlocks := hlocks)
set_option maxHeartbeats 4000000 in
set_option maxRecDepth 100000 in
theorem mtX3_endBy (l : Launch) (z : Nat) (G : Gl) (ad : Nat → Nat → Nat) (σ : SG) (ν : NU) (ρ : RH) (lo : Int64) (o0 : Nat) (p1 : Int32) (post : Int32 → Prop) (h : wpX3_endBy σ ν o0 p1 post) : Met l yX3_endBy wsX3_endBy ({ frames := 0, cells := 0, slots := 0, locals := 0 } : Room) (Pcs z G ad (σ, ν, ρ, lo) [.ref (ad 5 o0), .int p1]) (Qis z G ad (fun r S1 => S1 = (σ, ν, ρ, lo) ∧ post r)) 0 0 (Az z) := by
  refine Met.ofW (cc := cX3_endBy) (maxL := 2) (ret := (some .boolean)) (by decide) rfl ?_
  intro p e s m args below meth c s₁ B hml hv
  obtain ⟨rfl, hz, hW, hE⟩ := hv
  have hx := B.exec
  have hb := B.bytes
  have hr := B.returns
  have hts := atoms_spec (ws := wsX3_endBy) B.pre
  have hown : s.vm.findClass RX3 = some m.cls := findClass_of_methodNamed B.named
  have hlocks := B.notSynchronized
  have X : Cx p l e s m _ below meth c cX3_endBy (some .boolean) 2 RX3 wsX3_endBy z G := ⟨hx, hb, hr, hml, hown, hts, hlocks, hE, hz⟩
  have hS : va_S (Az z) s.heap s.heap [] := va_S.rf
  have hl := lv_entry [.ref (ad 5 o0), .int p1] (n := 2) (Nat.le_of_ble_eq_true rfl)
  rw [lg_entry_eq]
  generalize (lg_sl [.ref (ad 5 o0), .int p1] ++ List.replicate (2 - (lg_sl [.ref (ad 5 o0), .int p1]).length) Slot.unset).toArray = ls at hl ⊢
  have hl : lv_has ls 2 [(0, .ref (ad 5 o0)), (1, .int p1)] := hl
  unfold wpX3_endBy at h
  refine lv_aload_n hx hb dX3_endBy_0 rfl (lv_at hl 0 rfl) ?_
  obtain ⟨g1, h⟩ := h
  refine r_get (C := RX3) (T := TX3) (N := 4) (ci := 6) (fs := fl_5 ad ν ρ o0 (σ 5 o0)) hx hb hts hown hE hW 5 o0 g1 rfl rfl (fun w h => List.mem_cons_of_mem _ (List.mem_append_right _ h)) 3 (by decide) (List.mem_of_getElem? (i := 1) rfl) rfl (v := .int (σ 5 o0 3)) rfl dX3_endBy_1 ?_
  refine lv_iconst (v := (-1 : Int32)) hx hb dX3_endBy_4 (by decide) ?_
  refine r_icmp_eq hx hb rfl (show (-1 : Int32).toInt = (-1) by decide) (tgt := 20) dX3_endBy_5 (by decide) (fun c2 => ?_) (fun c2 => ?_)
  · have h := ite_t c2 h
    refine lv_iconst (v := (0 : Int32)) hx hb dX3_endBy_20 (by decide) ?_
    exact W.zret (v := (0 : Int32)) (ty := .boolean) hx hb hr rfl (fun t ht _ => ⟨⟨_, (σ, ν, ρ, lo), rfl, ⟨rfl, h⟩, WP.at9 ht hW⟩, hS.F ht⟩) hS.2.2 dX3_endBy_21 (hlocks := hlocks)
  · have h := ite_f c2 h
    refine lv_aload_n hx hb dX3_endBy_8 rfl (lv_at hl 0 rfl) ?_
    refine r_get (C := RX3) (T := TX3) (N := 4) (ci := 6) (fs := fl_5 ad ν ρ o0 (σ 5 o0)) hx hb hts hown hE hW 5 o0 g1 rfl rfl (fun w h => List.mem_cons_of_mem _ (List.mem_append_right _ h)) 3 (by decide) (List.mem_of_getElem? (i := 1) rfl) rfl (v := .int (σ 5 o0 3)) rfl dX3_endBy_9 ?_
    refine lv_iload_n hx hb dX3_endBy_12 rfl (lv_at hl 1 rfl) ?_
    refine r_icmp_gt hx hb rfl rfl (tgt := 20) dX3_endBy_13 (by decide) (fun c3 => ?_) (fun c3 => ?_)
    · have h := ite_f c3 h
      refine lv_iconst (v := (0 : Int32)) hx hb dX3_endBy_20 (by decide) ?_
      exact W.zret (v := (0 : Int32)) (ty := .boolean) hx hb hr rfl (fun t ht _ => ⟨⟨_, (σ, ν, ρ, lo), rfl, ⟨rfl, h⟩, WP.at9 ht hW⟩, hS.F ht⟩) hS.2.2 dX3_endBy_21 (hlocks := hlocks)
    · have h := ite_t c3 h
      refine lv_iconst (v := (1 : Int32)) hx hb dX3_endBy_16 (by decide) ?_
      refine lv_goto (tgt := 21) hx hb dX3_endBy_17 (by decide) ?_
      exact W.zret (v := (1 : Int32)) (ty := .boolean) hx hb hr rfl (fun t ht _ => ⟨⟨_, (σ, ν, ρ, lo), rfl, ⟨rfl, h⟩, WP.at9 ht hW⟩, hS.F ht⟩) hS.2.2 dX3_endBy_21 (hlocks := hlocks)
set_option maxHeartbeats 4000000 in
set_option maxRecDepth 100000 in
theorem mtX1_covers (l : Launch) (z : Nat) (G : Gl) (ad : Nat → Nat → Nat) (σ : SG) (ν : NU) (ρ : RH) (lo : Int64) (o0 : Nat) (p1 : Int32) (p2 : Int32) (post : Int32 → Prop) (h : wpX1_covers σ ν o0 p1 p2 post) : Met l yX1_covers wsX1_covers ({ frames := 2, cells := 0, slots := 0, locals := 41 } : Room) (Pcs z G ad (σ, ν, ρ, lo) [.ref (ad 6 o0), .int p1, .int p2]) (Qis z G ad (fun r S1 => S1 = (σ, ν, ρ, lo) ∧ post r)) 0 0 (Az z) := by
  refine Met.ofW (cc := cX1_covers) (maxL := 3) (ret := (some .boolean)) (by decide) rfl ?_
  intro p e s m args below meth c s₁ B hml hv
  obtain ⟨rfl, hz, hW, hE⟩ := hv
  have hx := B.exec
  have hb := B.bytes
  have hr := B.returns
  have hts := atoms_spec (ws := wsX1_covers) B.pre
  have hown : s.vm.findClass RX1 = some m.cls := findClass_of_methodNamed B.named
  have hlocks := B.notSynchronized
  have X : Cx p l e s m _ below meth c cX1_covers (some .boolean) 3 RX1 wsX1_covers z G := ⟨hx, hb, hr, hml, hown, hts, hlocks, hE, hz⟩
  have hS : va_S (Az z) s.heap s.heap [] := va_S.rf
  have hl := lv_entry [.ref (ad 6 o0), .int p1, .int p2] (n := 3) (Nat.le_of_ble_eq_true rfl)
  rw [lg_entry_eq]
  generalize (lg_sl [.ref (ad 6 o0), .int p1, .int p2] ++ List.replicate (3 - (lg_sl [.ref (ad 6 o0), .int p1, .int p2]).length) Slot.unset).toArray = ls at hl ⊢
  have hl : lv_has ls 3 [(0, .ref (ad 6 o0)), (1, .int p1), (2, .int p2)] := hl
  unfold wpX1_covers at h
  refine lv_aload_n hx hb dX1_covers_0 rfl (lv_at hl 0 rfl) ?_
  refine lv_iload_n hx hb dX1_covers_1 rfl (lv_at hl 2 rfl) ?_
  obtain ⟨g1, h⟩ := h
  refine k_Vi (rest := []) (As := [.int p2]) ⟨hx, hb, hml, hown, hts⟩ hE hz hS hW (mtX1_isKnownOn l z G ad σ ν ρ lo o0 p2 _ h) (cwV 1 hts gX1_covers_X1_isKnownOn rfl rfl rfl (by decide +kernel) ⟨Nat.le_of_ble_eq_true rfl, Nat.le_of_ble_eq_true rfl⟩) (r_recv hE hW 6 o0 g1 (ci := 4) rfl rfl) rfl hl.1 rfl (Nat.le_of_ble_eq_true rfl) dX1_covers_2 ⟨Nat.le_of_ble_eq_true rfl, Nat.le_of_ble_eq_true rfl⟩ (fun r2 S1 H locs hp hW hS => ?_)
  obtain ⟨rfl, h⟩ := hp
  refine r_if_eq hx hb rfl (tgt := 28) dX1_covers_5 (by decide) (fun c3 => ?_) (fun c3 => ?_)
  · have h := ite_t c3 h
    refine lv_iconst (v := (0 : Int32)) hx hb dX1_covers_28 (by decide) ?_
    exact W.zret (v := (0 : Int32)) (ty := .boolean) hx hb hr rfl (fun t ht _ => ⟨⟨_, (σ, ν, ρ, lo), rfl, ⟨rfl, h⟩, WP.at9 ht hW⟩, hS.F ht⟩) hS.2.2 dX1_covers_29 (hlocks := hlocks)
  · have h := ite_f c3 h
    refine lv_aload_n hx hb dX1_covers_8 rfl (lv_at hl 0 rfl) ?_
    refine r_get (C := RX1) (T := TX1) (N := 3) (ci := 4) (fs := fl_6 ad ν ρ o0 (σ 6 o0)) hx hb hts hown hE hW 6 o0 g1 rfl rfl (fun w h => List.mem_cons_of_mem _ (List.mem_append_right _ h)) 1 (by decide) (List.mem_of_getElem? (i := 1) rfl) rfl (v := .int (σ 6 o0 1)) rfl dX1_covers_9 ?_
    refine lv_iload_n hx hb dX1_covers_12 rfl (lv_at hl 1 rfl) ?_
    refine r_icmp_gt hx hb rfl rfl (tgt := 28) dX1_covers_13 (by decide) (fun c4 => ?_) (fun c4 => ?_)
    · have h := ite_f c4 h
      refine lv_iconst (v := (0 : Int32)) hx hb dX1_covers_28 (by decide) ?_
      exact W.zret (v := (0 : Int32)) (ty := .boolean) hx hb hr rfl (fun t ht _ => ⟨⟨_, (σ, ν, ρ, lo), rfl, ⟨rfl, h⟩, WP.at9 ht hW⟩, hS.F ht⟩) hS.2.2 dX1_covers_29 (hlocks := hlocks)
    · have h := ite_t c4 h
      refine lv_iload_n hx hb dX1_covers_16 rfl (lv_at hl 1 rfl) ?_
      refine lv_aload_n hx hb dX1_covers_17 rfl (lv_at hl 0 rfl) ?_
      refine r_get (C := RX1) (T := TX1) (N := 3) (ci := 4) (fs := fl_6 ad ν ρ o0 (σ 6 o0)) hx hb hts hown hE hW 6 o0 g1 rfl rfl (fun w h => List.mem_cons_of_mem _ (List.mem_append_right _ h)) 2 (by decide) (List.mem_of_getElem? (i := 2) rfl) rfl (v := .int (σ 6 o0 2)) rfl dX1_covers_18 ?_
      refine r_icmp_gt hx hb rfl rfl (tgt := 28) dX1_covers_21 (by decide) (fun c5 => ?_) (fun c5 => ?_)
      · have h := ite_f c5 h
        refine lv_iconst (v := (0 : Int32)) hx hb dX1_covers_28 (by decide) ?_
        exact W.zret (v := (0 : Int32)) (ty := .boolean) hx hb hr rfl (fun t ht _ => ⟨⟨_, (σ, ν, ρ, lo), rfl, ⟨rfl, h⟩, WP.at9 ht hW⟩, hS.F ht⟩) hS.2.2 dX1_covers_29 (hlocks := hlocks)
      · have h := ite_t c5 h
        refine lv_iconst (v := (1 : Int32)) hx hb dX1_covers_24 (by decide) ?_
        refine lv_goto (tgt := 29) hx hb dX1_covers_25 (by decide) ?_
        exact W.zret (v := (1 : Int32)) (ty := .boolean) hx hb hr rfl (fun t ht _ => ⟨⟨_, (σ, ν, ρ, lo), rfl, ⟨rfl, h⟩, WP.at9 ht hW⟩, hS.F ht⟩) hS.2.2 dX1_covers_29 (hlocks := hlocks)
set_option maxHeartbeats 4000000 in
set_option maxRecDepth 100000 in
theorem mtX5_isInEffect (l : Launch) (z : Nat) (G : Gl) (ad : Nat → Nat → Nat) (σ : SG) (ν : NU) (ρ : RH) (lo : Int64) (o0 : Nat) (o1 : Nat) (p2 : Int32) (post : Int32 → Prop) (h : wpX5_isInEffect σ ν o0 o1 p2 post) : Met l yX5_isInEffect wsX5_isInEffect ({ frames := 3, cells := 0, slots := 0, locals := 63 } : Room) (Pcs z G ad (σ, ν, ρ, lo) [.ref (ad 1 o0), .ref (ad 3 o1), .int p2]) (Qis z G ad (fun r S1 => S1 = (σ, ν, ρ, lo) ∧ post r)) 0 0 (Az z) := by
  refine Met.ofW (cc := cX5_isInEffect) (maxL := 3) (ret := (some .boolean)) (by decide) rfl ?_
  intro p e s m args below meth c s₁ B hml hv
  obtain ⟨rfl, hz, hW, hE⟩ := hv
  have hx := B.exec
  have hb := B.bytes
  have hr := B.returns
  have hts := atoms_spec (ws := wsX5_isInEffect) B.pre
  have hown : s.vm.findClass RX5 = some m.cls := findClass_of_methodNamed B.named
  have hlocks := B.notSynchronized
  have X : Cx p l e s m _ below meth c cX5_isInEffect (some .boolean) 3 RX5 wsX5_isInEffect z G := ⟨hx, hb, hr, hml, hown, hts, hlocks, hE, hz⟩
  have hS : va_S (Az z) s.heap s.heap [] := va_S.rf
  have hl := lv_entry [.ref (ad 1 o0), .ref (ad 3 o1), .int p2] (n := 3) (Nat.le_of_ble_eq_true rfl)
  rw [lg_entry_eq]
  generalize (lg_sl [.ref (ad 1 o0), .ref (ad 3 o1), .int p2] ++ List.replicate (3 - (lg_sl [.ref (ad 1 o0), .ref (ad 3 o1), .int p2]).length) Slot.unset).toArray = ls at hl ⊢
  have hl : lv_has ls 3 [(0, .ref (ad 1 o0)), (1, .ref (ad 3 o1)), (2, .int p2)] := hl
  unfold wpX5_isInEffect at h
  refine lv_iload_n hx hb dX5_isInEffect_0 rfl (lv_at hl 2 rfl) ?_
  refine lv_iconst (v := (-1 : Int32)) hx hb dX5_isInEffect_1 (by decide) ?_
  refine r_icmp_eq hx hb rfl (show (-1 : Int32).toInt = (-1) by decide) (tgt := 81) dX5_isInEffect_2 (by decide) (fun c1 => ?_) (fun c1 => ?_)
  · have h := ite_t c1 h
    refine lv_iconst (v := (0 : Int32)) hx hb dX5_isInEffect_81 (by decide) ?_
    exact W.zret (v := (0 : Int32)) (ty := .boolean) hx hb hr rfl (fun t ht _ => ⟨⟨_, (σ, ν, ρ, lo), rfl, ⟨rfl, h⟩, WP.at9 ht hW⟩, hS.F ht⟩) hS.2.2 dX5_isInEffect_82 (hlocks := hlocks)
  · have h := ite_f c1 h
    refine lv_iload_n hx hb dX5_isInEffect_5 rfl (lv_at hl 2 rfl) ?_
    refine lv_aload_n hx hb dX5_isInEffect_6 rfl (lv_at hl 0 rfl) ?_
    obtain ⟨g2, h⟩ := h
    refine r_get (C := RX5) (T := TX5) (N := 13) (ci := 8) (fs := fl_1 ad ν ρ o0 (σ 1 o0)) hx hb hts hown hE hW 1 o0 g2 rfl rfl (fun w h => List.mem_cons_of_mem _ (List.mem_append_left _ (List.mem_append_left _ (List.mem_append_left _ (List.mem_append_right _ h))))) 10 (by decide) (List.mem_of_getElem? (i := 1) rfl) rfl (v := .int (σ 1 o0 10)) rfl dX5_isInEffect_7 ?_
    refine r_icmp_gt hx hb rfl rfl (tgt := 81) dX5_isInEffect_10 (by decide) (fun c3 => ?_) (fun c3 => ?_)
    · have h := ite_f c3 h
      refine lv_iconst (v := (0 : Int32)) hx hb dX5_isInEffect_81 (by decide) ?_
      exact W.zret (v := (0 : Int32)) (ty := .boolean) hx hb hr rfl (fun t ht _ => ⟨⟨_, (σ, ν, ρ, lo), rfl, ⟨rfl, h⟩, WP.at9 ht hW⟩, hS.F ht⟩) hS.2.2 dX5_isInEffect_82 (hlocks := hlocks)
    · have h := ite_t c3 h
      refine lv_aload_n hx hb dX5_isInEffect_13 rfl (lv_at hl 1 rfl) ?_
      obtain ⟨g4, h⟩ := h
      refine r_get (C := RX0) (T := TX0) (N := 13) (ci := 3) (fs := fl_3 ad ν ρ o1 (σ 3 o1)) hx hb hts hown hE hW 3 o1 g4 rfl rfl (fun w h => List.mem_cons_of_mem _ (List.mem_append_left _ (List.mem_append_left _ (List.mem_append_right _ h)))) 7 (by decide) (List.mem_of_getElem? (i := 2) rfl) rfl (v := .ref (ad 5 (ν 3 o1 7))) rfl dX5_isInEffect_14 ?_
      refine lv_aload_n hx hb dX5_isInEffect_17 rfl (lv_at hl 0 rfl) ?_
      refine r_get (C := RX5) (T := TX5) (N := 13) (ci := 8) (fs := fl_1 ad ν ρ o0 (σ 1 o0)) hx hb hts hown hE hW 1 o0 g2 rfl rfl (fun w h => List.mem_cons_of_mem _ (List.mem_append_left _ (List.mem_append_left _ (List.mem_append_left _ (List.mem_append_right _ h))))) 12 (by decide) (List.mem_of_getElem? (i := 3) rfl) rfl (v := .int (σ 1 o0 12)) rfl dX5_isInEffect_18 ?_
      obtain ⟨g5, h⟩ := h
      refine k_Vi (rest := []) (As := [.int (σ 1 o0 12)]) ⟨hx, hb, hml, hown, hts⟩ hE hz hS hW (mtX3_reach l z G ad σ ν ρ lo (ν 3 o1 7) (σ 1 o0 12) _ h) (cwV 1 hts gX5_isInEffect_X3_reach rfl rfl rfl (by decide +kernel) ⟨Nat.le_of_ble_eq_true rfl, Nat.le_of_ble_eq_true rfl⟩) (r_recv hE hW 5 (ν 3 o1 7) g5 (ci := 6) rfl rfl) rfl hl.1 rfl (Nat.le_of_ble_eq_true rfl) dX5_isInEffect_21 ⟨Nat.le_of_ble_eq_true rfl, Nat.le_of_ble_eq_true rfl⟩ (fun r6 S1 H locs hp hW hS => ?_)
      obtain ⟨rfl, h⟩ := hp
      refine r_if_eq hx hb rfl (tgt := 81) dX5_isInEffect_24 (by decide) (fun c7 => ?_) (fun c7 => ?_)
      · have h := ite_t c7 h
        refine lv_iconst (v := (0 : Int32)) hx hb dX5_isInEffect_81 (by decide) ?_
        exact W.zret (v := (0 : Int32)) (ty := .boolean) hx hb hr rfl (fun t ht _ => ⟨⟨_, (σ, ν, ρ, lo), rfl, ⟨rfl, h⟩, WP.at9 ht hW⟩, hS.F ht⟩) hS.2.2 dX5_isInEffect_82 (hlocks := hlocks)
      · have h := ite_f c7 h
        refine lv_aload_n hx hb dX5_isInEffect_27 rfl (lv_at hl 1 rfl) ?_
        refine r_get (C := RX0) (T := TX0) (N := 13) (ci := 3) (fs := fl_3 ad ν ρ o1 (σ 3 o1)) hx hb hts hown hE hW 3 o1 g4 rfl rfl (fun w h => List.mem_cons_of_mem _ (List.mem_append_left _ (List.mem_append_left _ (List.mem_append_right _ h)))) 7 (by decide) (List.mem_of_getElem? (i := 2) rfl) rfl (v := .ref (ad 5 (ν 3 o1 7))) rfl dX5_isInEffect_28 ?_
        refine lv_aload_n hx hb dX5_isInEffect_31 rfl (lv_at hl 0 rfl) ?_
        refine r_get (C := RX5) (T := TX5) (N := 13) (ci := 8) (fs := fl_1 ad ν ρ o0 (σ 1 o0)) hx hb hts hown hE hW 1 o0 g2 rfl rfl (fun w h => List.mem_cons_of_mem _ (List.mem_append_left _ (List.mem_append_left _ (List.mem_append_left _ (List.mem_append_right _ h))))) 10 (by decide) (List.mem_of_getElem? (i := 1) rfl) rfl (v := .int (σ 1 o0 10)) rfl dX5_isInEffect_32 ?_
        refine k_Vi (rest := []) (As := [.int (σ 1 o0 10)]) ⟨hx, hb, hml, hown, hts⟩ hE hz hS hW (mtX3_endBy l z G ad σ ν ρ lo (ν 3 o1 7) (σ 1 o0 10) _ h) (cwV 1 hts gX5_isInEffect_X3_endBy rfl rfl rfl (by decide +kernel) ⟨Nat.le_of_ble_eq_true rfl, Nat.le_of_ble_eq_true rfl⟩) (r_recv hE hW 5 (ν 3 o1 7) g5 (ci := 6) rfl rfl) rfl hl.1 rfl (Nat.le_of_ble_eq_true rfl) dX5_isInEffect_35 ⟨Nat.le_of_ble_eq_true rfl, Nat.le_of_ble_eq_true rfl⟩ (fun r8 S1 H locs hp hW hS => ?_)
        obtain ⟨rfl, h⟩ := hp
        refine r_if_ne hx hb rfl (tgt := 81) dX5_isInEffect_38 (by decide) (fun c9 => ?_) (fun c9 => ?_)
        · have h := ite_f c9 h
          refine lv_iconst (v := (0 : Int32)) hx hb dX5_isInEffect_81 (by decide) ?_
          exact W.zret (v := (0 : Int32)) (ty := .boolean) hx hb hr rfl (fun t ht _ => ⟨⟨_, (σ, ν, ρ, lo), rfl, ⟨rfl, h⟩, WP.at9 ht hW⟩, hS.F ht⟩) hS.2.2 dX5_isInEffect_82 (hlocks := hlocks)
        · have h := ite_t c9 h
          refine lv_aload_n hx hb dX5_isInEffect_41 rfl (lv_at hl 1 rfl) ?_
          refine r_get (C := RX0) (T := TX0) (N := 13) (ci := 3) (fs := fl_3 ad ν ρ o1 (σ 3 o1)) hx hb hts hown hE hW 3 o1 g4 rfl rfl (fun w h => List.mem_cons_of_mem _ (List.mem_append_left _ (List.mem_append_left _ (List.mem_append_right _ h)))) 11 (by decide) (List.mem_of_getElem? (i := 4) rfl) rfl (v := .ref (ad 6 (3 * o1 + 1))) rfl dX5_isInEffect_42 ?_
          refine lv_aload_n hx hb dX5_isInEffect_45 rfl (lv_at hl 0 rfl) ?_
          refine r_get (C := RX5) (T := TX5) (N := 13) (ci := 8) (fs := fl_1 ad ν ρ o0 (σ 1 o0)) hx hb hts hown hE hW 1 o0 g2 rfl rfl (fun w h => List.mem_cons_of_mem _ (List.mem_append_left _ (List.mem_append_left _ (List.mem_append_left _ (List.mem_append_right _ h))))) 10 (by decide) (List.mem_of_getElem? (i := 1) rfl) rfl (v := .int (σ 1 o0 10)) rfl dX5_isInEffect_46 ?_
          refine lv_aload_n hx hb dX5_isInEffect_49 rfl (lv_at hl 0 rfl) ?_
          refine r_get (C := RX5) (T := TX5) (N := 13) (ci := 8) (fs := fl_1 ad ν ρ o0 (σ 1 o0)) hx hb hts hown hE hW 1 o0 g2 rfl rfl (fun w h => List.mem_cons_of_mem _ (List.mem_append_left _ (List.mem_append_left _ (List.mem_append_left _ (List.mem_append_right _ h))))) 11 (by decide) (List.mem_of_getElem? (i := 5) rfl) rfl (v := .int (σ 1 o0 11)) rfl dX5_isInEffect_50 ?_
          refine k_Vi (rest := []) (As := [.int (σ 1 o0 10), .int (σ 1 o0 11)]) ⟨hx, hb, hml, hown, hts⟩ hE hz hS hW (mtX1_covers l z G ad σ ν ρ lo (3 * o1 + 1) (σ 1 o0 10) (σ 1 o0 11) _ h) (cwV 2 hts gX5_isInEffect_X1_covers rfl rfl rfl (by decide +kernel) ⟨Nat.le_of_ble_eq_true rfl, Nat.le_of_ble_eq_true rfl⟩) (r_recv hE hW 6 (3 * o1 + 1) (show 3 * o1 + 1 < 3 * ν 99 0 0 by omega) (ci := 4) rfl rfl) rfl hl.1 rfl (Nat.le_of_ble_eq_true rfl) dX5_isInEffect_53 ⟨Nat.le_of_ble_eq_true rfl, Nat.le_of_ble_eq_true rfl⟩ (fun r10 S1 H locs hp hW hS => ?_)
          obtain ⟨rfl, h⟩ := hp
          refine r_if_ne hx hb rfl (tgt := 81) dX5_isInEffect_56 (by decide) (fun c11 => ?_) (fun c11 => ?_)
          · have h := ite_f c11 h
            refine lv_iconst (v := (0 : Int32)) hx hb dX5_isInEffect_81 (by decide) ?_
            exact W.zret (v := (0 : Int32)) (ty := .boolean) hx hb hr rfl (fun t ht _ => ⟨⟨_, (σ, ν, ρ, lo), rfl, ⟨rfl, h⟩, WP.at9 ht hW⟩, hS.F ht⟩) hS.2.2 dX5_isInEffect_82 (hlocks := hlocks)
          · have h := ite_t c11 h
            refine lv_aload_n hx hb dX5_isInEffect_59 rfl (lv_at hl 1 rfl) ?_
            refine r_get (C := RX0) (T := TX0) (N := 13) (ci := 3) (fs := fl_3 ad ν ρ o1 (σ 3 o1)) hx hb hts hown hE hW 3 o1 g4 rfl rfl (fun w h => List.mem_cons_of_mem _ (List.mem_append_left _ (List.mem_append_left _ (List.mem_append_right _ h)))) 12 (by decide) (List.mem_of_getElem? (i := 6) rfl) rfl (v := .ref (ad 6 (3 * o1 + 2))) rfl dX5_isInEffect_60 ?_
            refine lv_aload_n hx hb dX5_isInEffect_63 rfl (lv_at hl 0 rfl) ?_
            refine r_get (C := RX5) (T := TX5) (N := 13) (ci := 8) (fs := fl_1 ad ν ρ o0 (σ 1 o0)) hx hb hts hown hE hW 1 o0 g2 rfl rfl (fun w h => List.mem_cons_of_mem _ (List.mem_append_left _ (List.mem_append_left _ (List.mem_append_left _ (List.mem_append_right _ h))))) 10 (by decide) (List.mem_of_getElem? (i := 1) rfl) rfl (v := .int (σ 1 o0 10)) rfl dX5_isInEffect_64 ?_
            refine lv_aload_n hx hb dX5_isInEffect_67 rfl (lv_at hl 0 rfl) ?_
            refine r_get (C := RX5) (T := TX5) (N := 13) (ci := 8) (fs := fl_1 ad ν ρ o0 (σ 1 o0)) hx hb hts hown hE hW 1 o0 g2 rfl rfl (fun w h => List.mem_cons_of_mem _ (List.mem_append_left _ (List.mem_append_left _ (List.mem_append_left _ (List.mem_append_right _ h))))) 11 (by decide) (List.mem_of_getElem? (i := 5) rfl) rfl (v := .int (σ 1 o0 11)) rfl dX5_isInEffect_68 ?_
            refine k_Vi (rest := []) (As := [.int (σ 1 o0 10), .int (σ 1 o0 11)]) ⟨hx, hb, hml, hown, hts⟩ hE hz hS hW (mtX1_covers l z G ad σ ν ρ lo (3 * o1 + 2) (σ 1 o0 10) (σ 1 o0 11) _ h) (cwV 2 hts gX5_isInEffect_X1_covers rfl rfl rfl (by decide +kernel) ⟨Nat.le_of_ble_eq_true rfl, Nat.le_of_ble_eq_true rfl⟩) (r_recv hE hW 6 (3 * o1 + 2) (show 3 * o1 + 2 < 3 * ν 99 0 0 by omega) (ci := 4) rfl rfl) rfl hl.1 rfl (Nat.le_of_ble_eq_true rfl) dX5_isInEffect_71 ⟨Nat.le_of_ble_eq_true rfl, Nat.le_of_ble_eq_true rfl⟩ (fun r12 S1 H locs hp hW hS => ?_)
            obtain ⟨rfl, h⟩ := hp
            refine r_if_ne hx hb rfl (tgt := 81) dX5_isInEffect_74 (by decide) (fun c13 => ?_) (fun c13 => ?_)
            · have h := ite_f c13 h
              refine lv_iconst (v := (0 : Int32)) hx hb dX5_isInEffect_81 (by decide) ?_
              exact W.zret (v := (0 : Int32)) (ty := .boolean) hx hb hr rfl (fun t ht _ => ⟨⟨_, (σ, ν, ρ, lo), rfl, ⟨rfl, h⟩, WP.at9 ht hW⟩, hS.F ht⟩) hS.2.2 dX5_isInEffect_82 (hlocks := hlocks)
            · have h := ite_t c13 h
              refine lv_iconst (v := (1 : Int32)) hx hb dX5_isInEffect_77 (by decide) ?_
              refine lv_goto (tgt := 82) hx hb dX5_isInEffect_78 (by decide) ?_
              exact W.zret (v := (1 : Int32)) (ty := .boolean) hx hb hr rfl (fun t ht _ => ⟨⟨_, (σ, ν, ρ, lo), rfl, ⟨rfl, h⟩, WP.at9 ht hW⟩, hS.F ht⟩) hS.2.2 dX5_isInEffect_82 (hlocks := hlocks)
set_option maxHeartbeats 4000000 in
set_option maxRecDepth 100000 in
theorem tX5_takeTurn_42 {p : Program} {l : Launch} {e : Env} {s : State} {m : MethodId} {args : Array Value} {below : List Frame} {meth : Method} {c : Code} {z : Nat} {G : Gl} {ad : Nat → Nat → Nat} {σ : SG} {ν : NU} {ρ : RH} {lo : Int64} (X : Cx p l e s m args below meth c cX5_takeTurn none 4 RX5 wsX5_takeTurn z G) (o0 : Nat) (o1 : Nat) (p2 : Int32)  (post : SG → NU → Prop) (kc ks : Nat) : ∀ (a1 : SG) (a2 : NU) (b1 : Nat → Nat → Nat) (x3 : Int32) {H : Heap} {locs : List Loc} {ls : Array Slot}, Xt ad b1 ν a2 → (a1 7 (1 + o0) 2 = nI (a2 7 (1 + o0) 1) → 1 ≤ kc ∧ capn (a2 7 (1 + o0) 1) ≤ ks) → WP z G b1 (a1, a2, ρ, lo) H → va_S (Az z) s.heap H locs → lv_has ls 4 [(0, .ref (b1 1 o0)), (1, .ref (b1 3 o1)), (3, .int x3)] → jX5_takeTurn_42 o0 o1 p2 post a1 a2 x3 → W p l e ({ frames := 7, cells := kc, slots := ks, locals := 174 } : Room) s m args below meth c H locs 0 0 (MQ below (Qva z G (fun S1 => ∃ (t : SG) (u : NU), S1.1 = (t, u, ρ, lo) ∧ Xt ad S1.2 ν u ∧ post t u)) args s kc ks (Az z)) (F0 m 42 ls []) := by
  obtain ⟨hx, hb, hr, hml, hown, hts, hlocks, hE, hz⟩ := id X
  intro a1 a2 b1 x3 H locs ls hX9 hK hW hS hl h
  unfold jX5_takeTurn_42 at h
  refine lv_aload_n hx hb dX5_takeTurn_42 rfl (lv_at hl 0 rfl) ?_
  obtain ⟨g4, h⟩ := h
  refine r_get (C := RX5) (T := TX5) (N := 13) (ci := 8) (fs := fl_1 b1 a2 ρ o0 (a1 1 o0)) hx hb hts hown hE hW 1 o0 g4 rfl rfl (fun w h => List.mem_cons_of_mem _ (List.mem_append_left _ (List.mem_append_left _ (List.mem_append_right _ h)))) 0 (by decide) (List.mem_of_getElem? (i := 1) rfl) rfl (v := .ref (b1 7 (1 + o0))) rfl dX5_takeTurn_43 ?_
  refine lv_iload_n hx hb dX5_takeTurn_46 rfl (lv_at hl 2 rfl) ?_
  refine lv_aload_n hx hb dX5_takeTurn_47 rfl (lv_at hl 1 rfl) ?_
  obtain ⟨g5, h⟩ := h
  refine kA_Vv (rest := []) (As := [.int x3, .ref (b1 3 o1)]) ⟨hx, hb, hml, hown, hts⟩ hE hz hS hW (mtJx4a65c_add_7a177 l z G b1 a1 a2 ρ lo (1 + o0) x3 o1 _ kc ks hK h) (cwV 2 hts gX5_takeTurn_Jx4a65c_add_7a177 rfl rfl rfl (by decide +kernel) ⟨Nat.le_of_ble_eq_true rfl, Nat.le_of_ble_eq_true rfl⟩) (r_recv hE hW 7 (1 + o0) (show 1 + o0 < 3 by omega) (ci := 2) rfl rfl) rfl hl.1 rfl (Nat.le_of_ble_eq_true rfl) dX5_takeTurn_48 ⟨by show 0 + kc ≤ kc; omega, by show 0 + ks ≤ ks; omega⟩ (fun S1 ad8 H locs hp hW hS => ?_)
  obtain ⟨t6, vv7, rfl, q9, h⟩ := hp
  have z10 : ad8 1 o0 = b1 1 o0 := (q9 1 o0 (by decide) g4).2
  have z11 : ad8 3 o1 = b1 3 o1 := (q9 3 o1 (by decide) g5).2
  have hl : lv_has ls 4 [(0, .ref (ad8 1 o0)), (1, .ref (ad8 3 o1)), (3, .int x3)] := by rw [z10, z11]; exact hl
  refine W.widen (k := kc) (n := ks) (by omega) (by omega) ?_
  exact W.vret hx hb hr (fun t ht _ => ⟨⟨((t6, vv7, ρ, lo), ad8), rfl, ⟨_, _, rfl, (Xt.tr hX9 q9), h⟩, WP.at9 ht hW⟩, hS.F ht⟩) hS.2.2 dX5_takeTurn_51 (hlocks := hlocks)
set_option maxHeartbeats 4000000 in
set_option maxRecDepth 100000 in
theorem tX5_takeTurn_8 {p : Program} {l : Launch} {e : Env} {s : State} {m : MethodId} {args : Array Value} {below : List Frame} {meth : Method} {c : Code} {z : Nat} {G : Gl} {ad : Nat → Nat → Nat} {σ : SG} {ν : NU} {ρ : RH} {lo : Int64} (X : Cx p l e s m args below meth c cX5_takeTurn none 4 RX5 wsX5_takeTurn z G) (o0 : Nat) (o1 : Nat) (p2 : Int32)  (post : SG → NU → Prop) (kc ks : Nat) : ∀ (n : Nat) (a1 : SG) (a2 : NU) (b1 : Nat → Nat → Nat) (x3 : Int32) {H : Heap} {locs : List Loc} {ls : Array Slot}, Xt ad b1 ν a2 → (a1 7 (1 + o0) 2 = nI (a2 7 (1 + o0) 1) → 1 ≤ kc ∧ capn (a2 7 (1 + o0) 1) ≤ ks) → WP z G b1 (a1, a2, ρ, lo) H → va_S (Az z) s.heap H locs → lv_has ls 4 [(0, .ref (b1 1 o0)), (1, .ref (b1 3 o1)), (2, .int p2), (3, .int x3)] → wX5_takeTurn_8 o0 o1 p2 post n a1 a2 x3 → W p l e ({ frames := 7, cells := kc, slots := ks, locals := 174 } : Room) s m args below meth c H locs 0 0 (MQ below (Qva z G (fun S1 => ∃ (t : SG) (u : NU), S1.1 = (t, u, ρ, lo) ∧ Xt ad S1.2 ν u ∧ post t u)) args s kc ks (Az z)) (F0 m 8 ls []) := by
  obtain ⟨hx, hb, hr, hml, hown, hts, hlocks, hE, hz⟩ := id X
  intro n
  induction n with
  | zero =>
    intro a1 a2 b1 x3 H locs ls hX9 hK hW hS hl h
    exact absurd h id
  | succ n ih =>
    intro a1 a2 b1 x3 H locs ls hX9 hK hW hS hl h
    unfold wX5_takeTurn_8 at h
    refine lv_iload_n hx hb dX5_takeTurn_8 rfl (lv_at hl 3 rfl) ?_
    refine r_if_le hx hb rfl (tgt := 42) dX5_takeTurn_9 (by decide) (fun c3 => ?_) (fun c3 => ?_)
    · have h := ite_t c3 h
      exact tX5_takeTurn_42 (σ := σ) (ρ := ρ) X o0 o1 p2 post kc ks  a1 a2 b1 x3 hX9 hK hW hS (lv_sub hl [0, 1, 3] rfl) h
    · have h := ite_f c3 h
      refine lv_aload_n hx hb dX5_takeTurn_12 rfl (lv_at hl 0 rfl) ?_
      refine lv_aload_n hx hb dX5_takeTurn_13 rfl (lv_at hl 0 rfl) ?_
      obtain ⟨g12, h⟩ := h
      refine r_get (C := RX5) (T := TX5) (N := 13) (ci := 8) (fs := fl_1 b1 a2 ρ o0 (a1 1 o0)) hx hb hts hown hE hW 1 o0 g12 rfl rfl (fun w h => List.mem_cons_of_mem _ (List.mem_append_left _ (List.mem_append_left _ (List.mem_append_right _ h)))) 0 (by decide) (List.mem_of_getElem? (i := 1) rfl) rfl (v := .ref (b1 7 (1 + o0))) rfl dX5_takeTurn_14 ?_
      refine lv_iload_n hx hb dX5_takeTurn_17 rfl (lv_at hl 3 rfl) ?_
      refine lv_iconst (v := (1 : Int32)) hx hb dX5_takeTurn_18 (by decide) ?_
      refine lv_isub hx hb dX5_takeTurn_19 ?_
      refine k_Vr (rest := [.ref (b1 1 o0)]) (As := [.int (x3 - ((1 : Int32)))]) ⟨hx, hb, hml, hown, hts⟩ hE hz hS hW (mtJx4a65c_get_915e3 l z G b1 a1 a2 ρ lo (1 + o0) (x3 - ((1 : Int32))) _ h) (cwV 1 hts gX5_takeTurn_Jx4a65c_get_915e3 rfl rfl rfl (by decide +kernel) ⟨Nat.le_of_ble_eq_true rfl, Nat.le_of_ble_eq_true rfl⟩) (r_recv hE hW 7 (1 + o0) (show 1 + o0 < 3 by omega) (ci := 2) rfl rfl) rfl hl.1 rfl (Nat.le_of_ble_eq_true rfl) dX5_takeTurn_20 ⟨Nat.zero_le _, Nat.zero_le _⟩ (fun r13 S1 H locs hp hW hS => ?_)
      obtain ⟨rfl, h⟩ := hp
      obtain ⟨g14, h⟩ := h
      refine r_cast hx hb hts hown hE hW r13 g14 (List.mem_of_getElem? (i := 2) rfl) dX5_takeTurn_23 ?_
      refine r_get (C := RX0) (T := TX0) (N := 13) (ci := 3) (fs := fl_3 b1 a2 ρ r13 (a1 3 r13)) hx hb hts hown hE hW 3 r13 g14 rfl rfl (fun w h => List.mem_cons_of_mem _ (List.mem_append_left _ (List.mem_append_right _ h))) 0 (by decide) (List.mem_of_getElem? (i := 3) rfl) rfl (v := .int (a1 3 r13 0)) rfl dX5_takeTurn_26 ?_
      refine k_Vi (rest := []) (As := [.int (a1 3 r13 0)]) ⟨hx, hb, hml, hown, hts⟩ hE hz hS hW (mtX5_beginningOf l z G b1 a1 a2 ρ lo o0 (a1 3 r13 0) _ h) (cwV 1 hts gX5_takeTurn_X5_beginningOf rfl rfl rfl (by decide +kernel) ⟨Nat.le_of_ble_eq_true rfl, Nat.le_of_ble_eq_true rfl⟩) (r_recv hE hW 1 o0 g12 (ci := 8) rfl rfl) rfl hl.1 rfl (Nat.le_of_ble_eq_true rfl) dX5_takeTurn_29 ⟨Nat.zero_le _, Nat.zero_le _⟩ (fun r15 S1 H locs hp hW hS => ?_)
      obtain ⟨rfl, h⟩ := hp
      refine lv_iload_n hx hb dX5_takeTurn_32 rfl (lv_at hl 2 rfl) ?_
      refine r_icmp_le hx hb rfl rfl (tgt := 42) dX5_takeTurn_33 (by decide) (fun c16 => ?_) (fun c16 => ?_)
      · have h := ite_t c16 h
        exact tX5_takeTurn_42 (σ := σ) (ρ := ρ) X o0 o1 p2 post kc ks  a1 a2 b1 x3 hX9 hK hW hS (lv_sub hl [0, 1, 3] rfl) h
      · have h := ite_f c16 h
        refine lv_iinc (v := x3 + (-1 : Int32)) (lv' := [(3, .int (x3 + (-1 : Int32))), (0, .ref (b1 1 o0)), (1, .ref (b1 3 o1)), (2, .int p2)]) hx hb dX5_takeTurn_36 hl (k := 3) rfl rfl (by decide) rfl (fun ls hl => ?_)
        refine lv_goto (tgt := 8) hx hb dX5_takeTurn_39 (by decide) ?_
        exact ih a1 a2 b1 (x3 + (-1 : Int32)) hX9 hK hW hS (lv_sub hl [1, 2, 3, 0] rfl) h
set_option maxHeartbeats 4000000 in
set_option maxRecDepth 100000 in
theorem mtX5_takeTurn (l : Launch) (z : Nat) (G : Gl) (ad : Nat → Nat → Nat) (σ : SG) (ν : NU) (ρ : RH) (lo : Int64) (o0 : Nat) (o1 : Nat) (p2 : Int32) (post : SG → NU → Prop) (kc ks : Nat) (hK : σ 7 (1 + o0) 2 = nI (ν 7 (1 + o0) 1) → 1 ≤ kc ∧ capn (ν 7 (1 + o0) 1) ≤ ks) (h : wpX5_takeTurn σ ν o0 o1 p2 post) : Met l yX5_takeTurn wsX5_takeTurn ({ frames := 7, cells := kc, slots := ks, locals := 174 } : Room) (Pcs z G ad (σ, ν, ρ, lo) [.ref (ad 1 o0), .ref (ad 3 o1), .int p2]) (Qva z G (fun S1 => ∃ (t : SG) (u : NU), S1.1 = (t, u, ρ, lo) ∧ Xt ad S1.2 ν u ∧ post t u)) kc ks (Az z) := by
  refine Met.ofW (cc := cX5_takeTurn) (maxL := 4) (ret := none) (by decide) rfl ?_
  intro p e s m args below meth c s₁ B hml hv
  obtain ⟨rfl, hz, hW, hE⟩ := hv
  have hx := B.exec
  have hb := B.bytes
  have hr := B.returns
  have hts := atoms_spec (ws := wsX5_takeTurn) B.pre
  have hown : s.vm.findClass RX5 = some m.cls := findClass_of_methodNamed B.named
  have hlocks := B.notSynchronized
  have X : Cx p l e s m _ below meth c cX5_takeTurn none 4 RX5 wsX5_takeTurn z G := ⟨hx, hb, hr, hml, hown, hts, hlocks, hE, hz⟩
  have hS : va_S (Az z) s.heap s.heap [] := va_S.rf
  have hl := lv_entry [.ref (ad 1 o0), .ref (ad 3 o1), .int p2] (n := 4) (Nat.le_of_ble_eq_true rfl)
  rw [lg_entry_eq]
  generalize (lg_sl [.ref (ad 1 o0), .ref (ad 3 o1), .int p2] ++ List.replicate (4 - (lg_sl [.ref (ad 1 o0), .ref (ad 3 o1), .int p2]).length) Slot.unset).toArray = ls at hl ⊢
  have hl : lv_has ls 4 [(0, .ref (ad 1 o0)), (1, .ref (ad 3 o1)), (2, .int p2)] := hl
  unfold wpX5_takeTurn at h
  refine lv_aload_n hx hb dX5_takeTurn_0 rfl (lv_at hl 0 rfl) ?_
  obtain ⟨g1, h⟩ := h
  refine r_get (C := RX5) (T := TX5) (N := 13) (ci := 8) (fs := fl_1 ad ν ρ o0 (σ 1 o0)) hx hb hts hown hE hW 1 o0 g1 rfl rfl (fun w h => List.mem_cons_of_mem _ (List.mem_append_left _ (List.mem_append_left _ (List.mem_append_right _ h)))) 0 (by decide) (List.mem_of_getElem? (i := 1) rfl) rfl (v := .ref (ad 7 (1 + o0))) rfl dX5_takeTurn_1 ?_
  refine k_Vi (rest := []) (As := []) ⟨hx, hb, hml, hown, hts⟩ hE hz hS hW (mtJx4a65c_size_8abf5 l z G ad σ ν ρ lo (1 + o0) _ h) (cwV 0 hts gX5_takeTurn_Jx4a65c_size_8abf5 rfl rfl rfl (by decide +kernel) ⟨Nat.le_of_ble_eq_true rfl, Nat.le_of_ble_eq_true rfl⟩) (r_recv hE hW 7 (1 + o0) (show 1 + o0 < 3 by omega) (ci := 2) rfl rfl) rfl hl.1 rfl (Nat.le_of_ble_eq_true rfl) dX5_takeTurn_4 ⟨Nat.zero_le _, Nat.zero_le _⟩ (fun r2 S1 H locs hp hW hS => ?_)
  obtain ⟨rfl, h⟩ := hp
  refine lv_istore_n (lv' := [(3, .int r2), (0, .ref (ad 1 o0)), (1, .ref (ad 3 o1)), (2, .int p2)]) hx hb dX5_takeTurn_7 rfl hl (by decide) rfl (fun ls hl => ?_)
  obtain ⟨n17, h⟩ := h
  exact tX5_takeTurn_8 (σ := σ) (ρ := ρ) X o0 o1 p2 post kc ks  n17 σ ν ad r2 Xt.rf hK hW hS (lv_sub hl [1, 2, 3, 0] rfl) h
set_option maxHeartbeats 4000000 in
set_option maxRecDepth 100000 in
theorem mtX5_labelOf (l : Launch) (z : Nat) (G : Gl) (ad : Nat → Nat → Nat) (σ : SG) (ν : NU) (ρ : RH) (lo : Int64) (o0 : Nat) (p1 : Int32) (post : Int32 → Prop) (h : wpX5_labelOf σ ν o0 p1 post) : Met l yX5_labelOf wsX5_labelOf ({ frames := 0, cells := 0, slots := 0, locals := 0 } : Room) (Pcs z G ad (σ, ν, ρ, lo) [.ref (ad 1 o0), .int p1]) (Qis z G ad (fun r S1 => S1 = (σ, ν, ρ, lo) ∧ post r)) 0 0 (Az z) := by
  refine Met.ofW (cc := cX5_labelOf) (maxL := 2) (ret := (some .int)) (by decide) rfl ?_
  intro p e s m args below meth c s₁ B hml hv
  obtain ⟨rfl, hz, hW, hE⟩ := hv
  have hx := B.exec
  have hb := B.bytes
  have hr := B.returns
  have hts := atoms_spec (ws := wsX5_labelOf) B.pre
  have hown : s.vm.findClass RX5 = some m.cls := findClass_of_methodNamed B.named
  have hlocks := B.notSynchronized
  have X : Cx p l e s m _ below meth c cX5_labelOf (some .int) 2 RX5 wsX5_labelOf z G := ⟨hx, hb, hr, hml, hown, hts, hlocks, hE, hz⟩
  have hS : va_S (Az z) s.heap s.heap [] := va_S.rf
  have hl := lv_entry [.ref (ad 1 o0), .int p1] (n := 2) (Nat.le_of_ble_eq_true rfl)
  rw [lg_entry_eq]
  generalize (lg_sl [.ref (ad 1 o0), .int p1] ++ List.replicate (2 - (lg_sl [.ref (ad 1 o0), .int p1]).length) Slot.unset).toArray = ls at hl ⊢
  have hl : lv_has ls 2 [(0, .ref (ad 1 o0)), (1, .int p1)] := hl
  unfold wpX5_labelOf at h
  refine lv_iload_n hx hb dX5_labelOf_0 rfl (lv_at hl 1 rfl) ?_
  refine r_if_lt hx hb rfl (tgt := 22) dX5_labelOf_1 (by decide) (fun c1 => ?_) (fun c1 => ?_)
  · have h := ite_t c1 h
    refine lv_iconst (v := (-1 : Int32)) hx hb dX5_labelOf_22 (by decide) ?_
    exact W.iret (v := (-1 : Int32)) hx hb hr (fun t ht _ => ⟨⟨_, (σ, ν, ρ, lo), rfl, ⟨rfl, h⟩, WP.at9 ht hW⟩, hS.F ht⟩) hS.2.2 dX5_labelOf_23 (hlocks := hlocks)
  · have h := ite_f c1 h
    refine lv_iload_n hx hb dX5_labelOf_4 rfl (lv_at hl 1 rfl) ?_
    refine lv_aload_n hx hb dX5_labelOf_5 rfl (lv_at hl 0 rfl) ?_
    obtain ⟨g2, h⟩ := h
    refine r_get (C := RX5) (T := TX5) (N := 13) (ci := 8) (fs := fl_1 ad ν ρ o0 (σ 1 o0)) hx hb hts hown hE hW 1 o0 g2 rfl rfl (fun w h => List.mem_cons_of_mem _ (List.mem_append_right _ h)) 4 (by decide) (List.mem_of_getElem? (i := 1) rfl) rfl (v := .ref (ad 14 o0)) rfl dX5_labelOf_6 ?_
    refine r_alen hx hb hE hW 14 o0 g2 rfl 0 rfl (v := (20 : Int32)) rfl dX5_labelOf_9 ?_
    refine r_icmp_ge hx hb rfl (show (20 : Int32).toInt = 20 by decide) (tgt := 22) dX5_labelOf_10 (by decide) (fun c3 => ?_) (fun c3 => ?_)
    · have h := ite_f c3 h
      refine lv_iconst (v := (-1 : Int32)) hx hb dX5_labelOf_22 (by decide) ?_
      exact W.iret (v := (-1 : Int32)) hx hb hr (fun t ht _ => ⟨⟨_, (σ, ν, ρ, lo), rfl, ⟨rfl, h⟩, WP.at9 ht hW⟩, hS.F ht⟩) hS.2.2 dX5_labelOf_23 (hlocks := hlocks)
    · have h := ite_t c3 h
      refine lv_aload_n hx hb dX5_labelOf_13 rfl (lv_at hl 0 rfl) ?_
      refine r_get (C := RX5) (T := TX5) (N := 13) (ci := 8) (fs := fl_1 ad ν ρ o0 (σ 1 o0)) hx hb hts hown hE hW 1 o0 g2 rfl rfl (fun w h => List.mem_cons_of_mem _ (List.mem_append_right _ h)) 4 (by decide) (List.mem_of_getElem? (i := 1) rfl) rfl (v := .ref (ad 14 o0)) rfl dX5_labelOf_14 ?_
      refine lv_iload_n hx hb dX5_labelOf_17 rfl (lv_at hl 1 rfl) ?_
      obtain ⟨b4, h⟩ := h
      refine r_iald hx hb hE hW 14 o0 g2 (n := 20) (f := σ 14 o0) rfl b4 (v := σ 14 o0 p1.toNatClampNeg) rfl dX5_labelOf_18 ?_
      refine lv_goto (tgt := 23) hx hb dX5_labelOf_19 (by decide) ?_
      exact W.iret (v := σ 14 o0 p1.toNatClampNeg) hx hb hr (fun t ht _ => ⟨⟨_, (σ, ν, ρ, lo), rfl, ⟨rfl, h⟩, WP.at9 ht hW⟩, hS.F ht⟩) hS.2.2 dX5_labelOf_23 (hlocks := hlocks)
set_option maxHeartbeats 4000000 in
set_option maxRecDepth 100000 in
theorem mtX5_isThere (l : Launch) (z : Nat) (G : Gl) (ad : Nat → Nat → Nat) (σ : SG) (ν : NU) (ρ : RH) (lo : Int64) (o0 : Nat) (p1 : Int32) (post : Int32 → Prop) (h : wpX5_isThere σ ν o0 p1 post) : Met l yX5_isThere wsX5_isThere ({ frames := 1, cells := 0, slots := 0, locals := 21 } : Room) (Pcs z G ad (σ, ν, ρ, lo) [.ref (ad 1 o0), .int p1]) (Qis z G ad (fun r S1 => S1 = (σ, ν, ρ, lo) ∧ post r)) 0 0 (Az z) := by
  refine Met.ofW (cc := cX5_isThere) (maxL := 2) (ret := (some .boolean)) (by decide) rfl ?_
  intro p e s m args below meth c s₁ B hml hv
  obtain ⟨rfl, hz, hW, hE⟩ := hv
  have hx := B.exec
  have hb := B.bytes
  have hr := B.returns
  have hts := atoms_spec (ws := wsX5_isThere) B.pre
  have hown : s.vm.findClass RX5 = some m.cls := findClass_of_methodNamed B.named
  have hlocks := B.notSynchronized
  have X : Cx p l e s m _ below meth c cX5_isThere (some .boolean) 2 RX5 wsX5_isThere z G := ⟨hx, hb, hr, hml, hown, hts, hlocks, hE, hz⟩
  have hS : va_S (Az z) s.heap s.heap [] := va_S.rf
  have hl := lv_entry [.ref (ad 1 o0), .int p1] (n := 2) (Nat.le_of_ble_eq_true rfl)
  rw [lg_entry_eq]
  generalize (lg_sl [.ref (ad 1 o0), .int p1] ++ List.replicate (2 - (lg_sl [.ref (ad 1 o0), .int p1]).length) Slot.unset).toArray = ls at hl ⊢
  have hl : lv_has ls 2 [(0, .ref (ad 1 o0)), (1, .int p1)] := hl
  unfold wpX5_isThere at h
  refine lv_aload_n hx hb dX5_isThere_0 rfl (lv_at hl 0 rfl) ?_
  refine lv_iload_n hx hb dX5_isThere_1 rfl (lv_at hl 1 rfl) ?_
  obtain ⟨g1, h⟩ := h
  refine k_Vi (rest := []) (As := [.int p1]) ⟨hx, hb, hml, hown, hts⟩ hE hz hS hW (mtX5_labelOf l z G ad σ ν ρ lo o0 p1 _ h) (cwV 1 hts gX5_isThere_X5_labelOf rfl rfl rfl (by decide +kernel) ⟨Nat.le_of_ble_eq_true rfl, Nat.le_of_ble_eq_true rfl⟩) (r_recv hE hW 1 o0 g1 (ci := 8) rfl rfl) rfl hl.1 rfl (Nat.le_of_ble_eq_true rfl) dX5_isThere_2 ⟨Nat.le_of_ble_eq_true rfl, Nat.le_of_ble_eq_true rfl⟩ (fun r2 S1 H locs hp hW hS => ?_)
  obtain ⟨rfl, h⟩ := hp
  refine lv_iconst (v := (-1 : Int32)) hx hb dX5_isThere_5 (by decide) ?_
  refine r_icmp_eq hx hb rfl (show (-1 : Int32).toInt = (-1) by decide) (tgt := 13) dX5_isThere_6 (by decide) (fun c3 => ?_) (fun c3 => ?_)
  · have h := ite_t c3 h
    refine lv_iconst (v := (0 : Int32)) hx hb dX5_isThere_13 (by decide) ?_
    exact W.zret (v := (0 : Int32)) (ty := .boolean) hx hb hr rfl (fun t ht _ => ⟨⟨_, (σ, ν, ρ, lo), rfl, ⟨rfl, h⟩, WP.at9 ht hW⟩, hS.F ht⟩) hS.2.2 dX5_isThere_14 (hlocks := hlocks)
  · have h := ite_f c3 h
    refine lv_iconst (v := (1 : Int32)) hx hb dX5_isThere_9 (by decide) ?_
    refine lv_goto (tgt := 14) hx hb dX5_isThere_10 (by decide) ?_
    exact W.zret (v := (1 : Int32)) (ty := .boolean) hx hb hr rfl (fun t ht _ => ⟨⟨_, (σ, ν, ρ, lo), rfl, ⟨rfl, h⟩, WP.at9 ht hW⟩, hS.F ht⟩) hS.2.2 dX5_isThere_14 (hlocks := hlocks)
set_option maxHeartbeats 4000000 in
set_option maxRecDepth 100000 in
theorem tX5_mayHold_18 {p : Program} {l : Launch} {e : Env} {s : State} {m : MethodId} {args : Array Value} {below : List Frame} {meth : Method} {c : Code} {z : Nat} {G : Gl} {ad : Nat → Nat → Nat} {σ : SG} {ν : NU} {ρ : RH} {lo : Int64} (X : Cx p l e s m args below meth c cX5_mayHold (some .boolean) 5 RX5 wsX5_mayHold z G) (o0 : Nat) (p1 : Int32) (p2 : Int32) (p3 : Int32)  (post : Int32 → Prop) : ∀ (n : Nat) (x4 : Int32) {H : Heap} {locs : List Loc} {ls : Array Slot}, WP z G ad (σ, ν, ρ, lo) H → va_S (Az z) s.heap H locs → lv_has ls 5 [(0, .ref (ad 1 o0)), (1, .int p1), (2, .int p2), (3, .int p3), (4, .int x4)] → wX5_mayHold_18 o0 p1 p2 p3 post n σ ν x4 → W p l e ({ frames := 2, cells := 0, slots := 0, locals := 42 } : Room) s m args below meth c H locs 0 0 (MQ below (Qis z G ad (fun r S1 => S1 = (σ, ν, ρ, lo) ∧ post r)) args s 0 0 (Az z)) (F0 m 18 ls []) := by
  obtain ⟨hx, hb, hr, hml, hown, hts, hlocks, hE, hz⟩ := id X
  intro n
  induction n with
  | zero =>
    intro x4 H locs ls hW hS hl h
    exact absurd h id
  | succ n ih =>
    intro x4 H locs ls hW hS hl h
    unfold wX5_mayHold_18 at h
    refine lv_iload hx hb dX5_mayHold_18 (lv_at hl 4 rfl) ?_
    refine lv_bipush (v := (20 : Int32)) hx hb dX5_mayHold_20 (by decide) ?_
    refine r_icmp_ge hx hb rfl (show (20 : Int32).toInt = 20 by decide) (tgt := 61) dX5_mayHold_22 (by decide) (fun c2 => ?_) (fun c2 => ?_)
    · have h := ite_f c2 h
      refine lv_iconst (v := (1 : Int32)) hx hb dX5_mayHold_61 (by decide) ?_
      exact W.zret (v := (1 : Int32)) (ty := .boolean) hx hb hr rfl (fun t ht _ => ⟨⟨_, (σ, ν, ρ, lo), rfl, ⟨rfl, h⟩, WP.at9 ht hW⟩, hS.F ht⟩) hS.2.2 dX5_mayHold_62 (hlocks := hlocks)
    · have h := ite_t c2 h
      refine lv_iload hx hb dX5_mayHold_25 (lv_at hl 4 rfl) ?_
      refine lv_iload_n hx hb dX5_mayHold_27 rfl (lv_at hl 3 rfl) ?_
      refine r_icmp_eq hx hb rfl rfl (tgt := 55) dX5_mayHold_28 (by decide) (fun c3 => ?_) (fun c3 => ?_)
      · have h := ite_t c3 h
        refine lv_iinc (v := x4 + (1 : Int32)) (lv' := [(4, .int (x4 + (1 : Int32))), (0, .ref (ad 1 o0)), (1, .int p1), (2, .int p2), (3, .int p3)]) hx hb dX5_mayHold_55 hl (k := 4) rfl rfl (by decide) rfl (fun ls hl => ?_)
        refine lv_goto (tgt := 18) hx hb dX5_mayHold_58 (by decide) ?_
        exact ih (x4 + (1 : Int32)) hW hS (lv_sub hl [1, 2, 3, 4, 0] rfl) h
      · have h := ite_f c3 h
        refine lv_aload_n hx hb dX5_mayHold_31 rfl (lv_at hl 0 rfl) ?_
        obtain ⟨g4, h⟩ := h
        refine r_get (C := RX5) (T := TX5) (N := 13) (ci := 8) (fs := fl_1 ad ν ρ o0 (σ 1 o0)) hx hb hts hown hE hW 1 o0 g4 rfl rfl (fun w h => List.mem_cons_of_mem _ (List.mem_append_right _ h)) 4 (by decide) (List.mem_of_getElem? (i := 1) rfl) rfl (v := .ref (ad 14 o0)) rfl dX5_mayHold_32 ?_
        refine lv_iload hx hb dX5_mayHold_35 (lv_at hl 4 rfl) ?_
        obtain ⟨b5, h⟩ := h
        refine r_iald hx hb hE hW 14 o0 g4 (n := 20) (f := σ 14 o0) rfl b5 (v := σ 14 o0 x4.toNatClampNeg) rfl dX5_mayHold_37 ?_
        refine lv_iload_n hx hb dX5_mayHold_38 rfl (lv_at hl 2 rfl) ?_
        refine r_icmp_ne hx hb rfl rfl (tgt := 55) dX5_mayHold_39 (by decide) (fun c6 => ?_) (fun c6 => ?_)
        · have h := ite_f c6 h
          refine lv_iinc (v := x4 + (1 : Int32)) (lv' := [(4, .int (x4 + (1 : Int32))), (0, .ref (ad 1 o0)), (1, .int p1), (2, .int p2), (3, .int p3)]) hx hb dX5_mayHold_55 hl (k := 4) rfl rfl (by decide) rfl (fun ls hl => ?_)
          refine lv_goto (tgt := 18) hx hb dX5_mayHold_58 (by decide) ?_
          exact ih (x4 + (1 : Int32)) hW hS (lv_sub hl [1, 2, 3, 4, 0] rfl) h
        · have h := ite_t c6 h
          refine lv_aload_n hx hb dX5_mayHold_42 rfl (lv_at hl 0 rfl) ?_
          refine r_get (C := RX5) (T := TX5) (N := 13) (ci := 8) (fs := fl_1 ad ν ρ o0 (σ 1 o0)) hx hb hts hown hE hW 1 o0 g4 rfl rfl (fun w h => List.mem_cons_of_mem _ (List.mem_append_right _ h)) 5 (by decide) (List.mem_of_getElem? (i := 2) rfl) rfl (v := .ref (ad 15 o0)) rfl dX5_mayHold_43 ?_
          refine lv_iload hx hb dX5_mayHold_46 (lv_at hl 4 rfl) ?_
          obtain ⟨b7, h⟩ := h
          refine r_iald hx hb hE hW 15 o0 g4 (n := 20) (f := σ 15 o0) rfl b7 (v := σ 15 o0 x4.toNatClampNeg) rfl dX5_mayHold_48 ?_
          refine lv_iload_n hx hb dX5_mayHold_49 rfl (lv_at hl 1 rfl) ?_
          refine r_icmp_ne hx hb rfl rfl (tgt := 55) dX5_mayHold_50 (by decide) (fun c8 => ?_) (fun c8 => ?_)
          · have h := ite_f c8 h
            refine lv_iinc (v := x4 + (1 : Int32)) (lv' := [(4, .int (x4 + (1 : Int32))), (0, .ref (ad 1 o0)), (1, .int p1), (2, .int p2), (3, .int p3)]) hx hb dX5_mayHold_55 hl (k := 4) rfl rfl (by decide) rfl (fun ls hl => ?_)
            refine lv_goto (tgt := 18) hx hb dX5_mayHold_58 (by decide) ?_
            exact ih (x4 + (1 : Int32)) hW hS (lv_sub hl [1, 2, 3, 4, 0] rfl) h
          · have h := ite_t c8 h
            refine lv_iconst (v := (0 : Int32)) hx hb dX5_mayHold_53 (by decide) ?_
            exact W.zret (v := (0 : Int32)) (ty := .boolean) hx hb hr rfl (fun t ht _ => ⟨⟨_, (σ, ν, ρ, lo), rfl, ⟨rfl, h⟩, WP.at9 ht hW⟩, hS.F ht⟩) hS.2.2 dX5_mayHold_54 (hlocks := hlocks)
set_option maxHeartbeats 4000000 in
set_option maxRecDepth 100000 in
theorem mtX5_mayHold (l : Launch) (z : Nat) (G : Gl) (ad : Nat → Nat → Nat) (σ : SG) (ν : NU) (ρ : RH) (lo : Int64) (o0 : Nat) (p1 : Int32) (p2 : Int32) (p3 : Int32) (post : Int32 → Prop) (h : wpX5_mayHold σ ν o0 p1 p2 p3 post) : Met l yX5_mayHold wsX5_mayHold ({ frames := 2, cells := 0, slots := 0, locals := 42 } : Room) (Pcs z G ad (σ, ν, ρ, lo) [.ref (ad 1 o0), .int p1, .int p2, .int p3]) (Qis z G ad (fun r S1 => S1 = (σ, ν, ρ, lo) ∧ post r)) 0 0 (Az z) := by
  refine Met.ofW (cc := cX5_mayHold) (maxL := 5) (ret := (some .boolean)) (by decide) rfl ?_
  intro p e s m args below meth c s₁ B hml hv
  obtain ⟨rfl, hz, hW, hE⟩ := hv
  have hx := B.exec
  have hb := B.bytes
  have hr := B.returns
  have hts := atoms_spec (ws := wsX5_mayHold) B.pre
  have hown : s.vm.findClass RX5 = some m.cls := findClass_of_methodNamed B.named
  have hlocks := B.notSynchronized
  have X : Cx p l e s m _ below meth c cX5_mayHold (some .boolean) 5 RX5 wsX5_mayHold z G := ⟨hx, hb, hr, hml, hown, hts, hlocks, hE, hz⟩
  have hS : va_S (Az z) s.heap s.heap [] := va_S.rf
  have hl := lv_entry [.ref (ad 1 o0), .int p1, .int p2, .int p3] (n := 5) (Nat.le_of_ble_eq_true rfl)
  rw [lg_entry_eq]
  generalize (lg_sl [.ref (ad 1 o0), .int p1, .int p2, .int p3] ++ List.replicate (5 - (lg_sl [.ref (ad 1 o0), .int p1, .int p2, .int p3]).length) Slot.unset).toArray = ls at hl ⊢
  have hl : lv_has ls 5 [(0, .ref (ad 1 o0)), (1, .int p1), (2, .int p2), (3, .int p3)] := hl
  unfold wpX5_mayHold at h
  refine lv_iload_n hx hb dX5_mayHold_0 rfl (lv_at hl 1 rfl) ?_
  refine lv_iconst (v := (-1 : Int32)) hx hb dX5_mayHold_1 (by decide) ?_
  refine r_icmp_eq hx hb rfl (show (-1 : Int32).toInt = (-1) by decide) (tgt := 15) dX5_mayHold_2 (by decide) (fun c1 => ?_) (fun c1 => ?_)
  · have h := ite_t c1 h
    refine lv_iconst (v := (0 : Int32)) hx hb dX5_mayHold_15 (by decide) ?_
    refine lv_istore (lv' := [(4, .int ((0 : Int32))), (0, .ref (ad 1 o0)), (1, .int p1), (2, .int p2), (3, .int p3)]) hx hb dX5_mayHold_16 hl (by decide) rfl (fun ls hl => ?_)
    obtain ⟨n9, h⟩ := h
    exact tX5_mayHold_18 (σ := σ) (ρ := ρ) X o0 p1 p2 p3 post  n9 ((0 : Int32)) hW hS (lv_sub hl [1, 2, 3, 4, 0] rfl) h
  · have h := ite_f c1 h
    refine lv_aload_n hx hb dX5_mayHold_5 rfl (lv_at hl 0 rfl) ?_
    refine lv_iload_n hx hb dX5_mayHold_6 rfl (lv_at hl 1 rfl) ?_
    obtain ⟨g10, h⟩ := h
    refine k_Vi (rest := []) (As := [.int p1]) ⟨hx, hb, hml, hown, hts⟩ hE hz hS hW (mtX5_isThere l z G ad σ ν ρ lo o0 p1 _ h) (cwV 1 hts gX5_mayHold_X5_isThere rfl rfl rfl (by decide +kernel) ⟨Nat.le_of_ble_eq_true rfl, Nat.le_of_ble_eq_true rfl⟩) (r_recv hE hW 1 o0 g10 (ci := 8) rfl rfl) rfl hl.1 rfl (Nat.le_of_ble_eq_true rfl) dX5_mayHold_7 ⟨Nat.le_of_ble_eq_true rfl, Nat.le_of_ble_eq_true rfl⟩ (fun r11 S1 H locs hp hW hS => ?_)
    obtain ⟨rfl, h⟩ := hp
    refine r_if_ne hx hb rfl (tgt := 15) dX5_mayHold_10 (by decide) (fun c12 => ?_) (fun c12 => ?_)
    · have h := ite_f c12 h
      refine lv_iconst (v := (0 : Int32)) hx hb dX5_mayHold_15 (by decide) ?_
      refine lv_istore (lv' := [(4, .int ((0 : Int32))), (0, .ref (ad 1 o0)), (1, .int p1), (2, .int p2), (3, .int p3)]) hx hb dX5_mayHold_16 hl (by decide) rfl (fun ls hl => ?_)
      obtain ⟨n13, h⟩ := h
      exact tX5_mayHold_18 (σ := σ) (ρ := ρ) X o0 p1 p2 p3 post  n13 ((0 : Int32)) hW hS (lv_sub hl [1, 2, 3, 4, 0] rfl) h
    · have h := ite_t c12 h
      refine lv_iconst (v := (0 : Int32)) hx hb dX5_mayHold_13 (by decide) ?_
      exact W.zret (v := (0 : Int32)) (ty := .boolean) hx hb hr rfl (fun t ht _ => ⟨⟨_, (σ, ν, ρ, lo), rfl, ⟨rfl, h⟩, WP.at9 ht hW⟩, hS.F ht⟩) hS.2.2 dX5_mayHold_14 (hlocks := hlocks)
set_option maxHeartbeats 4000000 in
set_option maxRecDepth 100000 in
theorem tX4_splice_82 {p : Program} {l : Launch} {e : Env} {s : State} {m : MethodId} {args : Array Value} {below : List Frame} {meth : Method} {c : Code} {z : Nat} {G : Gl} {ad : Nat → Nat → Nat} {σ : SG} {ν : NU} {ρ : RH} {lo : Int64} (X : Cx p l e s m args below meth c cX4_splice (some .boolean) 8 RX4 wsX4_splice z G) (o0 : Nat) (p1 : Int32) (p2 : Int32) (o3 : Nat) (p4 : Int32)  (post : Int32 → SG → Prop) : ∀ (n : Nat) (a1 : SG) (x5 : Int32) (x6 : Int32) (x7 : Int32) {H : Heap} {locs : List Loc} {ls : Array Slot}, WP z G ad (a1, ν, ρ, lo) H → va_S (Az z) s.heap H locs → lv_has ls 8 [(0, .ref (ad 2 o0)), (1, .int p1), (3, .ref (ad 4 o3)), (4, .int p4), (5, .int x5), (6, .int x6), (7, .int x7)] → wX4_splice_82 o0 p1 p2 o3 p4 post n a1 ν x5 x6 x7 → W p l e ({ frames := 1, cells := 0, slots := 0, locals := 30 } : Room) s m args below meth c H locs 0 0 (MQ below (Qis z G ad (fun r S1 => ∃ t : SG, S1 = (t, ν, ρ, lo) ∧ post r t)) args s 0 0 (Az z)) (F0 m 82 ls []) := by
  obtain ⟨hx, hb, hr, hml, hown, hts, hlocks, hE, hz⟩ := id X
  intro n
  induction n with
  | zero =>
    intro a1 x5 x6 x7 H locs ls hW hS hl h
    exact absurd h id
  | succ n ih =>
    intro a1 x5 x6 x7 H locs ls hW hS hl h
    unfold wX4_splice_82 at h
    refine lv_iload hx hb dX4_splice_82 (lv_at hl 6 rfl) ?_
    refine lv_aload_n hx hb dX4_splice_84 rfl (lv_at hl 2 rfl) ?_
    obtain ⟨g13, h⟩ := h
    refine r_get (C := RX2) (T := TX2) (N := 2) (ci := 5) (fs := fl_4 ad ν ρ o3 (a1 4 o3)) hx hb hts hown hE hW 4 o3 g13 rfl rfl (fun w h => List.mem_cons_of_mem _ (List.mem_append_right _ h)) 1 (by decide) (List.mem_of_getElem? (i := 2) rfl) rfl (v := .int (a1 4 o3 1)) rfl dX4_splice_85 ?_
    refine r_icmp_ge hx hb rfl rfl (tgt := 124) dX4_splice_88 (by decide) (fun c14 => ?_) (fun c14 => ?_)
    · have h := ite_f c14 h
      refine lv_aload_n hx hb dX4_splice_124 rfl (lv_at hl 0 rfl) ?_
      refine lv_iload hx hb dX4_splice_125 (lv_at hl 5 rfl) ?_
      refine lv_iload hx hb dX4_splice_127 (lv_at hl 4 rfl) ?_
      refine lv_iadd hx hb dX4_splice_129 ?_
      obtain ⟨g15, h⟩ := h
      refine r_putC (C := RX4) (T := TX4) (N := 3) (ci := 7) (fl := fl_2 ad ν ρ o0) hx hb hts hown hE hW hS 2 o0 g15 (fun _ => rfl) rfl (fun w h => List.mem_cons_of_mem _ (List.mem_append_left _ (List.mem_append_right _ h))) tyX4_ok nmX4 2 (by decide) (List.mem_of_getElem? (i := 1) rfl) rfl rfl rfl (Nat.le_of_ble_eq_true rfl) (x := x6 + x5) rfl dX4_splice_130 (fun t16 e17 H locs hW hS => ?_)
      have h := h t16 e17
      refine lv_iconst (v := (1 : Int32)) hx hb dX4_splice_133 (by decide) ?_
      exact W.zret (v := (1 : Int32)) (ty := .boolean) hx hb hr rfl (fun t ht _ => ⟨⟨_, (t16, ν, ρ, lo), rfl, ⟨_, rfl, h⟩, WP.at9 ht hW⟩, hS.F ht⟩) hS.2.2 dX4_splice_134 (hlocks := hlocks)
    · have h := ite_t c14 h
      refine lv_aload_n hx hb dX4_splice_91 rfl (lv_at hl 0 rfl) ?_
      obtain ⟨g18, h⟩ := h
      refine r_get (C := RX4) (T := TX4) (N := 3) (ci := 7) (fs := fl_2 ad ν ρ o0 (a1 2 o0)) hx hb hts hown hE hW 2 o0 g18 rfl rfl (fun w h => List.mem_cons_of_mem _ (List.mem_append_left _ (List.mem_append_right _ h))) 0 (by decide) (List.mem_of_getElem? (i := 3) rfl) rfl (v := .ref (ad 20 o0)) rfl dX4_splice_92 ?_
      refine lv_iload_n hx hb dX4_splice_95 rfl (lv_at hl 1 rfl) ?_
      refine lv_iload hx hb dX4_splice_96 (lv_at hl 6 rfl) ?_
      refine lv_iadd hx hb dX4_splice_98 ?_
      refine lv_aload_n hx hb dX4_splice_99 rfl (lv_at hl 2 rfl) ?_
      refine r_get (C := RX2) (T := TX2) (N := 2) (ci := 5) (fs := fl_4 ad ν ρ o3 (a1 4 o3)) hx hb hts hown hE hW 4 o3 g13 rfl rfl (fun w h => List.mem_cons_of_mem _ (List.mem_append_right _ h)) 0 (by decide) (List.mem_of_getElem? (i := 9) rfl) rfl (v := .ref (ad 22 o3)) rfl dX4_splice_100 ?_
      refine lv_iload hx hb dX4_splice_103 (lv_at hl 6 rfl) ?_
      obtain ⟨b19, h⟩ := h
      refine r_iald hx hb hE hW 22 o3 g13 (n := 4) (f := a1 22 o3) rfl b19 (v := a1 22 o3 x7.toNatClampNeg) rfl dX4_splice_105 ?_
      obtain ⟨b20, h⟩ := h
      refine r_iastC hx hb hE hW hS 20 o0 g18 (n := 12) (fun _ => rfl) b20 dX4_splice_106 (fun t21 e22 H locs hW hS => ?_)
      have h := h t21 e22
      refine lv_aload_n hx hb dX4_splice_107 rfl (lv_at hl 0 rfl) ?_
      refine r_get (C := RX4) (T := TX4) (N := 3) (ci := 7) (fs := fl_2 ad ν ρ o0 (t21 2 o0)) hx hb hts hown hE hW 2 o0 g18 rfl rfl (fun w h => List.mem_cons_of_mem _ (List.mem_append_left _ (List.mem_append_right _ h))) 1 (by decide) (List.mem_of_getElem? (i := 8) rfl) rfl (v := .ref (ad 21 o0)) rfl dX4_splice_108 ?_
      refine lv_iload_n hx hb dX4_splice_111 rfl (lv_at hl 1 rfl) ?_
      refine lv_iload hx hb dX4_splice_112 (lv_at hl 6 rfl) ?_
      refine lv_iadd hx hb dX4_splice_114 ?_
      refine lv_iload hx hb dX4_splice_115 (lv_at hl 3 rfl) ?_
      obtain ⟨b23, h⟩ := h
      refine r_iastC hx hb hE hW hS 21 o0 g18 (n := 12) (fun _ => rfl) b23 dX4_splice_117 (fun t24 e25 H locs hW hS => ?_)
      have h := h t24 e25
      refine lv_iinc (v := x7 + (1 : Int32)) (lv' := [(7, .int (x7 + (1 : Int32))), (0, .ref (ad 2 o0)), (1, .int p1), (3, .ref (ad 4 o3)), (4, .int p4), (5, .int x5), (6, .int x6)]) hx hb dX4_splice_118 hl (k := 6) rfl rfl (by decide) rfl (fun ls hl => ?_)
      refine lv_goto (tgt := 82) hx hb dX4_splice_121 (by decide) ?_
      exact ih t24 x5 x6 (x7 + (1 : Int32)) hW hS (lv_sub hl [1, 2, 3, 4, 5, 6, 0] rfl) h
set_option maxHeartbeats 4000000 in
set_option maxRecDepth 100000 in
theorem mtX4_splice (l : Launch) (z : Nat) (G : Gl) (ad : Nat → Nat → Nat) (σ : SG) (ν : NU) (ρ : RH) (lo : Int64) (o0 : Nat) (p1 : Int32) (p2 : Int32) (o3 : Nat) (p4 : Int32) (post : Int32 → SG → Prop) (h : wpX4_splice σ ν o0 p1 p2 o3 p4 post) : Met l yX4_splice wsX4_splice ({ frames := 1, cells := 0, slots := 0, locals := 30 } : Room) (Pcs z G ad (σ, ν, ρ, lo) [.ref (ad 2 o0), .int p1, .int p2, .ref (ad 4 o3), .int p4]) (Qis z G ad (fun r S1 => ∃ t : SG, S1 = (t, ν, ρ, lo) ∧ post r t)) 0 0 (Az z) := by
  refine Met.ofW (cc := cX4_splice) (maxL := 8) (ret := (some .boolean)) (by decide) rfl ?_
  intro p e s m args below meth c s₁ B hml hv
  obtain ⟨rfl, hz, hW, hE⟩ := hv
  have hx := B.exec
  have hb := B.bytes
  have hr := B.returns
  have hts := atoms_spec (ws := wsX4_splice) B.pre
  have hown : s.vm.findClass RX4 = some m.cls := findClass_of_methodNamed B.named
  have hlocks := B.notSynchronized
  have X : Cx p l e s m _ below meth c cX4_splice (some .boolean) 8 RX4 wsX4_splice z G := ⟨hx, hb, hr, hml, hown, hts, hlocks, hE, hz⟩
  have hS : va_S (Az z) s.heap s.heap [] := va_S.rf
  have hl := lv_entry [.ref (ad 2 o0), .int p1, .int p2, .ref (ad 4 o3), .int p4] (n := 8) (Nat.le_of_ble_eq_true rfl)
  rw [lg_entry_eq]
  generalize (lg_sl [.ref (ad 2 o0), .int p1, .int p2, .ref (ad 4 o3), .int p4] ++ List.replicate (8 - (lg_sl [.ref (ad 2 o0), .int p1, .int p2, .ref (ad 4 o3), .int p4]).length) Slot.unset).toArray = ls at hl ⊢
  have hl : lv_has ls 8 [(0, .ref (ad 2 o0)), (1, .int p1), (2, .int p2), (3, .ref (ad 4 o3)), (4, .int p4)] := hl
  unfold wpX4_splice at h
  refine lv_aload_n hx hb dX4_splice_0 rfl (lv_at hl 0 rfl) ?_
  obtain ⟨g1, h⟩ := h
  refine r_get (C := RX4) (T := TX4) (N := 3) (ci := 7) (fs := fl_2 ad ν ρ o0 (σ 2 o0)) hx hb hts hown hE hW 2 o0 g1 rfl rfl (fun w h => List.mem_cons_of_mem _ (List.mem_append_left _ (List.mem_append_right _ h))) 2 (by decide) (List.mem_of_getElem? (i := 1) rfl) rfl (v := .int (σ 2 o0 2)) rfl dX4_splice_1 ?_
  refine lv_iload_n hx hb dX4_splice_4 rfl (lv_at hl 1 rfl) ?_
  refine lv_isub hx hb dX4_splice_5 ?_
  refine lv_iload_n hx hb dX4_splice_6 rfl (lv_at hl 2 rfl) ?_
  refine lv_isub hx hb dX4_splice_7 ?_
  refine lv_istore (lv' := [(5, .int (((σ 2 o0 2) - p1) - p2)), (0, .ref (ad 2 o0)), (1, .int p1), (2, .int p2), (3, .ref (ad 4 o3)), (4, .int p4)]) hx hb dX4_splice_8 hl (by decide) rfl (fun ls hl => ?_)
  refine lv_iload_n hx hb dX4_splice_10 rfl (lv_at hl 2 rfl) ?_
  refine lv_aload_n hx hb dX4_splice_11 rfl (lv_at hl 4 rfl) ?_
  obtain ⟨g2, h⟩ := h
  refine r_get (C := RX2) (T := TX2) (N := 2) (ci := 5) (fs := fl_4 ad ν ρ o3 (σ 4 o3)) hx hb hts hown hE hW 4 o3 g2 rfl rfl (fun w h => List.mem_cons_of_mem _ (List.mem_append_right _ h)) 1 (by decide) (List.mem_of_getElem? (i := 2) rfl) rfl (v := .int (σ 4 o3 1)) rfl dX4_splice_12 ?_
  refine lv_iadd hx hb dX4_splice_15 ?_
  refine lv_istore (lv' := [(6, .int (p1 + (σ 4 o3 1))), (5, .int (((σ 2 o0 2) - p1) - p2)), (0, .ref (ad 2 o0)), (1, .int p1), (2, .int p2), (3, .ref (ad 4 o3)), (4, .int p4)]) hx hb dX4_splice_16 hl (by decide) rfl (fun ls hl => ?_)
  refine lv_iload_n hx hb dX4_splice_18 rfl (lv_at hl 3 rfl) ?_
  refine r_if_lt hx hb rfl (tgt := 41) dX4_splice_19 (by decide) (fun c3 => ?_) (fun c3 => ?_)
  · have h := ite_t c3 h
    refine lv_iconst (v := (0 : Int32)) hx hb dX4_splice_41 (by decide) ?_
    exact W.zret (v := (0 : Int32)) (ty := .boolean) hx hb hr rfl (fun t ht _ => ⟨⟨_, (σ, ν, ρ, lo), rfl, ⟨_, rfl, h⟩, WP.at9 ht hW⟩, hS.F ht⟩) hS.2.2 dX4_splice_42 (hlocks := hlocks)
  · have h := ite_f c3 h
    refine lv_iload_n hx hb dX4_splice_22 rfl (lv_at hl 4 rfl) ?_
    refine r_if_lt hx hb rfl (tgt := 41) dX4_splice_23 (by decide) (fun c4 => ?_) (fun c4 => ?_)
    · have h := ite_t c4 h
      refine lv_iconst (v := (0 : Int32)) hx hb dX4_splice_41 (by decide) ?_
      exact W.zret (v := (0 : Int32)) (ty := .boolean) hx hb hr rfl (fun t ht _ => ⟨⟨_, (σ, ν, ρ, lo), rfl, ⟨_, rfl, h⟩, WP.at9 ht hW⟩, hS.F ht⟩) hS.2.2 dX4_splice_42 (hlocks := hlocks)
    · have h := ite_f c4 h
      refine lv_iload hx hb dX4_splice_26 (lv_at hl 1 rfl) ?_
      refine r_if_lt hx hb rfl (tgt := 41) dX4_splice_28 (by decide) (fun c5 => ?_) (fun c5 => ?_)
      · have h := ite_t c5 h
        refine lv_iconst (v := (0 : Int32)) hx hb dX4_splice_41 (by decide) ?_
        exact W.zret (v := (0 : Int32)) (ty := .boolean) hx hb hr rfl (fun t ht _ => ⟨⟨_, (σ, ν, ρ, lo), rfl, ⟨_, rfl, h⟩, WP.at9 ht hW⟩, hS.F ht⟩) hS.2.2 dX4_splice_42 (hlocks := hlocks)
      · have h := ite_f c5 h
        refine lv_iload hx hb dX4_splice_31 (lv_at hl 0 rfl) ?_
        refine lv_iload hx hb dX4_splice_33 (lv_at hl 1 rfl) ?_
        refine lv_iadd hx hb dX4_splice_35 ?_
        refine lv_bipush (v := (12 : Int32)) hx hb dX4_splice_36 (by decide) ?_
        refine r_icmp_le hx hb rfl (show (12 : Int32).toInt = 12 by decide) (tgt := 43) dX4_splice_38 (by decide) (fun c6 => ?_) (fun c6 => ?_)
        · have h := ite_t c6 h
          refine lv_aload_n hx hb dX4_splice_43 rfl (lv_at hl 2 rfl) ?_
          refine r_get (C := RX4) (T := TX4) (N := 3) (ci := 7) (fs := fl_2 ad ν ρ o0 (σ 2 o0)) hx hb hts hown hE hW 2 o0 g1 rfl rfl (fun w h => List.mem_cons_of_mem _ (List.mem_append_left _ (List.mem_append_right _ h))) 0 (by decide) (List.mem_of_getElem? (i := 3) rfl) rfl (v := .ref (ad 20 o0)) rfl dX4_splice_44 ?_
          refine lv_iload_n hx hb dX4_splice_47 rfl (lv_at hl 3 rfl) ?_
          refine lv_iload_n hx hb dX4_splice_48 rfl (lv_at hl 4 rfl) ?_
          refine lv_iadd hx hb dX4_splice_49 ?_
          refine lv_aload_n hx hb dX4_splice_50 rfl (lv_at hl 2 rfl) ?_
          refine r_get (C := RX4) (T := TX4) (N := 3) (ci := 7) (fs := fl_2 ad ν ρ o0 (σ 2 o0)) hx hb hts hown hE hW 2 o0 g1 rfl rfl (fun w h => List.mem_cons_of_mem _ (List.mem_append_left _ (List.mem_append_right _ h))) 0 (by decide) (List.mem_of_getElem? (i := 3) rfl) rfl (v := .ref (ad 20 o0)) rfl dX4_splice_51 ?_
          refine lv_iload hx hb dX4_splice_54 (lv_at hl 0 rfl) ?_
          refine lv_iload hx hb dX4_splice_56 (lv_at hl 1 rfl) ?_
          obtain ⟨b7, h⟩ := h
          refine r_copyC hx hb hml hl.1 hts hown hE hW hS 20 o0 g1 (n0 := 12) (fun _ => rfl) (List.mem_of_getElem? (i := 4) rfl) (List.mem_of_getElem? (i := 5) rfl) (List.mem_of_getElem? (i := 6) rfl) (List.mem_of_getElem? (i := 7) rfl) b7 (Nat.le_of_ble_eq_true rfl) (Nat.le_of_ble_eq_true rfl) dX4_splice_58 (fun t8 e9 H locs hW hS => ?_)
          have h := h t8 e9
          refine lv_aload_n hx hb dX4_splice_61 rfl (lv_at hl 2 rfl) ?_
          refine r_get (C := RX4) (T := TX4) (N := 3) (ci := 7) (fs := fl_2 ad ν ρ o0 (t8 2 o0)) hx hb hts hown hE hW 2 o0 g1 rfl rfl (fun w h => List.mem_cons_of_mem _ (List.mem_append_left _ (List.mem_append_right _ h))) 1 (by decide) (List.mem_of_getElem? (i := 8) rfl) rfl (v := .ref (ad 21 o0)) rfl dX4_splice_62 ?_
          refine lv_iload_n hx hb dX4_splice_65 rfl (lv_at hl 3 rfl) ?_
          refine lv_iload_n hx hb dX4_splice_66 rfl (lv_at hl 4 rfl) ?_
          refine lv_iadd hx hb dX4_splice_67 ?_
          refine lv_aload_n hx hb dX4_splice_68 rfl (lv_at hl 2 rfl) ?_
          refine r_get (C := RX4) (T := TX4) (N := 3) (ci := 7) (fs := fl_2 ad ν ρ o0 (t8 2 o0)) hx hb hts hown hE hW 2 o0 g1 rfl rfl (fun w h => List.mem_cons_of_mem _ (List.mem_append_left _ (List.mem_append_right _ h))) 1 (by decide) (List.mem_of_getElem? (i := 8) rfl) rfl (v := .ref (ad 21 o0)) rfl dX4_splice_69 ?_
          refine lv_iload hx hb dX4_splice_72 (lv_at hl 0 rfl) ?_
          refine lv_iload hx hb dX4_splice_74 (lv_at hl 1 rfl) ?_
          obtain ⟨b10, h⟩ := h
          refine r_copyC hx hb hml hl.1 hts hown hE hW hS 21 o0 g1 (n0 := 12) (fun _ => rfl) (List.mem_of_getElem? (i := 4) rfl) (List.mem_of_getElem? (i := 5) rfl) (List.mem_of_getElem? (i := 6) rfl) (List.mem_of_getElem? (i := 7) rfl) b10 (Nat.le_of_ble_eq_true rfl) (Nat.le_of_ble_eq_true rfl) dX4_splice_76 (fun t11 e12 H locs hW hS => ?_)
          have h := h t11 e12
          refine lv_iconst (v := (0 : Int32)) hx hb dX4_splice_79 (by decide) ?_
          refine lv_istore (lv' := [(7, .int ((0 : Int32))), (6, .int (p1 + (σ 4 o3 1))), (5, .int (((σ 2 o0 2) - p1) - p2)), (0, .ref (ad 2 o0)), (1, .int p1), (2, .int p2), (3, .ref (ad 4 o3)), (4, .int p4)]) hx hb dX4_splice_80 hl (by decide) rfl (fun ls hl => ?_)
          obtain ⟨n26, h⟩ := h
          exact tX4_splice_82 (σ := σ) (ρ := ρ) X o0 p1 p2 o3 p4 post  n26 t11 (((σ 2 o0 2) - p1) - p2) (p1 + (σ 4 o3 1)) ((0 : Int32)) hW hS (lv_sub hl [3, 4, 6, 7, 2, 1, 0] rfl) h
        · have h := ite_f c6 h
          refine lv_iconst (v := (0 : Int32)) hx hb dX4_splice_41 (by decide) ?_
          exact W.zret (v := (0 : Int32)) (ty := .boolean) hx hb hr rfl (fun t ht _ => ⟨⟨_, (σ, ν, ρ, lo), rfl, ⟨_, rfl, h⟩, WP.at9 ht hW⟩, hS.F ht⟩) hS.2.2 dX4_splice_42 (hlocks := hlocks)
