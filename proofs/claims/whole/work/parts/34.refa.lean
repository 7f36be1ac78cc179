/-! method by method: what it asks of the state (wp), and its walk. Written by wip/gen/gen.py -/
set_option maxHeartbeats 4000000 in
set_option maxRecDepth 100000 in
theorem mtX7_thrown (l : Launch) (z : Nat) (G : Gl) (ad : Nat → Nat → Nat) (σ : SG) (ν : NU) (ρ : RH) (lo : Int64)  (post : Int32 → Prop) (h : wpX7_thrown ρ  post) : Met l yX7_thrown wsX7_thrown ({ frames := 0, cells := 0, slots := 0, locals := 0 } : Room) (Pcs z G ad (σ, ν, ρ, lo) [.ref (ad 30 0)]) (Qis z G ad (fun r S1 => S1 = (σ, ν, ρ, lo) ∧ post r)) 0 0 (Az z) := by
  refine Met.ofW (cc := cX7_thrown) (maxL := 1) (ret := (some .int)) (by decide) rfl ?_
  intro p e s m args below meth c s₁ B hml hv
  obtain ⟨rfl, hz, hW, hE⟩ := hv
  have hx := B.exec
  have hb := B.bytes
  have hr := B.returns
  have hts := atoms_spec (ws := wsX7_thrown) B.pre
  have hown : s.vm.findClass RX7 = some m.cls := findClass_of_methodNamed B.named
  have hlocks := B.notSynchronized
  have X : Cx p l e s m _ below meth c cX7_thrown (some .int) 1 RX7 wsX7_thrown z G := ⟨hx, hb, hr, hml, hown, hts, hlocks, hE, hz⟩
  have hS : va_S (Az z) s.heap s.heap [] := va_S.rf
  have hl := lv_entry [.ref (ad 30 0)] (n := 1) (Nat.le_of_ble_eq_true rfl)
  rw [lg_entry_eq]
  generalize (lg_sl [.ref (ad 30 0)] ++ List.replicate (1 - (lg_sl [.ref (ad 30 0)]).length) Slot.unset).toArray = ls at hl ⊢
  have hl : lv_has ls 1 [(0, .ref (ad 30 0))] := hl
  unfold wpX7_thrown at h
  refine lv_aload_n hx hb dX7_thrown_0 rfl (lv_at hl 0 rfl) ?_
  refine r_get (C := RX7) (T := TX7) (N := 49) (ci := 10) (fs := fl_30 ad ν ρ 0 (σ 30 0)) hx hb hts hown hE hW 30 0 rfl rfl rfl (fun w h => List.mem_cons_of_mem _ (List.mem_append_right _ h)) 48 (by decide) (List.mem_of_getElem? (i := 1) rfl) rfl (v := .int (ρ 48 0)) rfl dX7_thrown_1 ?_
  exact W.iret (v := ρ 48 0) hx hb hr (fun t ht _ => ⟨⟨_, (σ, ν, ρ, lo), rfl, ⟨rfl, h⟩, WP.at9 ht hW⟩, hS.F ht⟩) hS.2.2 dX7_thrown_4 (hlocks := hlocks)
set_option maxHeartbeats 4000000 in
set_option maxRecDepth 100000 in
theorem mtX7_goes (l : Launch) (z : Nat) (G : Gl) (ad : Nat → Nat → Nat) (σ : SG) (ν : NU) (ρ : RH) (lo : Int64) (p1 : Int32) (post : Int32 → RH → Prop) (h : wpX7_goes ρ p1 post) : Met l yX7_goes wsX7_goes ({ frames := 0, cells := 0, slots := 0, locals := 0 } : Room) (Pcs z G ad (σ, ν, ρ, lo) [.ref (ad 30 0), .int p1]) (Qis z G ad (fun r S1 => ∃ t : RH, S1 = (σ, ν, t, lo) ∧ post r t)) 0 0 (Az z) := by
  refine Met.ofW (cc := cX7_goes) (maxL := 2) (ret := (some .boolean)) (by decide) rfl ?_
  intro p e s m args below meth c s₁ B hml hv
  obtain ⟨rfl, hz, hW, hE⟩ := hv
  have hx := B.exec
  have hb := B.bytes
  have hr := B.returns
  have hts := atoms_spec (ws := wsX7_goes) B.pre
  have hown : s.vm.findClass RX7 = some m.cls := findClass_of_methodNamed B.named
  have hlocks := B.notSynchronized
  have X : Cx p l e s m _ below meth c cX7_goes (some .boolean) 2 RX7 wsX7_goes z G := ⟨hx, hb, hr, hml, hown, hts, hlocks, hE, hz⟩
  have hS : va_S (Az z) s.heap s.heap [] := va_S.rf
  have hl := lv_entry [.ref (ad 30 0), .int p1] (n := 2) (Nat.le_of_ble_eq_true rfl)
  rw [lg_entry_eq]
  generalize (lg_sl [.ref (ad 30 0), .int p1] ++ List.replicate (2 - (lg_sl [.ref (ad 30 0), .int p1]).length) Slot.unset).toArray = ls at hl ⊢
  have hl : lv_has ls 2 [(0, .ref (ad 30 0)), (1, .int p1)] := hl
  unfold wpX7_goes at h
  refine lv_aload_n hx hb dX7_goes_0 rfl (lv_at hl 0 rfl) ?_
  refine lv_iload_n hx hb dX7_goes_1 rfl (lv_at hl 1 rfl) ?_
  refine r_putM hx hb hts hown hE hW hS (fun w h => List.mem_cons_of_mem _ (List.mem_append_right _ h)) 48 (by decide) (List.mem_of_getElem? (i := 1) rfl) rfl rfl rfl (x := p1) rfl rfl dX7_goes_2 (fun t1 e2 H locs hW hS => ?_)
  have h := h t1 e2
  refine lv_iload_n hx hb dX7_goes_5 rfl (lv_at hl 1 rfl) ?_
  refine r_if_ne hx hb rfl (tgt := 13) dX7_goes_6 (by decide) (fun c3 => ?_) (fun c3 => ?_)
  · have h := ite_f c3 h
    refine lv_iconst (v := (0 : Int32)) hx hb dX7_goes_13 (by decide) ?_
    exact W.zret (v := (0 : Int32)) (ty := .boolean) hx hb hr rfl (fun t ht _ => ⟨⟨_, (σ, ν, t1, lo), rfl, ⟨_, rfl, h⟩, WP.at9 ht hW⟩, hS.F ht⟩) hS.2.2 dX7_goes_14 (hlocks := hlocks)
  · have h := ite_t c3 h
    refine lv_iconst (v := (1 : Int32)) hx hb dX7_goes_9 (by decide) ?_
    refine lv_goto (tgt := 14) hx hb dX7_goes_10 (by decide) ?_
    exact W.zret (v := (1 : Int32)) (ty := .boolean) hx hb hr rfl (fun t ht _ => ⟨⟨_, (σ, ν, t1, lo), rfl, ⟨_, rfl, h⟩, WP.at9 ht hW⟩, hS.F ht⟩) hS.2.2 dX7_goes_14 (hlocks := hlocks)
set_option maxHeartbeats 4000000 in
set_option maxRecDepth 100000 in
theorem mtX7_isIn (l : Launch) (z : Nat) (G : Gl) (ad : Nat → Nat → Nat) (σ : SG) (ν : NU) (ρ : RH) (lo : Int64) (p0 : Int32) (p1 : Int32) (p2 : Int32) (post : Int32 → Prop) (h : wpX7_isIn ρ p0 p1 p2 post) : Met l yX7_isIn wsX7_isIn ({ frames := 0, cells := 0, slots := 0, locals := 0 } : Room) (Pcs z G ad (σ, ν, ρ, lo) [.int p0, .int p1, .int p2]) (Qis z G ad (fun r S1 => S1 = (σ, ν, ρ, lo) ∧ post r)) 0 0 (Az z) := by
  refine Met.ofW (cc := cX7_isIn) (maxL := 3) (ret := (some .boolean)) (by decide) rfl ?_
  intro p e s m args below meth c s₁ B hml hv
  obtain ⟨rfl, hz, hW, hE⟩ := hv
  have hx := B.exec
  have hb := B.bytes
  have hr := B.returns
  have hts := atoms_spec (ws := wsX7_isIn) B.pre
  have hown : s.vm.findClass RX7 = some m.cls := findClass_of_methodNamed B.named
  have hlocks := B.notSynchronized
  have X : Cx p l e s m _ below meth c cX7_isIn (some .boolean) 3 RX7 wsX7_isIn z G := ⟨hx, hb, hr, hml, hown, hts, hlocks, hE, hz⟩
  have hS : va_S (Az z) s.heap s.heap [] := va_S.rf
  have hl := lv_entry [.int p0, .int p1, .int p2] (n := 3) (Nat.le_of_ble_eq_true rfl)
  rw [lg_entry_eq]
  generalize (lg_sl [.int p0, .int p1, .int p2] ++ List.replicate (3 - (lg_sl [.int p0, .int p1, .int p2]).length) Slot.unset).toArray = ls at hl ⊢
  have hl : lv_has ls 3 [(0, .int p0), (1, .int p1), (2, .int p2)] := hl
  unfold wpX7_isIn at h
  refine lv_iload_n hx hb dX7_isIn_0 rfl (lv_at hl 0 rfl) ?_
  refine lv_iload_n hx hb dX7_isIn_1 rfl (lv_at hl 1 rfl) ?_
  refine r_icmp_lt hx hb rfl rfl (tgt := 14) dX7_isIn_2 (by decide) (fun c1 => ?_) (fun c1 => ?_)
  · have h := ite_t c1 h
    refine lv_iconst (v := (0 : Int32)) hx hb dX7_isIn_14 (by decide) ?_
    exact W.zret (v := (0 : Int32)) (ty := .boolean) hx hb hr rfl (fun t ht _ => ⟨⟨_, (σ, ν, ρ, lo), rfl, ⟨rfl, h⟩, WP.at9 ht hW⟩, hS.F ht⟩) hS.2.2 dX7_isIn_15 (hlocks := hlocks)
  · have h := ite_f c1 h
    refine lv_iload_n hx hb dX7_isIn_5 rfl (lv_at hl 0 rfl) ?_
    refine lv_iload_n hx hb dX7_isIn_6 rfl (lv_at hl 2 rfl) ?_
    refine r_icmp_gt hx hb rfl rfl (tgt := 14) dX7_isIn_7 (by decide) (fun c2 => ?_) (fun c2 => ?_)
    · have h := ite_f c2 h
      refine lv_iconst (v := (0 : Int32)) hx hb dX7_isIn_14 (by decide) ?_
      exact W.zret (v := (0 : Int32)) (ty := .boolean) hx hb hr rfl (fun t ht _ => ⟨⟨_, (σ, ν, ρ, lo), rfl, ⟨rfl, h⟩, WP.at9 ht hW⟩, hS.F ht⟩) hS.2.2 dX7_isIn_15 (hlocks := hlocks)
    · have h := ite_t c2 h
      refine lv_iconst (v := (1 : Int32)) hx hb dX7_isIn_10 (by decide) ?_
      refine lv_goto (tgt := 15) hx hb dX7_isIn_11 (by decide) ?_
      exact W.zret (v := (1 : Int32)) (ty := .boolean) hx hb hr rfl (fun t ht _ => ⟨⟨_, (σ, ν, ρ, lo), rfl, ⟨rfl, h⟩, WP.at9 ht hW⟩, hS.F ht⟩) hS.2.2 dX7_isIn_15 (hlocks := hlocks)
set_option maxHeartbeats 4000000 in
set_option maxRecDepth 100000 in
theorem mtX7_isInstruction (l : Launch) (z : Nat) (G : Gl) (ad : Nat → Nat → Nat) (σ : SG) (ν : NU) (ρ : RH) (lo : Int64) (p1 : Int32) (post : Int32 → Prop) (h : wpX7_isInstruction ρ p1 post) : Met l yX7_isInstruction wsX7_isInstruction ({ frames := 1, cells := 0, slots := 0, locals := 22 } : Room) (Pcs z G ad (σ, ν, ρ, lo) [.ref (ad 30 0), .int p1]) (Qis z G ad (fun r S1 => S1 = (σ, ν, ρ, lo) ∧ post r)) 0 0 (Az z) := by
  refine Met.ofW (cc := cX7_isInstruction) (maxL := 2) (ret := (some .boolean)) (by decide) rfl ?_
  intro p e s m args below meth c s₁ B hml hv
  obtain ⟨rfl, hz, hW, hE⟩ := hv
  have hx := B.exec
  have hb := B.bytes
  have hr := B.returns
  have hts := atoms_spec (ws := wsX7_isInstruction) B.pre
  have hown : s.vm.findClass RX7 = some m.cls := findClass_of_methodNamed B.named
  have hlocks := B.notSynchronized
  have X : Cx p l e s m _ below meth c cX7_isInstruction (some .boolean) 2 RX7 wsX7_isInstruction z G := ⟨hx, hb, hr, hml, hown, hts, hlocks, hE, hz⟩
  have hS : va_S (Az z) s.heap s.heap [] := va_S.rf
  have hl := lv_entry [.ref (ad 30 0), .int p1] (n := 2) (Nat.le_of_ble_eq_true rfl)
  rw [lg_entry_eq]
  generalize (lg_sl [.ref (ad 30 0), .int p1] ++ List.replicate (2 - (lg_sl [.ref (ad 30 0), .int p1]).length) Slot.unset).toArray = ls at hl ⊢
  have hl : lv_has ls 2 [(0, .ref (ad 30 0)), (1, .int p1)] := hl
  unfold wpX7_isInstruction at h
  refine lv_iload_n hx hb dX7_isInstruction_0 rfl (lv_at hl 1 rfl) ?_
  refine lv_iconst (v := (0 : Int32)) hx hb dX7_isInstruction_1 (by decide) ?_
  refine lv_aload_n hx hb dX7_isInstruction_2 rfl (lv_at hl 0 rfl) ?_
  refine r_get (C := RX7) (T := TX7) (N := 49) (ci := 10) (fs := fl_30 ad ν ρ 0 (σ 30 0)) hx hb hts hown hE hW 30 0 rfl rfl rfl (fun w h => List.mem_cons_of_mem _ (List.mem_append_right _ h)) 11 (by decide) (List.mem_of_getElem? (i := 1) rfl) rfl (v := .int (ρ 11 0)) rfl dX7_isInstruction_3 ?_
  refine lv_iconst (v := (1 : Int32)) hx hb dX7_isInstruction_6 (by decide) ?_
  refine lv_isub hx hb dX7_isInstruction_7 ?_
  refine k_Si (rest := []) (As := [.int p1, .int ((0 : Int32)), .int ((ρ 11 0) - ((1 : Int32)))]) ⟨hx, hb, hml, hown, hts⟩ hE hz hS hW (mtX7_isIn l z G ad σ ν ρ lo p1 ((0 : Int32)) ((ρ 11 0) - ((1 : Int32))) _ h) (va_cwS 3 hts gX7_isInstruction_X7_isIn rfl rfl rfl (by decide +kernel) ⟨Nat.le_of_ble_eq_true rfl, Nat.le_of_ble_eq_true rfl⟩) rfl hl.1 rfl (Nat.le_of_ble_eq_true rfl) dX7_isInstruction_8 ⟨Nat.le_of_ble_eq_true rfl, Nat.le_of_ble_eq_true rfl⟩ (fun r1 S1 H locs hp hW hS => ?_)
  obtain ⟨rfl, h⟩ := hp
  obtain ⟨g2, h⟩ := h
  exact W.zret (v := r1) (ty := .boolean) hx hb hr (narrow_bo g2) (fun t ht _ => ⟨⟨_, (σ, ν, ρ, lo), rfl, ⟨rfl, h⟩, WP.at9 ht hW⟩, hS.F ht⟩) hS.2.2 dX7_isInstruction_11 (hlocks := hlocks)
set_option maxHeartbeats 4000000 in
set_option maxRecDepth 100000 in
theorem mtX7_isProvision (l : Launch) (z : Nat) (G : Gl) (ad : Nat → Nat → Nat) (σ : SG) (ν : NU) (ρ : RH) (lo : Int64) (p1 : Int32) (post : Int32 → Prop) (h : wpX7_isProvision ρ p1 post) : Met l yX7_isProvision wsX7_isProvision ({ frames := 1, cells := 0, slots := 0, locals := 22 } : Room) (Pcs z G ad (σ, ν, ρ, lo) [.ref (ad 30 0), .int p1]) (Qis z G ad (fun r S1 => S1 = (σ, ν, ρ, lo) ∧ post r)) 0 0 (Az z) := by
  refine Met.ofW (cc := cX7_isProvision) (maxL := 2) (ret := (some .boolean)) (by decide) rfl ?_
  intro p e s m args below meth c s₁ B hml hv
  obtain ⟨rfl, hz, hW, hE⟩ := hv
  have hx := B.exec
  have hb := B.bytes
  have hr := B.returns
  have hts := atoms_spec (ws := wsX7_isProvision) B.pre
  have hown : s.vm.findClass RX7 = some m.cls := findClass_of_methodNamed B.named
  have hlocks := B.notSynchronized
  have X : Cx p l e s m _ below meth c cX7_isProvision (some .boolean) 2 RX7 wsX7_isProvision z G := ⟨hx, hb, hr, hml, hown, hts, hlocks, hE, hz⟩
  have hS : va_S (Az z) s.heap s.heap [] := va_S.rf
  have hl := lv_entry [.ref (ad 30 0), .int p1] (n := 2) (Nat.le_of_ble_eq_true rfl)
  rw [lg_entry_eq]
  generalize (lg_sl [.ref (ad 30 0), .int p1] ++ List.replicate (2 - (lg_sl [.ref (ad 30 0), .int p1]).length) Slot.unset).toArray = ls at hl ⊢
  have hl : lv_has ls 2 [(0, .ref (ad 30 0)), (1, .int p1)] := hl
  unfold wpX7_isProvision at h
  refine lv_iload_n hx hb dX7_isProvision_0 rfl (lv_at hl 1 rfl) ?_
  refine lv_iconst (v := (0 : Int32)) hx hb dX7_isProvision_1 (by decide) ?_
  refine lv_aload_n hx hb dX7_isProvision_2 rfl (lv_at hl 0 rfl) ?_
  refine r_get (C := RX7) (T := TX7) (N := 49) (ci := 10) (fs := fl_30 ad ν ρ 0 (σ 30 0)) hx hb hts hown hE hW 30 0 rfl rfl rfl (fun w h => List.mem_cons_of_mem _ (List.mem_append_right _ h)) 12 (by decide) (List.mem_of_getElem? (i := 1) rfl) rfl (v := .int (ρ 12 0)) rfl dX7_isProvision_3 ?_
  refine lv_iconst (v := (1 : Int32)) hx hb dX7_isProvision_6 (by decide) ?_
  refine lv_isub hx hb dX7_isProvision_7 ?_
  refine k_Si (rest := []) (As := [.int p1, .int ((0 : Int32)), .int ((ρ 12 0) - ((1 : Int32)))]) ⟨hx, hb, hml, hown, hts⟩ hE hz hS hW (mtX7_isIn l z G ad σ ν ρ lo p1 ((0 : Int32)) ((ρ 12 0) - ((1 : Int32))) _ h) (va_cwS 3 hts gX7_isProvision_X7_isIn rfl rfl rfl (by decide +kernel) ⟨Nat.le_of_ble_eq_true rfl, Nat.le_of_ble_eq_true rfl⟩) rfl hl.1 rfl (Nat.le_of_ble_eq_true rfl) dX7_isProvision_8 ⟨Nat.le_of_ble_eq_true rfl, Nat.le_of_ble_eq_true rfl⟩ (fun r1 S1 H locs hp hW hS => ?_)
  obtain ⟨rfl, h⟩ := hp
  obtain ⟨g2, h⟩ := h
  exact W.zret (v := r1) (ty := .boolean) hx hb hr (narrow_bo g2) (fun t ht _ => ⟨⟨_, (σ, ν, ρ, lo), rfl, ⟨rfl, h⟩, WP.at9 ht hW⟩, hS.F ht⟩) hS.2.2 dX7_isProvision_11 (hlocks := hlocks)
set_option maxHeartbeats 4000000 in
set_option maxRecDepth 100000 in
theorem mtX7_isDay (l : Launch) (z : Nat) (G : Gl) (ad : Nat → Nat → Nat) (σ : SG) (ν : NU) (ρ : RH) (lo : Int64) (p0 : Int32) (post : Int32 → Prop) (h : wpX7_isDay ρ p0 post) : Met l yX7_isDay wsX7_isDay ({ frames := 1, cells := 0, slots := 0, locals := 22 } : Room) (Pcs z G ad (σ, ν, ρ, lo) [.int p0]) (Qis z G ad (fun r S1 => S1 = (σ, ν, ρ, lo) ∧ post r)) 0 0 (Az z) := by
  refine Met.ofW (cc := cX7_isDay) (maxL := 1) (ret := (some .boolean)) (by decide) rfl ?_
  intro p e s m args below meth c s₁ B hml hv
  obtain ⟨rfl, hz, hW, hE⟩ := hv
  have hx := B.exec
  have hb := B.bytes
  have hr := B.returns
  have hts := atoms_spec (ws := wsX7_isDay) B.pre
  have hown : s.vm.findClass RX7 = some m.cls := findClass_of_methodNamed B.named
  have hlocks := B.notSynchronized
  have X : Cx p l e s m _ below meth c cX7_isDay (some .boolean) 1 RX7 wsX7_isDay z G := ⟨hx, hb, hr, hml, hown, hts, hlocks, hE, hz⟩
  have hS : va_S (Az z) s.heap s.heap [] := va_S.rf
  have hl := lv_entry [.int p0] (n := 1) (Nat.le_of_ble_eq_true rfl)
  rw [lg_entry_eq]
  generalize (lg_sl [.int p0] ++ List.replicate (1 - (lg_sl [.int p0]).length) Slot.unset).toArray = ls at hl ⊢
  have hl : lv_has ls 1 [(0, .int p0)] := hl
  unfold wpX7_isDay at h
  refine lv_iload_n hx hb dX7_isDay_0 rfl (lv_at hl 0 rfl) ?_
  refine lv_iconst (v := (0 : Int32)) hx hb dX7_isDay_1 (by decide) ?_
  refine lv_sipush (v := (5000 : Int32)) hx hb dX7_isDay_2 (by decide) ?_
  refine k_Si (rest := []) (As := [.int p0, .int ((0 : Int32)), .int ((5000 : Int32))]) ⟨hx, hb, hml, hown, hts⟩ hE hz hS hW (mtX7_isIn l z G ad σ ν ρ lo p0 ((0 : Int32)) ((5000 : Int32)) _ h) (va_cwS 3 hts gX7_isDay_X7_isIn rfl rfl rfl (by decide +kernel) ⟨Nat.le_of_ble_eq_true rfl, Nat.le_of_ble_eq_true rfl⟩) rfl hl.1 rfl (Nat.le_of_ble_eq_true rfl) dX7_isDay_5 ⟨Nat.le_of_ble_eq_true rfl, Nat.le_of_ble_eq_true rfl⟩ (fun r1 S1 H locs hp hW hS => ?_)
  obtain ⟨rfl, h⟩ := hp
  obtain ⟨g2, h⟩ := h
  exact W.zret (v := r1) (ty := .boolean) hx hb hr (narrow_bo g2) (fun t ht _ => ⟨⟨_, (σ, ν, ρ, lo), rfl, ⟨rfl, h⟩, WP.at9 ht hW⟩, hS.F ht⟩) hS.2.2 dX7_isDay_8 (hlocks := hlocks)
set_option maxHeartbeats 4000000 in
set_option maxRecDepth 100000 in
theorem tX7_pass_33 {p : Program} {l : Launch} {e : Env} {s : State} {m : MethodId} {args : Array Value} {below : List Frame} {meth : Method} {c : Code} {z : Nat} {G : Gl} {ad : Nat → Nat → Nat} {σ : SG} {ν : NU} {ρ : RH} {lo : Int64} (X : Cx p l e s m args below meth c cX7_pass (some .int) 2 RX7 wsX7_pass z G) (p1 : Int32)  (post : Int32 → RH → Prop) : ∀ (a3 : RH) (y0 : Nat) (y1 : Int32) {H : Heap} {locs : List Loc} {ls : Array Slot}, WP z G ad (σ, ν, a3, lo) H → va_S (Az z) s.heap H locs → lv_has ls 2 [(0, .ref (ad 30 0)), (1, .int p1)] → jX7_pass_33 p1 post a3 y0 y1 → W p l e ({ frames := 1, cells := 0, slots := 0, locals := 22 } : Room) s m args below meth c H locs 0 0 (MQ below (Qis z G ad (fun r S1 => ∃ t : RH, S1 = (σ, ν, t, lo) ∧ post r t)) args s 0 0 (Az z)) (F0 m 33 ls [.int y1, .ref (ad 30 0)]) := by
  obtain ⟨hx, hb, hr, hml, hown, hts, hlocks, hE, hz⟩ := id X
  intro a3 y0 y1 H locs ls hW hS hl h
  unfold jX7_pass_33 at h
  refine k_Vi (rest := []) (As := [.int y1]) ⟨hx, hb, hml, hown, hts⟩ hE hz hS hW (mtX7_goes l z G ad σ ν a3 lo y1 _ h) (cwV 1 hts gX7_pass_X7_goes rfl rfl rfl (by decide +kernel) ⟨Nat.le_of_ble_eq_true rfl, Nat.le_of_ble_eq_true rfl⟩) (r_recv hE hW 30 0 rfl (ci := 10) rfl rfl) rfl hl.1 rfl (Nat.le_of_ble_eq_true rfl) dX7_pass_33 ⟨Nat.le_of_ble_eq_true rfl, Nat.le_of_ble_eq_true rfl⟩ (fun r4 S1 H locs hp hW hS => ?_)
  obtain ⟨t5, rfl, h⟩ := hp
  refine r_if_ne hx hb rfl (tgt := 41) dX7_pass_36 (by decide) (fun c6 => ?_) (fun c6 => ?_)
  · have h := ite_f c6 h
    refine lv_aload_n hx hb dX7_pass_41 rfl (lv_at hl 0 rfl) ?_
    refine lv_dup hx hb dX7_pass_42 rfl ?_
    refine r_get (C := RX7) (T := TX7) (N := 49) (ci := 10) (fs := fl_30 ad ν t5 0 (σ 30 0)) hx hb hts hown hE hW 30 0 rfl rfl rfl (fun w h => List.mem_cons_of_mem _ (List.mem_append_right _ h)) 0 (by decide) (List.mem_of_getElem? (i := 1) rfl) rfl (v := .int (t5 0 0)) rfl dX7_pass_43 ?_
    refine lv_iload_n hx hb dX7_pass_46 rfl (lv_at hl 1 rfl) ?_
    refine lv_iadd hx hb dX7_pass_47 ?_
    refine r_putM hx hb hts hown hE hW hS (fun w h => List.mem_cons_of_mem _ (List.mem_append_right _ h)) 0 (by decide) (List.mem_of_getElem? (i := 1) rfl) rfl rfl rfl (x := (t5 0 0) + p1) rfl rfl dX7_pass_48 (fun t7 e8 H locs hW hS => ?_)
    have h := h t7 e8
    refine lv_aload_n hx hb dX7_pass_51 rfl (lv_at hl 0 rfl) ?_
    refine r_get (C := RX7) (T := TX7) (N := 49) (ci := 10) (fs := fl_30 ad ν t7 0 (σ 30 0)) hx hb hts hown hE hW 30 0 rfl rfl rfl (fun w h => List.mem_cons_of_mem _ (List.mem_append_right _ h)) 0 (by decide) (List.mem_of_getElem? (i := 1) rfl) rfl (v := .int (t7 0 0)) rfl dX7_pass_52 ?_
    exact W.iret (v := t7 0 0) hx hb hr (fun t ht _ => ⟨⟨_, (σ, ν, t7, lo), rfl, ⟨_, rfl, h⟩, WP.at9 ht hW⟩, hS.F ht⟩) hS.2.2 dX7_pass_55 (hlocks := hlocks)
  · have h := ite_t c6 h
    refine lv_iconst (v := (0 : Int32)) hx hb dX7_pass_39 (by decide) ?_
    exact W.iret (v := (0 : Int32)) hx hb hr (fun t ht _ => ⟨⟨_, (σ, ν, t5, lo), rfl, ⟨_, rfl, h⟩, WP.at9 ht hW⟩, hS.F ht⟩) hS.2.2 dX7_pass_40 (hlocks := hlocks)
set_option maxHeartbeats 4000000 in
set_option maxRecDepth 100000 in
theorem mtX7_pass (l : Launch) (z : Nat) (G : Gl) (ad : Nat → Nat → Nat) (σ : SG) (ν : NU) (ρ : RH) (lo : Int64) (p1 : Int32) (post : Int32 → RH → Prop) (h : wpX7_pass ρ p1 post) : Met l yX7_pass wsX7_pass ({ frames := 1, cells := 0, slots := 0, locals := 22 } : Room) (Pcs z G ad (σ, ν, ρ, lo) [.ref (ad 30 0), .int p1]) (Qis z G ad (fun r S1 => ∃ t : RH, S1 = (σ, ν, t, lo) ∧ post r t)) 0 0 (Az z) := by
  refine Met.ofW (cc := cX7_pass) (maxL := 2) (ret := (some .int)) (by decide) rfl ?_
  intro p e s m args below meth c s₁ B hml hv
  obtain ⟨rfl, hz, hW, hE⟩ := hv
  have hx := B.exec
  have hb := B.bytes
  have hr := B.returns
  have hts := atoms_spec (ws := wsX7_pass) B.pre
  have hown : s.vm.findClass RX7 = some m.cls := findClass_of_methodNamed B.named
  have hlocks := B.notSynchronized
  have X : Cx p l e s m _ below meth c cX7_pass (some .int) 2 RX7 wsX7_pass z G := ⟨hx, hb, hr, hml, hown, hts, hlocks, hE, hz⟩
  have hS : va_S (Az z) s.heap s.heap [] := va_S.rf
  have hl := lv_entry [.ref (ad 30 0), .int p1] (n := 2) (Nat.le_of_ble_eq_true rfl)
  rw [lg_entry_eq]
  generalize (lg_sl [.ref (ad 30 0), .int p1] ++ List.replicate (2 - (lg_sl [.ref (ad 30 0), .int p1]).length) Slot.unset).toArray = ls at hl ⊢
  have hl : lv_has ls 2 [(0, .ref (ad 30 0)), (1, .int p1)] := hl
  unfold wpX7_pass at h
  refine lv_aload_n hx hb dX7_pass_0 rfl (lv_at hl 0 rfl) ?_
  refine lv_iload_n hx hb dX7_pass_1 rfl (lv_at hl 1 rfl) ?_
  refine lv_iconst (v := (1 : Int32)) hx hb dX7_pass_2 (by decide) ?_
  refine lv_sipush (v := (500 : Int32)) hx hb dX7_pass_3 (by decide) ?_
  refine k_Si (rest := [.ref (ad 30 0)]) (As := [.int p1, .int ((1 : Int32)), .int ((500 : Int32))]) ⟨hx, hb, hml, hown, hts⟩ hE hz hS hW (mtX7_isIn l z G ad σ ν ρ lo p1 ((1 : Int32)) ((500 : Int32)) _ h) (va_cwS 3 hts gX7_pass_X7_isIn rfl rfl rfl (by decide +kernel) ⟨Nat.le_of_ble_eq_true rfl, Nat.le_of_ble_eq_true rfl⟩) rfl hl.1 rfl (Nat.le_of_ble_eq_true rfl) dX7_pass_6 ⟨Nat.le_of_ble_eq_true rfl, Nat.le_of_ble_eq_true rfl⟩ (fun r1 S1 H locs hp hW hS => ?_)
  obtain ⟨rfl, h⟩ := hp
  refine r_if_ne hx hb rfl (tgt := 16) dX7_pass_9 (by decide) (fun c2 => ?_) (fun c2 => ?_)
  · have h := ite_f c2 h
    refine lv_aload_n hx hb dX7_pass_16 rfl (lv_at hl 0 rfl) ?_
    refine r_get (C := RX7) (T := TX7) (N := 49) (ci := 10) (fs := fl_30 ad ν ρ 0 (σ 30 0)) hx hb hts hown hE hW 30 0 rfl rfl rfl (fun w h => List.mem_cons_of_mem _ (List.mem_append_right _ h)) 0 (by decide) (List.mem_of_getElem? (i := 1) rfl) rfl (v := .int (ρ 0 0)) rfl dX7_pass_17 ?_
    refine lv_iload_n hx hb dX7_pass_20 rfl (lv_at hl 1 rfl) ?_
    refine lv_iadd hx hb dX7_pass_21 ?_
    refine lv_sipush (v := (5000 : Int32)) hx hb dX7_pass_22 (by decide) ?_
    refine r_icmp_le hx hb rfl (show (5000 : Int32).toInt = 5000 by decide) (tgt := 32) dX7_pass_25 (by decide) (fun c3 => ?_) (fun c3 => ?_)
    · have h := ite_t c3 h
      refine lv_iconst (v := (0 : Int32)) hx hb dX7_pass_32 (by decide) ?_
      exact tX7_pass_33 (σ := σ) (ρ := ρ) X p1 post  ρ 0 ((0 : Int32)) hW hS (lv_sub hl [0, 1] rfl) h
    · have h := ite_f c3 h
      refine lv_iconst (v := (2 : Int32)) hx hb dX7_pass_28 (by decide) ?_
      refine lv_goto (tgt := 33) hx hb dX7_pass_29 (by decide) ?_
      exact tX7_pass_33 (σ := σ) (ρ := ρ) X p1 post  ρ 0 ((2 : Int32)) hW hS (lv_sub hl [0, 1] rfl) h
  · have h := ite_t c2 h
    refine lv_iconst (v := (1 : Int32)) hx hb dX7_pass_12 (by decide) ?_
    refine lv_goto (tgt := 33) hx hb dX7_pass_13 (by decide) ?_
    exact tX7_pass_33 (σ := σ) (ρ := ρ) X p1 post  ρ 0 ((1 : Int32)) hW hS (lv_sub hl [0, 1] rfl) h
set_option maxHeartbeats 4000000 in
set_option maxRecDepth 100000 in
theorem tX7_act_15 {p : Program} {l : Launch} {e : Env} {s : State} {m : MethodId} {args : Array Value} {below : List Frame} {meth : Method} {c : Code} {z : Nat} {G : Gl} {ad : Nat → Nat → Nat} {σ : SG} {ν : NU} {ρ : RH} {lo : Int64} (X : Cx p l e s m args below meth c cX7_act (some .int) 1 RX7 wsX7_act z G)   (post : Int32 → RH → Prop) : ∀ (a3 : RH) (y0 : Nat) (y1 : Int32) {H : Heap} {locs : List Loc} {ls : Array Slot}, WP z G ad (σ, ν, a3, lo) H → va_S (Az z) s.heap H locs → lv_has ls 1 [(0, .ref (ad 30 0))] → jX7_act_15  post a3 y0 y1 → W p l e ({ frames := 1, cells := 0, slots := 0, locals := 21 } : Room) s m args below meth c H locs 0 0 (MQ below (Qis z G ad (fun r S1 => ∃ t : RH, S1 = (σ, ν, t, lo) ∧ post r t)) args s 0 0 (Az z)) (F0 m 15 ls [.int y1, .ref (ad 30 0)]) := by
  obtain ⟨hx, hb, hr, hml, hown, hts, hlocks, hE, hz⟩ := id X
  intro a3 y0 y1 H locs ls hW hS hl h
  unfold jX7_act_15 at h
  refine k_Vi (rest := []) (As := [.int y1]) ⟨hx, hb, hml, hown, hts⟩ hE hz hS hW (mtX7_goes l z G ad σ ν a3 lo y1 _ h) (cwV 1 hts gX7_act_X7_goes rfl rfl rfl (by decide +kernel) ⟨Nat.le_of_ble_eq_true rfl, Nat.le_of_ble_eq_true rfl⟩) (r_recv hE hW 30 0 rfl (ci := 10) rfl rfl) rfl hl.1 rfl (Nat.le_of_ble_eq_true rfl) dX7_act_15 ⟨Nat.le_of_ble_eq_true rfl, Nat.le_of_ble_eq_true rfl⟩ (fun r2 S1 H locs hp hW hS => ?_)
  obtain ⟨t3, rfl, h⟩ := hp
  refine r_if_ne hx hb rfl (tgt := 23) dX7_act_18 (by decide) (fun c4 => ?_) (fun c4 => ?_)
  · have h := ite_f c4 h
    refine lv_aload_n hx hb dX7_act_23 rfl (lv_at hl 0 rfl) ?_
    refine r_get (C := RX7) (T := TX7) (N := 49) (ci := 10) (fs := fl_30 ad ν t3 0 (σ 30 0)) hx hb hts hown hE hW 30 0 rfl rfl rfl (fun w h => List.mem_cons_of_mem _ (List.mem_append_right _ h)) 2 (by decide) (List.mem_of_getElem? (i := 2) rfl) rfl (v := .ref (ad 102 0)) rfl dX7_act_24 ?_
    refine lv_aload_n hx hb dX7_act_27 rfl (lv_at hl 0 rfl) ?_
    refine r_get (C := RX7) (T := TX7) (N := 49) (ci := 10) (fs := fl_30 ad ν t3 0 (σ 30 0)) hx hb hts hown hE hW 30 0 rfl rfl rfl (fun w h => List.mem_cons_of_mem _ (List.mem_append_right _ h)) 1 (by decide) (List.mem_of_getElem? (i := 1) rfl) rfl (v := .int (t3 1 0)) rfl dX7_act_28 ?_
    refine lv_aload_n hx hb dX7_act_31 rfl (lv_at hl 0 rfl) ?_
    refine r_get (C := RX7) (T := TX7) (N := 49) (ci := 10) (fs := fl_30 ad ν t3 0 (σ 30 0)) hx hb hts hown hE hW 30 0 rfl rfl rfl (fun w h => List.mem_cons_of_mem _ (List.mem_append_right _ h)) 0 (by decide) (List.mem_of_getElem? (i := 3) rfl) rfl (v := .int (t3 0 0)) rfl dX7_act_32 ?_
    obtain ⟨b5, h⟩ := h
    refine r_iastM hx hb hE hW hS 2 (k := 102) rfl ⟨rfl, by decide, by decide⟩ (n := 10) (fun _ => rfl) (fun t q => by simp [fl_30, q]) b5 dX7_act_35 (fun t6 e7 H locs hW hS => ?_)
    have h := h t6 e7
    refine lv_aload_n hx hb dX7_act_36 rfl (lv_at hl 0 rfl) ?_
    refine lv_dup hx hb dX7_act_37 rfl ?_
    refine r_get (C := RX7) (T := TX7) (N := 49) (ci := 10) (fs := fl_30 ad ν t6 0 (σ 30 0)) hx hb hts hown hE hW 30 0 rfl rfl rfl (fun w h => List.mem_cons_of_mem _ (List.mem_append_right _ h)) 1 (by decide) (List.mem_of_getElem? (i := 1) rfl) rfl (v := .int (t6 1 0)) rfl dX7_act_38 ?_
    refine lv_iconst (v := (1 : Int32)) hx hb dX7_act_41 (by decide) ?_
    refine lv_iadd hx hb dX7_act_42 ?_
    refine r_putM hx hb hts hown hE hW hS (fun w h => List.mem_cons_of_mem _ (List.mem_append_right _ h)) 1 (by decide) (List.mem_of_getElem? (i := 1) rfl) rfl rfl rfl (x := (t6 1 0) + ((1 : Int32))) rfl rfl dX7_act_43 (fun t8 e9 H locs hW hS => ?_)
    have h := h t8 e9
    refine lv_aload_n hx hb dX7_act_46 rfl (lv_at hl 0 rfl) ?_
    refine r_get (C := RX7) (T := TX7) (N := 49) (ci := 10) (fs := fl_30 ad ν t8 0 (σ 30 0)) hx hb hts hown hE hW 30 0 rfl rfl rfl (fun w h => List.mem_cons_of_mem _ (List.mem_append_right _ h)) 1 (by decide) (List.mem_of_getElem? (i := 1) rfl) rfl (v := .int (t8 1 0)) rfl dX7_act_47 ?_
    refine lv_iconst (v := (1 : Int32)) hx hb dX7_act_50 (by decide) ?_
    refine lv_isub hx hb dX7_act_51 ?_
    exact W.iret (v := (t8 1 0) - ((1 : Int32))) hx hb hr (fun t ht _ => ⟨⟨_, (σ, ν, t8, lo), rfl, ⟨_, rfl, h⟩, WP.at9 ht hW⟩, hS.F ht⟩) hS.2.2 dX7_act_52 (hlocks := hlocks)
  · have h := ite_t c4 h
    refine lv_iconst (v := (0 : Int32)) hx hb dX7_act_21 (by decide) ?_
    exact W.iret (v := (0 : Int32)) hx hb hr (fun t ht _ => ⟨⟨_, (σ, ν, t3, lo), rfl, ⟨_, rfl, h⟩, WP.at9 ht hW⟩, hS.F ht⟩) hS.2.2 dX7_act_22 (hlocks := hlocks)
set_option maxHeartbeats 4000000 in
set_option maxRecDepth 100000 in
theorem mtX7_act (l : Launch) (z : Nat) (G : Gl) (ad : Nat → Nat → Nat) (σ : SG) (ν : NU) (ρ : RH) (lo : Int64)  (post : Int32 → RH → Prop) (h : wpX7_act ρ  post) : Met l yX7_act wsX7_act ({ frames := 1, cells := 0, slots := 0, locals := 21 } : Room) (Pcs z G ad (σ, ν, ρ, lo) [.ref (ad 30 0)]) (Qis z G ad (fun r S1 => ∃ t : RH, S1 = (σ, ν, t, lo) ∧ post r t)) 0 0 (Az z) := by
  refine Met.ofW (cc := cX7_act) (maxL := 1) (ret := (some .int)) (by decide) rfl ?_
  intro p e s m args below meth c s₁ B hml hv
  obtain ⟨rfl, hz, hW, hE⟩ := hv
  have hx := B.exec
  have hb := B.bytes
  have hr := B.returns
  have hts := atoms_spec (ws := wsX7_act) B.pre
  have hown : s.vm.findClass RX7 = some m.cls := findClass_of_methodNamed B.named
  have hlocks := B.notSynchronized
  have X : Cx p l e s m _ below meth c cX7_act (some .int) 1 RX7 wsX7_act z G := ⟨hx, hb, hr, hml, hown, hts, hlocks, hE, hz⟩
  have hS : va_S (Az z) s.heap s.heap [] := va_S.rf
  have hl := lv_entry [.ref (ad 30 0)] (n := 1) (Nat.le_of_ble_eq_true rfl)
  rw [lg_entry_eq]
  generalize (lg_sl [.ref (ad 30 0)] ++ List.replicate (1 - (lg_sl [.ref (ad 30 0)]).length) Slot.unset).toArray = ls at hl ⊢
  have hl : lv_has ls 1 [(0, .ref (ad 30 0))] := hl
  unfold wpX7_act at h
  refine lv_aload_n hx hb dX7_act_0 rfl (lv_at hl 0 rfl) ?_
  refine lv_aload_n hx hb dX7_act_1 rfl (lv_at hl 0 rfl) ?_
  refine r_get (C := RX7) (T := TX7) (N := 49) (ci := 10) (fs := fl_30 ad ν ρ 0 (σ 30 0)) hx hb hts hown hE hW 30 0 rfl rfl rfl (fun w h => List.mem_cons_of_mem _ (List.mem_append_right _ h)) 1 (by decide) (List.mem_of_getElem? (i := 1) rfl) rfl (v := .int (ρ 1 0)) rfl dX7_act_2 ?_
  refine lv_bipush (v := (10 : Int32)) hx hb dX7_act_5 (by decide) ?_
  refine r_icmp_ne hx hb rfl (show (10 : Int32).toInt = 10 by decide) (tgt := 14) dX7_act_7 (by decide) (fun c1 => ?_) (fun c1 => ?_)
  · have h := ite_f c1 h
    refine lv_iconst (v := (0 : Int32)) hx hb dX7_act_14 (by decide) ?_
    exact tX7_act_15 (σ := σ) (ρ := ρ) X  post  ρ 0 ((0 : Int32)) hW hS (lv_sub hl [0] rfl) h
  · have h := ite_t c1 h
    refine lv_iconst (v := (1 : Int32)) hx hb dX7_act_10 (by decide) ?_
    refine lv_goto (tgt := 15) hx hb dX7_act_11 (by decide) ?_
    exact tX7_act_15 (σ := σ) (ρ := ρ) X  post  ρ 0 ((1 : Int32)) hW hS (lv_sub hl [0] rfl) h
set_option maxHeartbeats 4000000 in
set_option maxRecDepth 100000 in
theorem tX7_terms_79 {p : Program} {l : Launch} {e : Env} {s : State} {m : MethodId} {args : Array Value} {below : List Frame} {meth : Method} {c : Code} {z : Nat} {G : Gl} {ad : Nat → Nat → Nat} {σ : SG} {ν : NU} {ρ : RH} {lo : Int64} (X : Cx p l e s m args below meth c cX7_terms none 6 RX7 wsX7_terms z G) (p1 : Int32) (p2 : Int32) (p3 : Int32) (p4 : Int32)  (post : RH → Prop) : ∀ (a3 : RH) (y0 : Nat) (y1 : Int32) {H : Heap} {locs : List Loc} {ls : Array Slot}, WP z G ad (σ, ν, a3, lo) H → va_S (Az z) s.heap H locs → lv_has ls 6 [(0, .ref (ad 30 0)), (1, .int p1), (2, .int p2), (3, .int p3), (4, .int p4)] → jX7_terms_79 p1 p2 p3 p4 post a3 y0 y1 → W p l e ({ frames := 2, cells := 0, slots := 0, locals := 43 } : Room) s m args below meth c H locs 0 0 (MQ below (Qvs z G ad (fun S1 => ∃ t : RH, S1 = (σ, ν, t, lo) ∧ post t)) args s 0 0 (Az z)) (F0 m 79 ls [.int y1, .ref (ad 30 0)]) := by
  obtain ⟨hx, hb, hr, hml, hown, hts, hlocks, hE, hz⟩ := id X
  intro a3 y0 y1 H locs ls hW hS hl h
  unfold jX7_terms_79 at h
  refine k_Vi (rest := []) (As := [.int y1]) ⟨hx, hb, hml, hown, hts⟩ hE hz hS hW (mtX7_goes l z G ad σ ν a3 lo y1 _ h) (cwV 1 hts gX7_terms_X7_goes rfl rfl rfl (by decide +kernel) ⟨Nat.le_of_ble_eq_true rfl, Nat.le_of_ble_eq_true rfl⟩) (r_recv hE hW 30 0 rfl (ci := 10) rfl rfl) rfl hl.1 rfl (Nat.le_of_ble_eq_true rfl) dX7_terms_79 ⟨Nat.le_of_ble_eq_true rfl, Nat.le_of_ble_eq_true rfl⟩ (fun r5 S1 H locs hp hW hS => ?_)
  obtain ⟨t6, rfl, h⟩ := hp
  refine r_if_eq hx hb rfl (tgt := 106) dX7_terms_82 (by decide) (fun c7 => ?_) (fun c7 => ?_)
  · have h := ite_t c7 h
    exact W.vret hx hb hr (fun t ht _ => ⟨⟨(σ, ν, t6, lo), rfl, ⟨_, rfl, h⟩, WP.at9 ht hW⟩, hS.F ht⟩) hS.2.2 dX7_terms_106 (hlocks := hlocks)
  · have h := ite_f c7 h
    refine lv_aload_n hx hb dX7_terms_85 rfl (lv_at hl 0 rfl) ?_
    refine lv_iload_n hx hb dX7_terms_86 rfl (lv_at hl 1 rfl) ?_
    refine r_putM hx hb hts hown hE hW hS (fun w h => List.mem_cons_of_mem _ (List.mem_append_right _ h)) 3 (by decide) (List.mem_of_getElem? (i := 1) rfl) rfl rfl rfl (x := p1) rfl rfl dX7_terms_87 (fun t8 e9 H locs hW hS => ?_)
    have h := h t8 e9
    refine lv_aload_n hx hb dX7_terms_90 rfl (lv_at hl 0 rfl) ?_
    refine lv_iload_n hx hb dX7_terms_91 rfl (lv_at hl 2 rfl) ?_
    refine r_putM hx hb hts hown hE hW hS (fun w h => List.mem_cons_of_mem _ (List.mem_append_right _ h)) 4 (by decide) (List.mem_of_getElem? (i := 2) rfl) rfl rfl rfl (x := p2) rfl rfl dX7_terms_92 (fun t10 e11 H locs hW hS => ?_)
    have h := h t10 e11
    refine lv_aload_n hx hb dX7_terms_95 rfl (lv_at hl 0 rfl) ?_
    refine lv_iload_n hx hb dX7_terms_96 rfl (lv_at hl 3 rfl) ?_
    refine r_putM hx hb hts hown hE hW hS (fun w h => List.mem_cons_of_mem _ (List.mem_append_right _ h)) 5 (by decide) (List.mem_of_getElem? (i := 3) rfl) rfl rfl rfl (x := p3) rfl rfl dX7_terms_97 (fun t12 e13 H locs hW hS => ?_)
    have h := h t12 e13
    refine lv_aload_n hx hb dX7_terms_100 rfl (lv_at hl 0 rfl) ?_
    refine lv_iload hx hb dX7_terms_101 (lv_at hl 4 rfl) ?_
    refine r_putM hx hb hts hown hE hW hS (fun w h => List.mem_cons_of_mem _ (List.mem_append_right _ h)) 6 (by decide) (List.mem_of_getElem? (i := 4) rfl) rfl rfl rfl (x := p4) rfl rfl dX7_terms_103 (fun t14 e15 H locs hW hS => ?_)
    have h := h t14 e15
    exact W.vret hx hb hr (fun t ht _ => ⟨⟨(σ, ν, t14, lo), rfl, ⟨_, rfl, h⟩, WP.at9 ht hW⟩, hS.F ht⟩) hS.2.2 dX7_terms_106 (hlocks := hlocks)
set_option maxHeartbeats 4000000 in
set_option maxRecDepth 100000 in
theorem tX7_terms_69 {p : Program} {l : Launch} {e : Env} {s : State} {m : MethodId} {args : Array Value} {below : List Frame} {meth : Method} {c : Code} {z : Nat} {G : Gl} {ad : Nat → Nat → Nat} {σ : SG} {ν : NU} {ρ : RH} {lo : Int64} (X : Cx p l e s m args below meth c cX7_terms none 6 RX7 wsX7_terms z G) (p1 : Int32) (p2 : Int32) (p3 : Int32) (p4 : Int32)  (post : RH → Prop) : ∀ (a3 : RH) (x5 : Int32) (y0 : Nat) {H : Heap} {locs : List Loc} {ls : Array Slot}, WP z G ad (σ, ν, a3, lo) H → va_S (Az z) s.heap H locs → lv_has ls 6 [(0, .ref (ad 30 0)), (1, .int p1), (2, .int p2), (3, .int p3), (4, .int p4), (5, .int x5)] → jX7_terms_69 p1 p2 p3 p4 post a3 x5 y0 → W p l e ({ frames := 2, cells := 0, slots := 0, locals := 43 } : Room) s m args below meth c H locs 0 0 (MQ below (Qvs z G ad (fun S1 => ∃ t : RH, S1 = (σ, ν, t, lo) ∧ post t)) args s 0 0 (Az z)) (F0 m 69 ls [.ref (ad 30 0)]) := by
  obtain ⟨hx, hb, hr, hml, hown, hts, hlocks, hE, hz⟩ := id X
  intro a3 x5 y0 H locs ls hW hS hl h
  unfold jX7_terms_69 at h
  refine lv_iload hx hb dX7_terms_69 (lv_at hl 5 rfl) ?_
  refine r_if_eq hx hb rfl (tgt := 78) dX7_terms_71 (by decide) (fun c4 => ?_) (fun c4 => ?_)
  · have h := ite_t c4 h
    refine lv_iconst (v := (2 : Int32)) hx hb dX7_terms_78 (by decide) ?_
    exact tX7_terms_79 (σ := σ) (ρ := ρ) X p1 p2 p3 p4 post  a3 0 ((2 : Int32)) hW hS (lv_sub hl [0, 1, 2, 3, 4] rfl) h
  · have h := ite_f c4 h
    refine lv_iconst (v := (0 : Int32)) hx hb dX7_terms_74 (by decide) ?_
    refine lv_goto (tgt := 79) hx hb dX7_terms_75 (by decide) ?_
    exact tX7_terms_79 (σ := σ) (ρ := ρ) X p1 p2 p3 p4 post  a3 0 ((0 : Int32)) hW hS (lv_sub hl [0, 1, 2, 3, 4] rfl) h
set_option maxHeartbeats 4000000 in
set_option maxRecDepth 100000 in
theorem tX7_terms_49 {p : Program} {l : Launch} {e : Env} {s : State} {m : MethodId} {args : Array Value} {below : List Frame} {meth : Method} {c : Code} {z : Nat} {G : Gl} {ad : Nat → Nat → Nat} {σ : SG} {ν : NU} {ρ : RH} {lo : Int64} (X : Cx p l e s m args below meth c cX7_terms none 6 RX7 wsX7_terms z G) (p1 : Int32) (p2 : Int32) (p3 : Int32) (p4 : Int32)  (post : RH → Prop) : ∀ (a3 : RH) (y0 : Int32) {H : Heap} {locs : List Loc} {ls : Array Slot}, WP z G ad (σ, ν, a3, lo) H → va_S (Az z) s.heap H locs → lv_has ls 6 [(0, .ref (ad 30 0)), (1, .int p1), (2, .int p2), (3, .int p3), (4, .int p4)] → jX7_terms_49 p1 p2 p3 p4 post a3 y0 → W p l e ({ frames := 2, cells := 0, slots := 0, locals := 43 } : Room) s m args below meth c H locs 0 0 (MQ below (Qvs z G ad (fun S1 => ∃ t : RH, S1 = (σ, ν, t, lo) ∧ post t)) args s 0 0 (Az z)) (F0 m 49 ls [.int y0]) := by
  obtain ⟨hx, hb, hr, hml, hown, hts, hlocks, hE, hz⟩ := id X
  intro a3 y0 H locs ls hW hS hl h
  unfold jX7_terms_49 at h
  refine lv_istore (lv' := [(5, .int y0), (0, .ref (ad 30 0)), (1, .int p1), (2, .int p2), (3, .int p3), (4, .int p4)]) hx hb dX7_terms_49 hl (by decide) rfl (fun ls hl => ?_)
  refine lv_aload_n hx hb dX7_terms_51 rfl (lv_at hl 1 rfl) ?_
  refine lv_iload_n hx hb dX7_terms_52 rfl (lv_at hl 2 rfl) ?_
  refine lv_iconst (v := (2 : Int32)) hx hb dX7_terms_53 (by decide) ?_
  refine r_icmp_ne hx hb rfl (show (2 : Int32).toInt = 2 by decide) (tgt := 69) dX7_terms_54 (by decide) (fun c3 => ?_) (fun c3 => ?_)
  · have h := ite_f c3 h
    exact tX7_terms_69 (σ := σ) (ρ := ρ) X p1 p2 p3 p4 post  a3 y0 0 hW hS (lv_sub hl [1, 2, 3, 4, 5, 0] rfl) h
  · have h := ite_t c3 h
    refine lv_aload_n hx hb dX7_terms_57 rfl (lv_at hl 1 rfl) ?_
    refine lv_iload_n hx hb dX7_terms_58 rfl (lv_at hl 3 rfl) ?_
    refine k_Vi (rest := [.ref (ad 30 0)]) (As := [.int p2]) ⟨hx, hb, hml, hown, hts⟩ hE hz hS hW (mtX7_isInstruction l z G ad σ ν a3 lo p2 _ h) (cwV 1 hts gX7_terms_X7_isInstruction rfl rfl rfl (by decide +kernel) ⟨Nat.le_of_ble_eq_true rfl, Nat.le_of_ble_eq_true rfl⟩) (r_recv hE hW 30 0 rfl (ci := 10) rfl rfl) rfl hl.1 rfl (Nat.le_of_ble_eq_true rfl) dX7_terms_59 ⟨Nat.le_of_ble_eq_true rfl, Nat.le_of_ble_eq_true rfl⟩ (fun r16 S1 H locs hp hW hS => ?_)
    obtain ⟨rfl, h⟩ := hp
    refine r_if_ne hx hb rfl (tgt := 69) dX7_terms_62 (by decide) (fun c17 => ?_) (fun c17 => ?_)
    · have h := ite_f c17 h
      exact tX7_terms_69 (σ := σ) (ρ := ρ) X p1 p2 p3 p4 post  a3 y0 0 hW hS (lv_sub hl [1, 2, 3, 4, 5, 0] rfl) h
    · have h := ite_t c17 h
      refine lv_iconst (v := (1 : Int32)) hx hb dX7_terms_65 (by decide) ?_
      refine lv_goto (tgt := 79) hx hb dX7_terms_66 (by decide) ?_
      exact tX7_terms_79 (σ := σ) (ρ := ρ) X p1 p2 p3 p4 post  a3 0 ((1 : Int32)) hW hS (lv_sub hl [1, 2, 3, 4, 5] rfl) h
set_option maxHeartbeats 4000000 in
set_option maxRecDepth 100000 in
theorem tX7_terms_20 {p : Program} {l : Launch} {e : Env} {s : State} {m : MethodId} {args : Array Value} {below : List Frame} {meth : Method} {c : Code} {z : Nat} {G : Gl} {ad : Nat → Nat → Nat} {σ : SG} {ν : NU} {ρ : RH} {lo : Int64} (X : Cx p l e s m args below meth c cX7_terms none 6 RX7 wsX7_terms z G) (p1 : Int32) (p2 : Int32) (p3 : Int32) (p4 : Int32)  (post : RH → Prop) : ∀ (a3 : RH) {H : Heap} {locs : List Loc} {ls : Array Slot}, WP z G ad (σ, ν, a3, lo) H → va_S (Az z) s.heap H locs → lv_has ls 6 [(0, .ref (ad 30 0)), (1, .int p1), (2, .int p2), (3, .int p3), (4, .int p4)] → jX7_terms_20 p1 p2 p3 p4 post a3 → W p l e ({ frames := 2, cells := 0, slots := 0, locals := 43 } : Room) s m args below meth c H locs 0 0 (MQ below (Qvs z G ad (fun S1 => ∃ t : RH, S1 = (σ, ν, t, lo) ∧ post t)) args s 0 0 (Az z)) (F0 m 20 ls []) := by
  obtain ⟨hx, hb, hr, hml, hown, hts, hlocks, hE, hz⟩ := id X
  intro a3 H locs ls hW hS hl h
  unfold jX7_terms_20 at h
  refine lv_iload_n hx hb dX7_terms_20 rfl (lv_at hl 3 rfl) ?_
  refine lv_iconst (v := (1 : Int32)) hx hb dX7_terms_21 (by decide) ?_
  refine lv_bipush (v := (7 : Int32)) hx hb dX7_terms_22 (by decide) ?_
  refine k_Si (rest := []) (As := [.int p3, .int ((1 : Int32)), .int ((7 : Int32))]) ⟨hx, hb, hml, hown, hts⟩ hE hz hS hW (mtX7_isIn l z G ad σ ν a3 lo p3 ((1 : Int32)) ((7 : Int32)) _ h) (va_cwS 3 hts gX7_terms_X7_isIn rfl rfl rfl (by decide +kernel) ⟨Nat.le_of_ble_eq_true rfl, Nat.le_of_ble_eq_true rfl⟩) rfl hl.1 rfl (Nat.le_of_ble_eq_true rfl) dX7_terms_24 ⟨Nat.le_of_ble_eq_true rfl, Nat.le_of_ble_eq_true rfl⟩ (fun r19 S1 H locs hp hW hS => ?_)
  obtain ⟨rfl, h⟩ := hp
  refine r_if_eq hx hb rfl (tgt := 48) dX7_terms_27 (by decide) (fun c20 => ?_) (fun c20 => ?_)
  · have h := ite_t c20 h
    refine lv_iconst (v := (0 : Int32)) hx hb dX7_terms_48 (by decide) ?_
    exact tX7_terms_49 (σ := σ) (ρ := ρ) X p1 p2 p3 p4 post  a3 ((0 : Int32)) hW hS (lv_sub hl [0, 1, 2, 3, 4] rfl) h
  · have h := ite_f c20 h
    refine lv_iload hx hb dX7_terms_30 (lv_at hl 4 rfl) ?_
    refine lv_iconst (v := (-1 : Int32)) hx hb dX7_terms_32 (by decide) ?_
    refine r_icmp_eq hx hb rfl (show (-1 : Int32).toInt = (-1) by decide) (tgt := 44) dX7_terms_33 (by decide) (fun c21 => ?_) (fun c21 => ?_)
    · have h := ite_t c21 h
      refine lv_iconst (v := (1 : Int32)) hx hb dX7_terms_44 (by decide) ?_
      refine lv_goto (tgt := 49) hx hb dX7_terms_45 (by decide) ?_
      exact tX7_terms_49 (σ := σ) (ρ := ρ) X p1 p2 p3 p4 post  a3 ((1 : Int32)) hW hS (lv_sub hl [0, 1, 2, 3, 4] rfl) h
    · have h := ite_f c21 h
      refine lv_iload hx hb dX7_terms_36 (lv_at hl 4 rfl) ?_
      refine k_Si (rest := []) (As := [.int p4]) ⟨hx, hb, hml, hown, hts⟩ hE hz hS hW (mtX7_isDay l z G ad σ ν a3 lo p4 _ h) (va_cwS 1 hts gX7_terms_X7_isDay rfl rfl rfl (by decide +kernel) ⟨Nat.le_of_ble_eq_true rfl, Nat.le_of_ble_eq_true rfl⟩) rfl hl.1 rfl (Nat.le_of_ble_eq_true rfl) dX7_terms_38 ⟨Nat.le_of_ble_eq_true rfl, Nat.le_of_ble_eq_true rfl⟩ (fun r22 S1 H locs hp hW hS => ?_)
      obtain ⟨rfl, h⟩ := hp
      refine r_if_eq hx hb rfl (tgt := 48) dX7_terms_41 (by decide) (fun c23 => ?_) (fun c23 => ?_)
      · have h := ite_t c23 h
        refine lv_iconst (v := (0 : Int32)) hx hb dX7_terms_48 (by decide) ?_
        exact tX7_terms_49 (σ := σ) (ρ := ρ) X p1 p2 p3 p4 post  a3 ((0 : Int32)) hW hS (lv_sub hl [0, 1, 2, 3, 4] rfl) h
      · have h := ite_f c23 h
        refine lv_iconst (v := (1 : Int32)) hx hb dX7_terms_44 (by decide) ?_
        refine lv_goto (tgt := 49) hx hb dX7_terms_45 (by decide) ?_
        exact tX7_terms_49 (σ := σ) (ρ := ρ) X p1 p2 p3 p4 post  a3 ((1 : Int32)) hW hS (lv_sub hl [0, 1, 2, 3, 4] rfl) h
set_option maxHeartbeats 4000000 in
set_option maxRecDepth 100000 in
theorem mtX7_terms (l : Launch) (z : Nat) (G : Gl) (ad : Nat → Nat → Nat) (σ : SG) (ν : NU) (ρ : RH) (lo : Int64) (p1 : Int32) (p2 : Int32) (p3 : Int32) (p4 : Int32) (post : RH → Prop) (h : wpX7_terms ρ p1 p2 p3 p4 post) : Met l yX7_terms wsX7_terms ({ frames := 2, cells := 0, slots := 0, locals := 43 } : Room) (Pcs z G ad (σ, ν, ρ, lo) [.ref (ad 30 0), .int p1, .int p2, .int p3, .int p4]) (Qvs z G ad (fun S1 => ∃ t : RH, S1 = (σ, ν, t, lo) ∧ post t)) 0 0 (Az z) := by
  refine Met.ofW (cc := cX7_terms) (maxL := 6) (ret := none) (by decide) rfl ?_
  intro p e s m args below meth c s₁ B hml hv
  obtain ⟨rfl, hz, hW, hE⟩ := hv
  have hx := B.exec
  have hb := B.bytes
  have hr := B.returns
  have hts := atoms_spec (ws := wsX7_terms) B.pre
  have hown : s.vm.findClass RX7 = some m.cls := findClass_of_methodNamed B.named
  have hlocks := B.notSynchronized
  have X : Cx p l e s m _ below meth c cX7_terms none 6 RX7 wsX7_terms z G := ⟨hx, hb, hr, hml, hown, hts, hlocks, hE, hz⟩
  have hS : va_S (Az z) s.heap s.heap [] := va_S.rf
  have hl := lv_entry [.ref (ad 30 0), .int p1, .int p2, .int p3, .int p4] (n := 6) (Nat.le_of_ble_eq_true rfl)
  rw [lg_entry_eq]
  generalize (lg_sl [.ref (ad 30 0), .int p1, .int p2, .int p3, .int p4] ++ List.replicate (6 - (lg_sl [.ref (ad 30 0), .int p1, .int p2, .int p3, .int p4]).length) Slot.unset).toArray = ls at hl ⊢
  have hl : lv_has ls 6 [(0, .ref (ad 30 0)), (1, .int p1), (2, .int p2), (3, .int p3), (4, .int p4)] := hl
  unfold wpX7_terms at h
  refine lv_iload_n hx hb dX7_terms_0 rfl (lv_at hl 1 rfl) ?_
  refine lv_iconst (v := (0 : Int32)) hx hb dX7_terms_1 (by decide) ?_
  refine lv_iconst (v := (2 : Int32)) hx hb dX7_terms_2 (by decide) ?_
  refine k_Si (rest := []) (As := [.int p1, .int ((0 : Int32)), .int ((2 : Int32))]) ⟨hx, hb, hml, hown, hts⟩ hE hz hS hW (mtX7_isIn l z G ad σ ν ρ lo p1 ((0 : Int32)) ((2 : Int32)) _ h) (va_cwS 3 hts gX7_terms_X7_isIn rfl rfl rfl (by decide +kernel) ⟨Nat.le_of_ble_eq_true rfl, Nat.le_of_ble_eq_true rfl⟩) rfl hl.1 rfl (Nat.le_of_ble_eq_true rfl) dX7_terms_3 ⟨Nat.le_of_ble_eq_true rfl, Nat.le_of_ble_eq_true rfl⟩ (fun r1 S1 H locs hp hW hS => ?_)
  obtain ⟨rfl, h⟩ := hp
  refine r_if_eq hx hb rfl (tgt := 48) dX7_terms_6 (by decide) (fun c2 => ?_) (fun c2 => ?_)
  · have h := ite_t c2 h
    refine lv_iconst (v := (0 : Int32)) hx hb dX7_terms_48 (by decide) ?_
    exact tX7_terms_49 (σ := σ) (ρ := ρ) X p1 p2 p3 p4 post  ρ ((0 : Int32)) hW hS (lv_sub hl [0, 1, 2, 3, 4] rfl) h
  · have h := ite_f c2 h
    refine lv_iload_n hx hb dX7_terms_9 rfl (lv_at hl 1 rfl) ?_
    refine r_if_ne hx hb rfl (tgt := 20) dX7_terms_10 (by decide) (fun c18 => ?_) (fun c18 => ?_)
    · have h := ite_f c18 h
      exact tX7_terms_20 (σ := σ) (ρ := ρ) X p1 p2 p3 p4 post  ρ hW hS (lv_sub hl [0, 1, 2, 3, 4] rfl) h
    · have h := ite_t c18 h
      refine lv_iload_n hx hb dX7_terms_13 rfl (lv_at hl 2 rfl) ?_
      refine k_Si (rest := []) (As := [.int p2]) ⟨hx, hb, hml, hown, hts⟩ hE hz hS hW (mtX7_isDay l z G ad σ ν ρ lo p2 _ h) (va_cwS 1 hts gX7_terms_X7_isDay rfl rfl rfl (by decide +kernel) ⟨Nat.le_of_ble_eq_true rfl, Nat.le_of_ble_eq_true rfl⟩) rfl hl.1 rfl (Nat.le_of_ble_eq_true rfl) dX7_terms_14 ⟨Nat.le_of_ble_eq_true rfl, Nat.le_of_ble_eq_true rfl⟩ (fun r24 S1 H locs hp hW hS => ?_)
      obtain ⟨rfl, h⟩ := hp
      refine r_if_eq hx hb rfl (tgt := 48) dX7_terms_17 (by decide) (fun c25 => ?_) (fun c25 => ?_)
      · have h := ite_t c25 h
        refine lv_iconst (v := (0 : Int32)) hx hb dX7_terms_48 (by decide) ?_
        exact tX7_terms_49 (σ := σ) (ρ := ρ) X p1 p2 p3 p4 post  ρ ((0 : Int32)) hW hS (lv_sub hl [0, 1, 2, 3, 4] rfl) h
      · have h := ite_f c25 h
        exact tX7_terms_20 (σ := σ) (ρ := ρ) X p1 p2 p3 p4 post  ρ hW hS (lv_sub hl [0, 1, 2, 3, 4] rfl) h
set_option maxHeartbeats 4000000 in
set_option maxRecDepth 100000 in
theorem tX7_word_40 {p : Program} {l : Launch} {e : Env} {s : State} {m : MethodId} {args : Array Value} {below : List Frame} {meth : Method} {c : Code} {z : Nat} {G : Gl} {ad : Nat → Nat → Nat} {σ : SG} {ν : NU} {ρ : RH} {lo : Int64} (X : Cx p l e s m args below meth c cX7_word (some .int) 3 RX7 wsX7_word z G) (p1 : Int32) (p2 : Int32)  (post : Int32 → RH → Prop) : ∀ (a3 : RH) (y0 : Nat) (y1 : Int32) {H : Heap} {locs : List Loc} {ls : Array Slot}, WP z G ad (σ, ν, a3, lo) H → va_S (Az z) s.heap H locs → lv_has ls 3 [(0, .ref (ad 30 0)), (1, .int p1), (2, .int p2)] → jX7_word_40 p1 p2 post a3 y0 y1 → W p l e ({ frames := 1, cells := 0, slots := 0, locals := 22 } : Room) s m args below meth c H locs 0 0 (MQ below (Qis z G ad (fun r S1 => ∃ t : RH, S1 = (σ, ν, t, lo) ∧ post r t)) args s 0 0 (Az z)) (F0 m 40 ls [.int y1, .ref (ad 30 0)]) := by
  obtain ⟨hx, hb, hr, hml, hown, hts, hlocks, hE, hz⟩ := id X
  intro a3 y0 y1 H locs ls hW hS hl h
  unfold jX7_word_40 at h
  refine k_Vi (rest := []) (As := [.int y1]) ⟨hx, hb, hml, hown, hts⟩ hE hz hS hW (mtX7_goes l z G ad σ ν a3 lo y1 _ h) (cwV 1 hts gX7_word_X7_goes rfl rfl rfl (by decide +kernel) ⟨Nat.le_of_ble_eq_true rfl, Nat.le_of_ble_eq_true rfl⟩) (r_recv hE hW 30 0 rfl (ci := 10) rfl rfl) rfl hl.1 rfl (Nat.le_of_ble_eq_true rfl) dX7_word_40 ⟨Nat.le_of_ble_eq_true rfl, Nat.le_of_ble_eq_true rfl⟩ (fun r5 S1 H locs hp hW hS => ?_)
  obtain ⟨t6, rfl, h⟩ := hp
  refine r_if_ne hx hb rfl (tgt := 48) dX7_word_43 (by decide) (fun c7 => ?_) (fun c7 => ?_)
  · have h := ite_f c7 h
    refine lv_iload_n hx hb dX7_word_48 rfl (lv_at hl 2 rfl) ?_
    refine r_if_eq hx hb rfl (tgt := 77) dX7_word_49 (by decide) (fun c8 => ?_) (fun c8 => ?_)
    · have h := ite_t c8 h
      refine lv_aload_n hx hb dX7_word_77 rfl (lv_at hl 0 rfl) ?_
      refine r_get (C := RX7) (T := TX7) (N := 49) (ci := 10) (fs := fl_30 ad ν t6 0 (σ 30 0)) hx hb hts hown hE hW 30 0 rfl rfl rfl (fun w h => List.mem_cons_of_mem _ (List.mem_append_right _ h)) 8 (by decide) (List.mem_of_getElem? (i := 4) rfl) rfl (v := .ref (ad 108 0)) rfl dX7_word_78 ?_
      refine lv_aload_n hx hb dX7_word_81 rfl (lv_at hl 0 rfl) ?_
      refine r_get (C := RX7) (T := TX7) (N := 49) (ci := 10) (fs := fl_30 ad ν t6 0 (σ 30 0)) hx hb hts hown hE hW 30 0 rfl rfl rfl (fun w h => List.mem_cons_of_mem _ (List.mem_append_right _ h)) 7 (by decide) (List.mem_of_getElem? (i := 2) rfl) rfl (v := .int (t6 7 0)) rfl dX7_word_82 ?_
      refine lv_iload_n hx hb dX7_word_85 rfl (lv_at hl 1 rfl) ?_
      obtain ⟨b9, h⟩ := h
      refine r_iastM hx hb hE hW hS 8 (k := 108) rfl ⟨rfl, by decide, by decide⟩ (n := 4) (fun _ => rfl) (fun t q => by simp [fl_30, q]) b9 dX7_word_86 (fun t10 e11 H locs hW hS => ?_)
      have h := h t10 e11
      refine lv_aload_n hx hb dX7_word_87 rfl (lv_at hl 0 rfl) ?_
      refine lv_dup hx hb dX7_word_88 rfl ?_
      refine r_get (C := RX7) (T := TX7) (N := 49) (ci := 10) (fs := fl_30 ad ν t10 0 (σ 30 0)) hx hb hts hown hE hW 30 0 rfl rfl rfl (fun w h => List.mem_cons_of_mem _ (List.mem_append_right _ h)) 7 (by decide) (List.mem_of_getElem? (i := 2) rfl) rfl (v := .int (t10 7 0)) rfl dX7_word_89 ?_
      refine lv_iconst (v := (1 : Int32)) hx hb dX7_word_92 (by decide) ?_
      refine lv_iadd hx hb dX7_word_93 ?_
      refine r_putM hx hb hts hown hE hW hS (fun w h => List.mem_cons_of_mem _ (List.mem_append_right _ h)) 7 (by decide) (List.mem_of_getElem? (i := 2) rfl) rfl rfl rfl (x := (t10 7 0) + ((1 : Int32))) rfl rfl dX7_word_94 (fun t12 e13 H locs hW hS => ?_)
      have h := h t12 e13
      refine lv_aload_n hx hb dX7_word_97 rfl (lv_at hl 0 rfl) ?_
      refine r_get (C := RX7) (T := TX7) (N := 49) (ci := 10) (fs := fl_30 ad ν t12 0 (σ 30 0)) hx hb hts hown hE hW 30 0 rfl rfl rfl (fun w h => List.mem_cons_of_mem _ (List.mem_append_right _ h)) 7 (by decide) (List.mem_of_getElem? (i := 2) rfl) rfl (v := .int (t12 7 0)) rfl dX7_word_98 ?_
      exact W.iret (v := t12 7 0) hx hb hr (fun t ht _ => ⟨⟨_, (σ, ν, t12, lo), rfl, ⟨_, rfl, h⟩, WP.at9 ht hW⟩, hS.F ht⟩) hS.2.2 dX7_word_101 (hlocks := hlocks)
    · have h := ite_f c8 h
      refine lv_aload_n hx hb dX7_word_52 rfl (lv_at hl 0 rfl) ?_
      refine r_get (C := RX7) (T := TX7) (N := 49) (ci := 10) (fs := fl_30 ad ν t6 0 (σ 30 0)) hx hb hts hown hE hW 30 0 rfl rfl rfl (fun w h => List.mem_cons_of_mem _ (List.mem_append_right _ h)) 10 (by decide) (List.mem_of_getElem? (i := 3) rfl) rfl (v := .ref (ad 110 0)) rfl dX7_word_53 ?_
      refine lv_aload_n hx hb dX7_word_56 rfl (lv_at hl 0 rfl) ?_
      refine r_get (C := RX7) (T := TX7) (N := 49) (ci := 10) (fs := fl_30 ad ν t6 0 (σ 30 0)) hx hb hts hown hE hW 30 0 rfl rfl rfl (fun w h => List.mem_cons_of_mem _ (List.mem_append_right _ h)) 9 (by decide) (List.mem_of_getElem? (i := 1) rfl) rfl (v := .int (t6 9 0)) rfl dX7_word_57 ?_
      refine lv_iload_n hx hb dX7_word_60 rfl (lv_at hl 1 rfl) ?_
      obtain ⟨b14, h⟩ := h
      refine r_iastM hx hb hE hW hS 10 (k := 110) rfl ⟨rfl, by decide, by decide⟩ (n := 4) (fun _ => rfl) (fun t q => by simp [fl_30, q]) b14 dX7_word_61 (fun t15 e16 H locs hW hS => ?_)
      have h := h t15 e16
      refine lv_aload_n hx hb dX7_word_62 rfl (lv_at hl 0 rfl) ?_
      refine lv_dup hx hb dX7_word_63 rfl ?_
      refine r_get (C := RX7) (T := TX7) (N := 49) (ci := 10) (fs := fl_30 ad ν t15 0 (σ 30 0)) hx hb hts hown hE hW 30 0 rfl rfl rfl (fun w h => List.mem_cons_of_mem _ (List.mem_append_right _ h)) 9 (by decide) (List.mem_of_getElem? (i := 1) rfl) rfl (v := .int (t15 9 0)) rfl dX7_word_64 ?_
      refine lv_iconst (v := (1 : Int32)) hx hb dX7_word_67 (by decide) ?_
      refine lv_iadd hx hb dX7_word_68 ?_
      refine r_putM hx hb hts hown hE hW hS (fun w h => List.mem_cons_of_mem _ (List.mem_append_right _ h)) 9 (by decide) (List.mem_of_getElem? (i := 1) rfl) rfl rfl rfl (x := (t15 9 0) + ((1 : Int32))) rfl rfl dX7_word_69 (fun t17 e18 H locs hW hS => ?_)
      have h := h t17 e18
      refine lv_aload_n hx hb dX7_word_72 rfl (lv_at hl 0 rfl) ?_
      refine r_get (C := RX7) (T := TX7) (N := 49) (ci := 10) (fs := fl_30 ad ν t17 0 (σ 30 0)) hx hb hts hown hE hW 30 0 rfl rfl rfl (fun w h => List.mem_cons_of_mem _ (List.mem_append_right _ h)) 9 (by decide) (List.mem_of_getElem? (i := 1) rfl) rfl (v := .int (t17 9 0)) rfl dX7_word_73 ?_
      exact W.iret (v := t17 9 0) hx hb hr (fun t ht _ => ⟨⟨_, (σ, ν, t17, lo), rfl, ⟨_, rfl, h⟩, WP.at9 ht hW⟩, hS.F ht⟩) hS.2.2 dX7_word_76 (hlocks := hlocks)
  · have h := ite_t c7 h
    refine lv_iconst (v := (0 : Int32)) hx hb dX7_word_46 (by decide) ?_
    exact W.iret (v := (0 : Int32)) hx hb hr (fun t ht _ => ⟨⟨_, (σ, ν, t6, lo), rfl, ⟨_, rfl, h⟩, WP.at9 ht hW⟩, hS.F ht⟩) hS.2.2 dX7_word_47 (hlocks := hlocks)
set_option maxHeartbeats 4000000 in
set_option maxRecDepth 100000 in
theorem tX7_word_31 {p : Program} {l : Launch} {e : Env} {s : State} {m : MethodId} {args : Array Value} {below : List Frame} {meth : Method} {c : Code} {z : Nat} {G : Gl} {ad : Nat → Nat → Nat} {σ : SG} {ν : NU} {ρ : RH} {lo : Int64} (X : Cx p l e s m args below meth c cX7_word (some .int) 3 RX7 wsX7_word z G) (p1 : Int32) (p2 : Int32)  (post : Int32 → RH → Prop) : ∀ (a3 : RH) (y0 : Nat) (y1 : Int32) {H : Heap} {locs : List Loc} {ls : Array Slot}, WP z G ad (σ, ν, a3, lo) H → va_S (Az z) s.heap H locs → lv_has ls 3 [(0, .ref (ad 30 0)), (1, .int p1), (2, .int p2)] → jX7_word_31 p1 p2 post a3 y0 y1 → W p l e ({ frames := 1, cells := 0, slots := 0, locals := 22 } : Room) s m args below meth c H locs 0 0 (MQ below (Qis z G ad (fun r S1 => ∃ t : RH, S1 = (σ, ν, t, lo) ∧ post r t)) args s 0 0 (Az z)) (F0 m 31 ls [.int y1, .ref (ad 30 0)]) := by
  obtain ⟨hx, hb, hr, hml, hown, hts, hlocks, hE, hz⟩ := id X
  intro a3 y0 y1 H locs ls hW hS hl h
  unfold jX7_word_31 at h
  refine lv_iconst (v := (4 : Int32)) hx hb dX7_word_31 (by decide) ?_
  refine r_icmp_ne hx hb rfl (show (4 : Int32).toInt = 4 by decide) (tgt := 39) dX7_word_32 (by decide) (fun c4 => ?_) (fun c4 => ?_)
  · have h := ite_f c4 h
    refine lv_iconst (v := (0 : Int32)) hx hb dX7_word_39 (by decide) ?_
    exact tX7_word_40 (σ := σ) (ρ := ρ) X p1 p2 post  a3 0 ((0 : Int32)) hW hS (lv_sub hl [0, 1, 2] rfl) h
  · have h := ite_t c4 h
    refine lv_iconst (v := (2 : Int32)) hx hb dX7_word_35 (by decide) ?_
    refine lv_goto (tgt := 40) hx hb dX7_word_36 (by decide) ?_
    exact tX7_word_40 (σ := σ) (ρ := ρ) X p1 p2 post  a3 0 ((2 : Int32)) hW hS (lv_sub hl [0, 1, 2] rfl) h
set_option maxHeartbeats 4000000 in
set_option maxRecDepth 100000 in
theorem mtX7_word (l : Launch) (z : Nat) (G : Gl) (ad : Nat → Nat → Nat) (σ : SG) (ν : NU) (ρ : RH) (lo : Int64) (p1 : Int32) (p2 : Int32) (post : Int32 → RH → Prop) (h : wpX7_word ρ p1 p2 post) : Met l yX7_word wsX7_word ({ frames := 1, cells := 0, slots := 0, locals := 22 } : Room) (Pcs z G ad (σ, ν, ρ, lo) [.ref (ad 30 0), .int p1, .int p2]) (Qis z G ad (fun r S1 => ∃ t : RH, S1 = (σ, ν, t, lo) ∧ post r t)) 0 0 (Az z) := by
  refine Met.ofW (cc := cX7_word) (maxL := 3) (ret := (some .int)) (by decide) rfl ?_
  intro p e s m args below meth c s₁ B hml hv
  obtain ⟨rfl, hz, hW, hE⟩ := hv
  have hx := B.exec
  have hb := B.bytes
  have hr := B.returns
  have hts := atoms_spec (ws := wsX7_word) B.pre
  have hown : s.vm.findClass RX7 = some m.cls := findClass_of_methodNamed B.named
  have hlocks := B.notSynchronized
  have X : Cx p l e s m _ below meth c cX7_word (some .int) 3 RX7 wsX7_word z G := ⟨hx, hb, hr, hml, hown, hts, hlocks, hE, hz⟩
  have hS : va_S (Az z) s.heap s.heap [] := va_S.rf
  have hl := lv_entry [.ref (ad 30 0), .int p1, .int p2] (n := 3) (Nat.le_of_ble_eq_true rfl)
  rw [lg_entry_eq]
  generalize (lg_sl [.ref (ad 30 0), .int p1, .int p2] ++ List.replicate (3 - (lg_sl [.ref (ad 30 0), .int p1, .int p2]).length) Slot.unset).toArray = ls at hl ⊢
  have hl : lv_has ls 3 [(0, .ref (ad 30 0)), (1, .int p1), (2, .int p2)] := hl
  unfold wpX7_word at h
  refine lv_aload_n hx hb dX7_word_0 rfl (lv_at hl 0 rfl) ?_
  refine lv_iload_n hx hb dX7_word_1 rfl (lv_at hl 1 rfl) ?_
  refine lv_iconst (v := (0 : Int32)) hx hb dX7_word_2 (by decide) ?_
  refine lv_sipush (v := (139 : Int32)) hx hb dX7_word_3 (by decide) ?_
  refine k_Si (rest := [.ref (ad 30 0)]) (As := [.int p1, .int ((0 : Int32)), .int ((139 : Int32))]) ⟨hx, hb, hml, hown, hts⟩ hE hz hS hW (mtX7_isIn l z G ad σ ν ρ lo p1 ((0 : Int32)) ((139 : Int32)) _ h) (va_cwS 3 hts gX7_word_X7_isIn rfl rfl rfl (by decide +kernel) ⟨Nat.le_of_ble_eq_true rfl, Nat.le_of_ble_eq_true rfl⟩) rfl hl.1 rfl (Nat.le_of_ble_eq_true rfl) dX7_word_6 ⟨Nat.le_of_ble_eq_true rfl, Nat.le_of_ble_eq_true rfl⟩ (fun r1 S1 H locs hp hW hS => ?_)
  obtain ⟨rfl, h⟩ := hp
  refine r_if_ne hx hb rfl (tgt := 16) dX7_word_9 (by decide) (fun c2 => ?_) (fun c2 => ?_)
  · have h := ite_f c2 h
    refine lv_iload_n hx hb dX7_word_16 rfl (lv_at hl 2 rfl) ?_
    refine r_if_eq hx hb rfl (tgt := 27) dX7_word_17 (by decide) (fun c3 => ?_) (fun c3 => ?_)
    · have h := ite_t c3 h
      refine lv_aload_n hx hb dX7_word_27 rfl (lv_at hl 0 rfl) ?_
      refine r_get (C := RX7) (T := TX7) (N := 49) (ci := 10) (fs := fl_30 ad ν ρ 0 (σ 30 0)) hx hb hts hown hE hW 30 0 rfl rfl rfl (fun w h => List.mem_cons_of_mem _ (List.mem_append_right _ h)) 7 (by decide) (List.mem_of_getElem? (i := 2) rfl) rfl (v := .int (ρ 7 0)) rfl dX7_word_28 ?_
      exact tX7_word_31 (σ := σ) (ρ := ρ) X p1 p2 post  ρ 0 (ρ 7 0) hW hS (lv_sub hl [0, 1, 2] rfl) h
    · have h := ite_f c3 h
      refine lv_aload_n hx hb dX7_word_20 rfl (lv_at hl 0 rfl) ?_
      refine r_get (C := RX7) (T := TX7) (N := 49) (ci := 10) (fs := fl_30 ad ν ρ 0 (σ 30 0)) hx hb hts hown hE hW 30 0 rfl rfl rfl (fun w h => List.mem_cons_of_mem _ (List.mem_append_right _ h)) 9 (by decide) (List.mem_of_getElem? (i := 1) rfl) rfl (v := .int (ρ 9 0)) rfl dX7_word_21 ?_
      refine lv_goto (tgt := 31) hx hb dX7_word_24 (by decide) ?_
      exact tX7_word_31 (σ := σ) (ρ := ρ) X p1 p2 post  ρ 0 (ρ 9 0) hW hS (lv_sub hl [0, 1, 2] rfl) h
  · have h := ite_t c2 h
    refine lv_iconst (v := (1 : Int32)) hx hb dX7_word_12 (by decide) ?_
    refine lv_goto (tgt := 40) hx hb dX7_word_13 (by decide) ?_
    exact tX7_word_40 (σ := σ) (ρ := ρ) X p1 p2 post  ρ 0 ((1 : Int32)) hW hS (lv_sub hl [0, 1, 2] rfl) h
set_option maxHeartbeats 4000000 in
set_option maxRecDepth 100000 in
theorem mtX7_isLabel (l : Launch) (z : Nat) (G : Gl) (ad : Nat → Nat → Nat) (σ : SG) (ν : NU) (ρ : RH) (lo : Int64) (p0 : Int32) (p1 : Int32) (post : Int32 → Prop) (h : wpX7_isLabel ρ p0 p1 post) : Met l yX7_isLabel wsX7_isLabel ({ frames := 1, cells := 0, slots := 0, locals := 22 } : Room) (Pcs z G ad (σ, ν, ρ, lo) [.int p0, .int p1]) (Qis z G ad (fun r S1 => S1 = (σ, ν, ρ, lo) ∧ post r)) 0 0 (Az z) := by
  refine Met.ofW (cc := cX7_isLabel) (maxL := 2) (ret := (some .boolean)) (by decide) rfl ?_
  intro p e s m args below meth c s₁ B hml hv
  obtain ⟨rfl, hz, hW, hE⟩ := hv
  have hx := B.exec
  have hb := B.bytes
  have hr := B.returns
  have hts := atoms_spec (ws := wsX7_isLabel) B.pre
  have hown : s.vm.findClass RX7 = some m.cls := findClass_of_methodNamed B.named
  have hlocks := B.notSynchronized
  have X : Cx p l e s m _ below meth c cX7_isLabel (some .boolean) 2 RX7 wsX7_isLabel z G := ⟨hx, hb, hr, hml, hown, hts, hlocks, hE, hz⟩
  have hS : va_S (Az z) s.heap s.heap [] := va_S.rf
  have hl := lv_entry [.int p0, .int p1] (n := 2) (Nat.le_of_ble_eq_true rfl)
  rw [lg_entry_eq]
  generalize (lg_sl [.int p0, .int p1] ++ List.replicate (2 - (lg_sl [.int p0, .int p1]).length) Slot.unset).toArray = ls at hl ⊢
  have hl : lv_has ls 2 [(0, .int p0), (1, .int p1)] := hl
  unfold wpX7_isLabel at h
  refine lv_iload_n hx hb dX7_isLabel_0 rfl (lv_at hl 0 rfl) ?_
  refine lv_iconst (v := (1 : Int32)) hx hb dX7_isLabel_1 (by decide) ?_
  refine lv_bipush (v := (99 : Int32)) hx hb dX7_isLabel_2 (by decide) ?_
  refine k_Si (rest := []) (As := [.int p0, .int ((1 : Int32)), .int ((99 : Int32))]) ⟨hx, hb, hml, hown, hts⟩ hE hz hS hW (mtX7_isIn l z G ad σ ν ρ lo p0 ((1 : Int32)) ((99 : Int32)) _ h) (va_cwS 3 hts gX7_isLabel_X7_isIn rfl rfl rfl (by decide +kernel) ⟨Nat.le_of_ble_eq_true rfl, Nat.le_of_ble_eq_true rfl⟩) rfl hl.1 rfl (Nat.le_of_ble_eq_true rfl) dX7_isLabel_4 ⟨Nat.le_of_ble_eq_true rfl, Nat.le_of_ble_eq_true rfl⟩ (fun r1 S1 H locs hp hW hS => ?_)
  obtain ⟨rfl, h⟩ := hp
  refine r_if_eq hx hb rfl (tgt := 38) dX7_isLabel_7 (by decide) (fun c2 => ?_) (fun c2 => ?_)
  · have h := ite_t c2 h
    refine lv_iconst (v := (0 : Int32)) hx hb dX7_isLabel_38 (by decide) ?_
    exact W.zret (v := (0 : Int32)) (ty := .boolean) hx hb hr rfl (fun t ht _ => ⟨⟨_, (σ, ν, ρ, lo), rfl, ⟨rfl, h⟩, WP.at9 ht hW⟩, hS.F ht⟩) hS.2.2 dX7_isLabel_39 (hlocks := hlocks)
  · have h := ite_f c2 h
    refine lv_iload_n hx hb dX7_isLabel_10 rfl (lv_at hl 1 rfl) ?_
    refine lv_iconst (v := (0 : Int32)) hx hb dX7_isLabel_11 (by decide) ?_
    refine lv_sipush (v := (728 : Int32)) hx hb dX7_isLabel_12 (by decide) ?_
    refine k_Si (rest := []) (As := [.int p1, .int ((0 : Int32)), .int ((728 : Int32))]) ⟨hx, hb, hml, hown, hts⟩ hE hz hS hW (mtX7_isIn l z G ad σ ν ρ lo p1 ((0 : Int32)) ((728 : Int32)) _ h) (va_cwS 3 hts gX7_isLabel_X7_isIn rfl rfl rfl (by decide +kernel) ⟨Nat.le_of_ble_eq_true rfl, Nat.le_of_ble_eq_true rfl⟩) rfl hl.1 rfl (Nat.le_of_ble_eq_true rfl) dX7_isLabel_15 ⟨Nat.le_of_ble_eq_true rfl, Nat.le_of_ble_eq_true rfl⟩ (fun r3 S1 H locs hp hW hS => ?_)
    obtain ⟨rfl, h⟩ := hp
    refine r_if_eq hx hb rfl (tgt := 38) dX7_isLabel_18 (by decide) (fun c4 => ?_) (fun c4 => ?_)
    · have h := ite_t c4 h
      refine lv_iconst (v := (0 : Int32)) hx hb dX7_isLabel_38 (by decide) ?_
      exact W.zret (v := (0 : Int32)) (ty := .boolean) hx hb hr rfl (fun t ht _ => ⟨⟨_, (σ, ν, ρ, lo), rfl, ⟨rfl, h⟩, WP.at9 ht hW⟩, hS.F ht⟩) hS.2.2 dX7_isLabel_39 (hlocks := hlocks)
    · have h := ite_f c4 h
      refine lv_iload_n hx hb dX7_isLabel_21 rfl (lv_at hl 1 rfl) ?_
      refine lv_bipush (v := (27 : Int32)) hx hb dX7_isLabel_22 (by decide) ?_
      refine r_icmp_lt hx hb rfl (show (27 : Int32).toInt = 27 by decide) (tgt := 34) dX7_isLabel_24 (by decide) (fun c5 => ?_) (fun c5 => ?_)
      · have h := ite_t c5 h
        refine lv_iconst (v := (1 : Int32)) hx hb dX7_isLabel_34 (by decide) ?_
        refine lv_goto (tgt := 39) hx hb dX7_isLabel_35 (by decide) ?_
        exact W.zret (v := (1 : Int32)) (ty := .boolean) hx hb hr rfl (fun t ht _ => ⟨⟨_, (σ, ν, ρ, lo), rfl, ⟨rfl, h⟩, WP.at9 ht hW⟩, hS.F ht⟩) hS.2.2 dX7_isLabel_39 (hlocks := hlocks)
      · have h := ite_f c5 h
        refine lv_iload_n hx hb dX7_isLabel_27 rfl (lv_at hl 1 rfl) ?_
        refine lv_bipush (v := (27 : Int32)) hx hb dX7_isLabel_28 (by decide) ?_
        refine lv_irem hx hb dX7_isLabel_30 (by decide) ?_
        refine r_if_le hx hb rfl (tgt := 38) dX7_isLabel_31 (by decide) (fun c6 => ?_) (fun c6 => ?_)
        · have h := ite_t c6 h
          refine lv_iconst (v := (0 : Int32)) hx hb dX7_isLabel_38 (by decide) ?_
          exact W.zret (v := (0 : Int32)) (ty := .boolean) hx hb hr rfl (fun t ht _ => ⟨⟨_, (σ, ν, ρ, lo), rfl, ⟨rfl, h⟩, WP.at9 ht hW⟩, hS.F ht⟩) hS.2.2 dX7_isLabel_39 (hlocks := hlocks)
        · have h := ite_f c6 h
          refine lv_iconst (v := (1 : Int32)) hx hb dX7_isLabel_34 (by decide) ?_
          refine lv_goto (tgt := 39) hx hb dX7_isLabel_35 (by decide) ?_
          exact W.zret (v := (1 : Int32)) (ty := .boolean) hx hb hr rfl (fun t ht _ => ⟨⟨_, (σ, ν, ρ, lo), rfl, ⟨rfl, h⟩, WP.at9 ht hW⟩, hS.F ht⟩) hS.2.2 dX7_isLabel_39 (hlocks := hlocks)
set_option maxHeartbeats 4000000 in
set_option maxRecDepth 100000 in
theorem mtX7_isShut (l : Launch) (z : Nat) (G : Gl) (ad : Nat → Nat → Nat) (σ : SG) (ν : NU) (ρ : RH) (lo : Int64)  (post : Int32 → Prop) (h : wpX7_isShut ρ  post) : Met l yX7_isShut wsX7_isShut ({ frames := 0, cells := 0, slots := 0, locals := 0 } : Room) (Pcs z G ad (σ, ν, ρ, lo) [.ref (ad 30 0)]) (Qis z G ad (fun r S1 => S1 = (σ, ν, ρ, lo) ∧ post r)) 0 0 (Az z) := by
  refine Met.ofW (cc := cX7_isShut) (maxL := 1) (ret := (some .boolean)) (by decide) rfl ?_
  intro p e s m args below meth c s₁ B hml hv
  obtain ⟨rfl, hz, hW, hE⟩ := hv
  have hx := B.exec
  have hb := B.bytes
  have hr := B.returns
  have hts := atoms_spec (ws := wsX7_isShut) B.pre
  have hown : s.vm.findClass RX7 = some m.cls := findClass_of_methodNamed B.named
  have hlocks := B.notSynchronized
  have X : Cx p l e s m _ below meth c cX7_isShut (some .boolean) 1 RX7 wsX7_isShut z G := ⟨hx, hb, hr, hml, hown, hts, hlocks, hE, hz⟩
  have hS : va_S (Az z) s.heap s.heap [] := va_S.rf
  have hl := lv_entry [.ref (ad 30 0)] (n := 1) (Nat.le_of_ble_eq_true rfl)
  rw [lg_entry_eq]
  generalize (lg_sl [.ref (ad 30 0)] ++ List.replicate (1 - (lg_sl [.ref (ad 30 0)]).length) Slot.unset).toArray = ls at hl ⊢
  have hl : lv_has ls 1 [(0, .ref (ad 30 0))] := hl
  unfold wpX7_isShut at h
  refine lv_aload_n hx hb dX7_isShut_0 rfl (lv_at hl 0 rfl) ?_
  refine r_get (C := RX7) (T := TX7) (N := 49) (ci := 10) (fs := fl_30 ad ν ρ 0 (σ 30 0)) hx hb hts hown hE hW 30 0 rfl rfl rfl (fun w h => List.mem_cons_of_mem _ (List.mem_append_right _ h)) 1 (by decide) (List.mem_of_getElem? (i := 1) rfl) rfl (v := .int (ρ 1 0)) rfl dX7_isShut_1 ?_
  refine r_if_eq hx hb rfl (tgt := 34) dX7_isShut_4 (by decide) (fun c1 => ?_) (fun c1 => ?_)
  · have h := ite_t c1 h
    refine lv_iconst (v := (1 : Int32)) hx hb dX7_isShut_34 (by decide) ?_
    refine lv_goto (tgt := 39) hx hb dX7_isShut_35 (by decide) ?_
    exact W.zret (v := (1 : Int32)) (ty := .boolean) hx hb hr rfl (fun t ht _ => ⟨⟨_, (σ, ν, ρ, lo), rfl, ⟨rfl, h⟩, WP.at9 ht hW⟩, hS.F ht⟩) hS.2.2 dX7_isShut_39 (hlocks := hlocks)
  · have h := ite_f c1 h
    refine lv_aload_n hx hb dX7_isShut_7 rfl (lv_at hl 0 rfl) ?_
    refine r_get (C := RX7) (T := TX7) (N := 49) (ci := 10) (fs := fl_30 ad ν ρ 0 (σ 30 0)) hx hb hts hown hE hW 30 0 rfl rfl rfl (fun w h => List.mem_cons_of_mem _ (List.mem_append_right _ h)) 2 (by decide) (List.mem_of_getElem? (i := 2) rfl) rfl (v := .ref (ad 102 0)) rfl dX7_isShut_8 ?_
    refine lv_aload_n hx hb dX7_isShut_11 rfl (lv_at hl 0 rfl) ?_
    refine r_get (C := RX7) (T := TX7) (N := 49) (ci := 10) (fs := fl_30 ad ν ρ 0 (σ 30 0)) hx hb hts hown hE hW 30 0 rfl rfl rfl (fun w h => List.mem_cons_of_mem _ (List.mem_append_right _ h)) 1 (by decide) (List.mem_of_getElem? (i := 1) rfl) rfl (v := .int (ρ 1 0)) rfl dX7_isShut_12 ?_
    refine lv_iconst (v := (1 : Int32)) hx hb dX7_isShut_15 (by decide) ?_
    refine lv_isub hx hb dX7_isShut_16 ?_
    obtain ⟨b2, h⟩ := h
    refine r_iald hx hb hE hW 102 0 ⟨rfl, by decide, by decide⟩ (n := 10) (f := ρ 2) rfl b2 (v := ρ 2 ((ρ 1 0) - ((1 : Int32))).toNatClampNeg) rfl dX7_isShut_17 ?_
    refine lv_aload_n hx hb dX7_isShut_18 rfl (lv_at hl 0 rfl) ?_
    refine r_get (C := RX7) (T := TX7) (N := 49) (ci := 10) (fs := fl_30 ad ν ρ 0 (σ 30 0)) hx hb hts hown hE hW 30 0 rfl rfl rfl (fun w h => List.mem_cons_of_mem _ (List.mem_append_right _ h)) 0 (by decide) (List.mem_of_getElem? (i := 3) rfl) rfl (v := .int (ρ 0 0)) rfl dX7_isShut_19 ?_
    refine r_icmp_ne hx hb rfl rfl (tgt := 34) dX7_isShut_22 (by decide) (fun c3 => ?_) (fun c3 => ?_)
    · have h := ite_f c3 h
      refine lv_iconst (v := (1 : Int32)) hx hb dX7_isShut_34 (by decide) ?_
      refine lv_goto (tgt := 39) hx hb dX7_isShut_35 (by decide) ?_
      exact W.zret (v := (1 : Int32)) (ty := .boolean) hx hb hr rfl (fun t ht _ => ⟨⟨_, (σ, ν, ρ, lo), rfl, ⟨rfl, h⟩, WP.at9 ht hW⟩, hS.F ht⟩) hS.2.2 dX7_isShut_39 (hlocks := hlocks)
    · have h := ite_t c3 h
      refine lv_aload_n hx hb dX7_isShut_25 rfl (lv_at hl 0 rfl) ?_
      refine r_get (C := RX7) (T := TX7) (N := 49) (ci := 10) (fs := fl_30 ad ν ρ 0 (σ 30 0)) hx hb hts hown hE hW 30 0 rfl rfl rfl (fun w h => List.mem_cons_of_mem _ (List.mem_append_right _ h)) 11 (by decide) (List.mem_of_getElem? (i := 4) rfl) rfl (v := .int (ρ 11 0)) rfl dX7_isShut_26 ?_
      refine lv_bipush (v := (40 : Int32)) hx hb dX7_isShut_29 (by decide) ?_
      refine r_icmp_ne hx hb rfl (show (40 : Int32).toInt = 40 by decide) (tgt := 38) dX7_isShut_31 (by decide) (fun c4 => ?_) (fun c4 => ?_)
      · have h := ite_f c4 h
        refine lv_iconst (v := (0 : Int32)) hx hb dX7_isShut_38 (by decide) ?_
        exact W.zret (v := (0 : Int32)) (ty := .boolean) hx hb hr rfl (fun t ht _ => ⟨⟨_, (σ, ν, ρ, lo), rfl, ⟨rfl, h⟩, WP.at9 ht hW⟩, hS.F ht⟩) hS.2.2 dX7_isShut_39 (hlocks := hlocks)
      · have h := ite_t c4 h
        refine lv_iconst (v := (1 : Int32)) hx hb dX7_isShut_34 (by decide) ?_
        refine lv_goto (tgt := 39) hx hb dX7_isShut_35 (by decide) ?_
        exact W.zret (v := (1 : Int32)) (ty := .boolean) hx hb hr rfl (fun t ht _ => ⟨⟨_, (σ, ν, ρ, lo), rfl, ⟨rfl, h⟩, WP.at9 ht hW⟩, hS.F ht⟩) hS.2.2 dX7_isShut_39 (hlocks := hlocks)
set_option maxHeartbeats 4000000 in
set_option maxRecDepth 100000 in
theorem tX7_lays_77 {p : Program} {l : Launch} {e : Env} {s : State} {m : MethodId} {args : Array Value} {below : List Frame} {meth : Method} {c : Code} {z : Nat} {G : Gl} {ad : Nat → Nat → Nat} {σ : SG} {ν : NU} {ρ : RH} {lo : Int64} (X : Cx p l e s m args below meth c cX7_lays (some .int) 7 RX7 wsX7_lays z G) (p1 : Int32) (p2 : Int32) (p3 : Int32) (p4 : Int32)  (post : Int32 → RH → Prop) : ∀ (n : Nat) (a3 : RH) (x5 : Int32) (x6 : Int32) {H : Heap} {locs : List Loc} {ls : Array Slot}, WP z G ad (σ, ν, a3, lo) H → va_S (Az z) s.heap H locs → lv_has ls 7 [(0, .ref (ad 30 0)), (5, .int x5), (6, .int x6)] → wX7_lays_77 p1 p2 p3 p4 post n a3 x5 x6 → W p l e ({ frames := 0, cells := 0, slots := 0, locals := 0 } : Room) s m args below meth c H locs 0 0 (MQ below (Qis z G ad (fun r S1 => ∃ t : RH, S1 = (σ, ν, t, lo) ∧ post r t)) args s 0 0 (Az z)) (F0 m 77 ls []) := by
  obtain ⟨hx, hb, hr, hml, hown, hts, hlocks, hE, hz⟩ := id X
  intro n
  induction n with
  | zero =>
    intro a3 x5 x6 H locs ls hW hS hl h
    exact absurd h id
  | succ n ih =>
    intro a3 x5 x6 H locs ls hW hS hl h
    unfold wX7_lays_77 at h
    refine lv_iload hx hb dX7_lays_77 (lv_at hl 2 rfl) ?_
    refine lv_iconst (v := (4 : Int32)) hx hb dX7_lays_79 (by decide) ?_
    refine r_icmp_ge hx hb rfl (show (4 : Int32).toInt = 4 by decide) (tgt := 127) dX7_lays_80 (by decide) (fun c22 => ?_) (fun c22 => ?_)
    · have h := ite_f c22 h
      refine lv_aload_n hx hb dX7_lays_127 rfl (lv_at hl 0 rfl) ?_
      refine r_get (C := RX7) (T := TX7) (N := 49) (ci := 10) (fs := fl_30 ad ν a3 0 (σ 30 0)) hx hb hts hown hE hW 30 0 rfl rfl rfl (fun w h => List.mem_cons_of_mem _ (List.mem_append_right _ h)) 22 (by decide) (List.mem_of_getElem? (i := 16) rfl) rfl (v := .ref (ad 122 0)) rfl dX7_lays_128 ?_
      refine lv_iload hx hb dX7_lays_131 (lv_at hl 1 rfl) ?_
      refine lv_aload_n hx hb dX7_lays_133 rfl (lv_at hl 0 rfl) ?_
      refine r_get (C := RX7) (T := TX7) (N := 49) (ci := 10) (fs := fl_30 ad ν a3 0 (σ 30 0)) hx hb hts hown hE hW 30 0 rfl rfl rfl (fun w h => List.mem_cons_of_mem _ (List.mem_append_right _ h)) 3 (by decide) (List.mem_of_getElem? (i := 17) rfl) rfl (v := .int (a3 3 0)) rfl dX7_lays_134 ?_
      obtain ⟨b23, h⟩ := h
      refine r_iastM hx hb hE hW hS 22 (k := 122) rfl ⟨rfl, by decide, by decide⟩ (n := 40) (fun _ => rfl) (fun t q => by simp [fl_30, q]) b23 dX7_lays_137 (fun t24 e25 H locs hW hS => ?_)
      have h := h t24 e25
      refine lv_aload_n hx hb dX7_lays_138 rfl (lv_at hl 0 rfl) ?_
      refine r_get (C := RX7) (T := TX7) (N := 49) (ci := 10) (fs := fl_30 ad ν t24 0 (σ 30 0)) hx hb hts hown hE hW 30 0 rfl rfl rfl (fun w h => List.mem_cons_of_mem _ (List.mem_append_right _ h)) 23 (by decide) (List.mem_of_getElem? (i := 18) rfl) rfl (v := .ref (ad 123 0)) rfl dX7_lays_139 ?_
      refine lv_iload hx hb dX7_lays_142 (lv_at hl 1 rfl) ?_
      refine lv_aload_n hx hb dX7_lays_144 rfl (lv_at hl 0 rfl) ?_
      refine r_get (C := RX7) (T := TX7) (N := 49) (ci := 10) (fs := fl_30 ad ν t24 0 (σ 30 0)) hx hb hts hown hE hW 30 0 rfl rfl rfl (fun w h => List.mem_cons_of_mem _ (List.mem_append_right _ h)) 4 (by decide) (List.mem_of_getElem? (i := 19) rfl) rfl (v := .int (t24 4 0)) rfl dX7_lays_145 ?_
      obtain ⟨b26, h⟩ := h
      refine r_iastM hx hb hE hW hS 23 (k := 123) rfl ⟨rfl, by decide, by decide⟩ (n := 40) (fun _ => rfl) (fun t q => by simp [fl_30, q]) b26 dX7_lays_148 (fun t27 e28 H locs hW hS => ?_)
      have h := h t27 e28
      refine lv_aload_n hx hb dX7_lays_149 rfl (lv_at hl 0 rfl) ?_
      refine r_get (C := RX7) (T := TX7) (N := 49) (ci := 10) (fs := fl_30 ad ν t27 0 (σ 30 0)) hx hb hts hown hE hW 30 0 rfl rfl rfl (fun w h => List.mem_cons_of_mem _ (List.mem_append_right _ h)) 24 (by decide) (List.mem_of_getElem? (i := 20) rfl) rfl (v := .ref (ad 124 0)) rfl dX7_lays_150 ?_
      refine lv_iload hx hb dX7_lays_153 (lv_at hl 1 rfl) ?_
      refine lv_aload_n hx hb dX7_lays_155 rfl (lv_at hl 0 rfl) ?_
      refine r_get (C := RX7) (T := TX7) (N := 49) (ci := 10) (fs := fl_30 ad ν t27 0 (σ 30 0)) hx hb hts hown hE hW 30 0 rfl rfl rfl (fun w h => List.mem_cons_of_mem _ (List.mem_append_right _ h)) 5 (by decide) (List.mem_of_getElem? (i := 21) rfl) rfl (v := .int (t27 5 0)) rfl dX7_lays_156 ?_
      obtain ⟨b29, h⟩ := h
      refine r_iastM hx hb hE hW hS 24 (k := 124) rfl ⟨rfl, by decide, by decide⟩ (n := 40) (fun _ => rfl) (fun t q => by simp [fl_30, q]) b29 dX7_lays_159 (fun t30 e31 H locs hW hS => ?_)
      have h := h t30 e31
      refine lv_aload_n hx hb dX7_lays_160 rfl (lv_at hl 0 rfl) ?_
      refine r_get (C := RX7) (T := TX7) (N := 49) (ci := 10) (fs := fl_30 ad ν t30 0 (σ 30 0)) hx hb hts hown hE hW 30 0 rfl rfl rfl (fun w h => List.mem_cons_of_mem _ (List.mem_append_right _ h)) 25 (by decide) (List.mem_of_getElem? (i := 22) rfl) rfl (v := .ref (ad 125 0)) rfl dX7_lays_161 ?_
      refine lv_iload hx hb dX7_lays_164 (lv_at hl 1 rfl) ?_
      refine lv_aload_n hx hb dX7_lays_166 rfl (lv_at hl 0 rfl) ?_
      refine r_get (C := RX7) (T := TX7) (N := 49) (ci := 10) (fs := fl_30 ad ν t30 0 (σ 30 0)) hx hb hts hown hE hW 30 0 rfl rfl rfl (fun w h => List.mem_cons_of_mem _ (List.mem_append_right _ h)) 6 (by decide) (List.mem_of_getElem? (i := 23) rfl) rfl (v := .int (t30 6 0)) rfl dX7_lays_167 ?_
      obtain ⟨b32, h⟩ := h
      refine r_iastM hx hb hE hW hS 25 (k := 125) rfl ⟨rfl, by decide, by decide⟩ (n := 40) (fun _ => rfl) (fun t q => by simp [fl_30, q]) b32 dX7_lays_170 (fun t33 e34 H locs hW hS => ?_)
      have h := h t33 e34
      refine lv_aload_n hx hb dX7_lays_171 rfl (lv_at hl 0 rfl) ?_
      refine r_get (C := RX7) (T := TX7) (N := 49) (ci := 10) (fs := fl_30 ad ν t33 0 (σ 30 0)) hx hb hts hown hE hW 30 0 rfl rfl rfl (fun w h => List.mem_cons_of_mem _ (List.mem_append_right _ h)) 26 (by decide) (List.mem_of_getElem? (i := 24) rfl) rfl (v := .ref (ad 126 0)) rfl dX7_lays_172 ?_
      refine lv_iload hx hb dX7_lays_175 (lv_at hl 1 rfl) ?_
      refine lv_iconst (v := (-1 : Int32)) hx hb dX7_lays_177 (by decide) ?_
      obtain ⟨b35, h⟩ := h
      refine r_iastM hx hb hE hW hS 26 (k := 126) rfl ⟨rfl, by decide, by decide⟩ (n := 40) (fun _ => rfl) (fun t q => by simp [fl_30, q]) b35 dX7_lays_178 (fun t36 e37 H locs hW hS => ?_)
      have h := h t36 e37
      refine lv_aload_n hx hb dX7_lays_179 rfl (lv_at hl 0 rfl) ?_
      refine r_get (C := RX7) (T := TX7) (N := 49) (ci := 10) (fs := fl_30 ad ν t36 0 (σ 30 0)) hx hb hts hown hE hW 30 0 rfl rfl rfl (fun w h => List.mem_cons_of_mem _ (List.mem_append_right _ h)) 28 (by decide) (List.mem_of_getElem? (i := 25) rfl) rfl (v := .ref (ad 128 0)) rfl dX7_lays_180 ?_
      refine lv_iload hx hb dX7_lays_183 (lv_at hl 1 rfl) ?_
      refine lv_iconst (v := (-1 : Int32)) hx hb dX7_lays_185 (by decide) ?_
      obtain ⟨b38, h⟩ := h
      refine r_iastM hx hb hE hW hS 28 (k := 128) rfl ⟨rfl, by decide, by decide⟩ (n := 40) (fun _ => rfl) (fun t q => by simp [fl_30, q]) b38 dX7_lays_186 (fun t39 e40 H locs hW hS => ?_)
      have h := h t39 e40
      refine lv_aload_n hx hb dX7_lays_187 rfl (lv_at hl 0 rfl) ?_
      refine r_get (C := RX7) (T := TX7) (N := 49) (ci := 10) (fs := fl_30 ad ν t39 0 (σ 30 0)) hx hb hts hown hE hW 30 0 rfl rfl rfl (fun w h => List.mem_cons_of_mem _ (List.mem_append_right _ h)) 30 (by decide) (List.mem_of_getElem? (i := 26) rfl) rfl (v := .ref (ad 130 0)) rfl dX7_lays_188 ?_
      refine lv_iload hx hb dX7_lays_191 (lv_at hl 1 rfl) ?_
      refine lv_iconst (v := (-1 : Int32)) hx hb dX7_lays_193 (by decide) ?_
      obtain ⟨b41, h⟩ := h
      refine r_iastM hx hb hE hW hS 30 (k := 130) rfl ⟨rfl, by decide, by decide⟩ (n := 40) (fun _ => rfl) (fun t q => by simp [fl_30, q]) b41 dX7_lays_194 (fun t42 e43 H locs hW hS => ?_)
      have h := h t42 e43
      refine lv_aload_n hx hb dX7_lays_195 rfl (lv_at hl 0 rfl) ?_
      refine lv_iconst (v := (0 : Int32)) hx hb dX7_lays_196 (by decide) ?_
      refine r_putM hx hb hts hown hE hW hS (fun w h => List.mem_cons_of_mem _ (List.mem_append_right _ h)) 7 (by decide) (List.mem_of_getElem? (i := 9) rfl) rfl rfl rfl (x := (0 : Int32)) rfl rfl dX7_lays_197 (fun t44 e45 H locs hW hS => ?_)
      have h := h t44 e45
      refine lv_aload_n hx hb dX7_lays_200 rfl (lv_at hl 0 rfl) ?_
      refine lv_iconst (v := (0 : Int32)) hx hb dX7_lays_201 (by decide) ?_
      refine r_putM hx hb hts hown hE hW hS (fun w h => List.mem_cons_of_mem _ (List.mem_append_right _ h)) 9 (by decide) (List.mem_of_getElem? (i := 11) rfl) rfl rfl rfl (x := (0 : Int32)) rfl rfl dX7_lays_202 (fun t46 e47 H locs hW hS => ?_)
      have h := h t46 e47
      refine lv_aload_n hx hb dX7_lays_205 rfl (lv_at hl 0 rfl) ?_
      refine lv_dup hx hb dX7_lays_206 rfl ?_
      refine r_get (C := RX7) (T := TX7) (N := 49) (ci := 10) (fs := fl_30 ad ν t46 0 (σ 30 0)) hx hb hts hown hE hW 30 0 rfl rfl rfl (fun w h => List.mem_cons_of_mem _ (List.mem_append_right _ h)) 11 (by decide) (List.mem_of_getElem? (i := 1) rfl) rfl (v := .int (t46 11 0)) rfl dX7_lays_207 ?_
      refine lv_iconst (v := (1 : Int32)) hx hb dX7_lays_210 (by decide) ?_
      refine lv_iadd hx hb dX7_lays_211 ?_
      refine r_putM hx hb hts hown hE hW hS (fun w h => List.mem_cons_of_mem _ (List.mem_append_right _ h)) 11 (by decide) (List.mem_of_getElem? (i := 1) rfl) rfl rfl rfl (x := (t46 11 0) + ((1 : Int32))) rfl rfl dX7_lays_212 (fun t48 e49 H locs hW hS => ?_)
      have h := h t48 e49
      refine lv_iload hx hb dX7_lays_215 (lv_at hl 1 rfl) ?_
      exact W.iret (v := x5) hx hb hr (fun t ht _ => ⟨⟨_, (σ, ν, t48, lo), rfl, ⟨_, rfl, h⟩, WP.at9 ht hW⟩, hS.F ht⟩) hS.2.2 dX7_lays_217 (hlocks := hlocks)
    · have h := ite_t c22 h
      refine lv_aload_n hx hb dX7_lays_83 rfl (lv_at hl 0 rfl) ?_
      refine r_get (C := RX7) (T := TX7) (N := 49) (ci := 10) (fs := fl_30 ad ν a3 0 (σ 30 0)) hx hb hts hown hE hW 30 0 rfl rfl rfl (fun w h => List.mem_cons_of_mem _ (List.mem_append_right _ h)) 19 (by decide) (List.mem_of_getElem? (i := 12) rfl) rfl (v := .ref (ad 119 0)) rfl dX7_lays_84 ?_
      refine lv_iconst (v := (4 : Int32)) hx hb dX7_lays_87 (by decide) ?_
      refine lv_iload hx hb dX7_lays_88 (lv_at hl 1 rfl) ?_
      refine lv_imul hx hb dX7_lays_90 ?_
      refine lv_iload hx hb dX7_lays_91 (lv_at hl 2 rfl) ?_
      refine lv_iadd hx hb dX7_lays_93 ?_
      refine lv_aload_n hx hb dX7_lays_94 rfl (lv_at hl 0 rfl) ?_
      refine r_get (C := RX7) (T := TX7) (N := 49) (ci := 10) (fs := fl_30 ad ν a3 0 (σ 30 0)) hx hb hts hown hE hW 30 0 rfl rfl rfl (fun w h => List.mem_cons_of_mem _ (List.mem_append_right _ h)) 8 (by decide) (List.mem_of_getElem? (i := 13) rfl) rfl (v := .ref (ad 108 0)) rfl dX7_lays_95 ?_
      refine lv_iload hx hb dX7_lays_98 (lv_at hl 2 rfl) ?_
      obtain ⟨b50, h⟩ := h
      refine r_iald hx hb hE hW 108 0 ⟨rfl, by decide, by decide⟩ (n := 4) (f := a3 8) rfl b50 (v := a3 8 x6.toNatClampNeg) rfl dX7_lays_100 ?_
      obtain ⟨b51, h⟩ := h
      refine r_iastM hx hb hE hW hS 19 (k := 119) rfl ⟨rfl, by decide, by decide⟩ (n := 160) (fun _ => rfl) (fun t q => by simp [fl_30, q]) b51 dX7_lays_101 (fun t52 e53 H locs hW hS => ?_)
      have h := h t52 e53
      refine lv_aload_n hx hb dX7_lays_102 rfl (lv_at hl 0 rfl) ?_
      refine r_get (C := RX7) (T := TX7) (N := 49) (ci := 10) (fs := fl_30 ad ν t52 0 (σ 30 0)) hx hb hts hown hE hW 30 0 rfl rfl rfl (fun w h => List.mem_cons_of_mem _ (List.mem_append_right _ h)) 21 (by decide) (List.mem_of_getElem? (i := 14) rfl) rfl (v := .ref (ad 121 0)) rfl dX7_lays_103 ?_
      refine lv_iconst (v := (4 : Int32)) hx hb dX7_lays_106 (by decide) ?_
      refine lv_iload hx hb dX7_lays_107 (lv_at hl 1 rfl) ?_
      refine lv_imul hx hb dX7_lays_109 ?_
      refine lv_iload hx hb dX7_lays_110 (lv_at hl 2 rfl) ?_
      refine lv_iadd hx hb dX7_lays_112 ?_
      refine lv_aload_n hx hb dX7_lays_113 rfl (lv_at hl 0 rfl) ?_
      refine r_get (C := RX7) (T := TX7) (N := 49) (ci := 10) (fs := fl_30 ad ν t52 0 (σ 30 0)) hx hb hts hown hE hW 30 0 rfl rfl rfl (fun w h => List.mem_cons_of_mem _ (List.mem_append_right _ h)) 10 (by decide) (List.mem_of_getElem? (i := 15) rfl) rfl (v := .ref (ad 110 0)) rfl dX7_lays_114 ?_
      refine lv_iload hx hb dX7_lays_117 (lv_at hl 2 rfl) ?_
      obtain ⟨b54, h⟩ := h
      refine r_iald hx hb hE hW 110 0 ⟨rfl, by decide, by decide⟩ (n := 4) (f := t52 10) rfl b54 (v := t52 10 x6.toNatClampNeg) rfl dX7_lays_119 ?_
      obtain ⟨b55, h⟩ := h
      refine r_iastM hx hb hE hW hS 21 (k := 121) rfl ⟨rfl, by decide, by decide⟩ (n := 160) (fun _ => rfl) (fun t q => by simp [fl_30, q]) b55 dX7_lays_120 (fun t56 e57 H locs hW hS => ?_)
      have h := h t56 e57
      refine lv_iinc (v := x6 + (1 : Int32)) (lv' := [(6, .int (x6 + (1 : Int32))), (0, .ref (ad 30 0)), (5, .int x5)]) hx hb dX7_lays_121 hl (k := 2) rfl rfl (by decide) rfl (fun ls hl => ?_)
      refine lv_goto (tgt := 77) hx hb dX7_lays_124 (by decide) ?_
      exact ih t56 x5 (x6 + (1 : Int32)) hW hS (lv_sub hl [1, 2, 0] rfl) h
set_option maxHeartbeats 4000000 in
set_option maxRecDepth 100000 in
theorem mtX7_lays (l : Launch) (z : Nat) (G : Gl) (ad : Nat → Nat → Nat) (σ : SG) (ν : NU) (ρ : RH) (lo : Int64) (p1 : Int32) (p2 : Int32) (p3 : Int32) (p4 : Int32) (post : Int32 → RH → Prop) (h : wpX7_lays ρ p1 p2 p3 p4 post) : Met l yX7_lays wsX7_lays ({ frames := 0, cells := 0, slots := 0, locals := 0 } : Room) (Pcs z G ad (σ, ν, ρ, lo) [.ref (ad 30 0), .int p1, .int p2, .int p3, .int p4]) (Qis z G ad (fun r S1 => ∃ t : RH, S1 = (σ, ν, t, lo) ∧ post r t)) 0 0 (Az z) := by
  refine Met.ofW (cc := cX7_lays) (maxL := 7) (ret := (some .int)) (by decide) rfl ?_
  intro p e s m args below meth c s₁ B hml hv
  obtain ⟨rfl, hz, hW, hE⟩ := hv
  have hx := B.exec
  have hb := B.bytes
  have hr := B.returns
  have hts := atoms_spec (ws := wsX7_lays) B.pre
  have hown : s.vm.findClass RX7 = some m.cls := findClass_of_methodNamed B.named
  have hlocks := B.notSynchronized
  have X : Cx p l e s m _ below meth c cX7_lays (some .int) 7 RX7 wsX7_lays z G := ⟨hx, hb, hr, hml, hown, hts, hlocks, hE, hz⟩
  have hS : va_S (Az z) s.heap s.heap [] := va_S.rf
  have hl := lv_entry [.ref (ad 30 0), .int p1, .int p2, .int p3, .int p4] (n := 7) (Nat.le_of_ble_eq_true rfl)
  rw [lg_entry_eq]
  generalize (lg_sl [.ref (ad 30 0), .int p1, .int p2, .int p3, .int p4] ++ List.replicate (7 - (lg_sl [.ref (ad 30 0), .int p1, .int p2, .int p3, .int p4]).length) Slot.unset).toArray = ls at hl ⊢
  have hl : lv_has ls 7 [(0, .ref (ad 30 0)), (1, .int p1), (2, .int p2), (3, .int p3), (4, .int p4)] := hl
  unfold wpX7_lays at h
  refine lv_aload_n hx hb dX7_lays_0 rfl (lv_at hl 0 rfl) ?_
  refine r_get (C := RX7) (T := TX7) (N := 49) (ci := 10) (fs := fl_30 ad ν ρ 0 (σ 30 0)) hx hb hts hown hE hW 30 0 rfl rfl rfl (fun w h => List.mem_cons_of_mem _ (List.mem_append_right _ h)) 11 (by decide) (List.mem_of_getElem? (i := 1) rfl) rfl (v := .int (ρ 11 0)) rfl dX7_lays_1 ?_
  refine lv_istore (lv' := [(5, .int (ρ 11 0)), (0, .ref (ad 30 0)), (1, .int p1), (2, .int p2), (3, .int p3), (4, .int p4)]) hx hb dX7_lays_4 hl (by decide) rfl (fun ls hl => ?_)
  refine lv_aload_n hx hb dX7_lays_6 rfl (lv_at hl 1 rfl) ?_
  refine r_get (C := RX7) (T := TX7) (N := 49) (ci := 10) (fs := fl_30 ad ν ρ 0 (σ 30 0)) hx hb hts hown hE hW 30 0 rfl rfl rfl (fun w h => List.mem_cons_of_mem _ (List.mem_append_right _ h)) 13 (by decide) (List.mem_of_getElem? (i := 2) rfl) rfl (v := .ref (ad 113 0)) rfl dX7_lays_7 ?_
  refine lv_iload hx hb dX7_lays_10 (lv_at hl 0 rfl) ?_
  refine lv_iload_n hx hb dX7_lays_12 rfl (lv_at hl 2 rfl) ?_
  obtain ⟨b1, h⟩ := h
  refine r_iastM hx hb hE hW hS 13 (k := 113) rfl ⟨rfl, by decide, by decide⟩ (n := 40) (fun _ => rfl) (fun t q => by simp [fl_30, q]) b1 dX7_lays_13 (fun t2 e3 H locs hW hS => ?_)
  have h := h t2 e3
  refine lv_aload_n hx hb dX7_lays_14 rfl (lv_at hl 1 rfl) ?_
  refine r_get (C := RX7) (T := TX7) (N := 49) (ci := 10) (fs := fl_30 ad ν t2 0 (σ 30 0)) hx hb hts hown hE hW 30 0 rfl rfl rfl (fun w h => List.mem_cons_of_mem _ (List.mem_append_right _ h)) 14 (by decide) (List.mem_of_getElem? (i := 3) rfl) rfl (v := .ref (ad 114 0)) rfl dX7_lays_15 ?_
  refine lv_iload hx hb dX7_lays_18 (lv_at hl 0 rfl) ?_
  refine lv_aload_n hx hb dX7_lays_20 rfl (lv_at hl 1 rfl) ?_
  refine r_get (C := RX7) (T := TX7) (N := 49) (ci := 10) (fs := fl_30 ad ν t2 0 (σ 30 0)) hx hb hts hown hE hW 30 0 rfl rfl rfl (fun w h => List.mem_cons_of_mem _ (List.mem_append_right _ h)) 1 (by decide) (List.mem_of_getElem? (i := 4) rfl) rfl (v := .int (t2 1 0)) rfl dX7_lays_21 ?_
  refine lv_iconst (v := (1 : Int32)) hx hb dX7_lays_24 (by decide) ?_
  refine lv_isub hx hb dX7_lays_25 ?_
  obtain ⟨b4, h⟩ := h
  refine r_iastM hx hb hE hW hS 14 (k := 114) rfl ⟨rfl, by decide, by decide⟩ (n := 40) (fun _ => rfl) (fun t q => by simp [fl_30, q]) b4 dX7_lays_26 (fun t5 e6 H locs hW hS => ?_)
  have h := h t5 e6
  refine lv_aload_n hx hb dX7_lays_27 rfl (lv_at hl 1 rfl) ?_
  refine r_get (C := RX7) (T := TX7) (N := 49) (ci := 10) (fs := fl_30 ad ν t5 0 (σ 30 0)) hx hb hts hown hE hW 30 0 rfl rfl rfl (fun w h => List.mem_cons_of_mem _ (List.mem_append_right _ h)) 15 (by decide) (List.mem_of_getElem? (i := 5) rfl) rfl (v := .ref (ad 115 0)) rfl dX7_lays_28 ?_
  refine lv_iload hx hb dX7_lays_31 (lv_at hl 0 rfl) ?_
  refine lv_iload_n hx hb dX7_lays_33 rfl (lv_at hl 3 rfl) ?_
  obtain ⟨b7, h⟩ := h
  refine r_iastM hx hb hE hW hS 15 (k := 115) rfl ⟨rfl, by decide, by decide⟩ (n := 40) (fun _ => rfl) (fun t q => by simp [fl_30, q]) b7 dX7_lays_34 (fun t8 e9 H locs hW hS => ?_)
  have h := h t8 e9
  refine lv_aload_n hx hb dX7_lays_35 rfl (lv_at hl 1 rfl) ?_
  refine r_get (C := RX7) (T := TX7) (N := 49) (ci := 10) (fs := fl_30 ad ν t8 0 (σ 30 0)) hx hb hts hown hE hW 30 0 rfl rfl rfl (fun w h => List.mem_cons_of_mem _ (List.mem_append_right _ h)) 16 (by decide) (List.mem_of_getElem? (i := 6) rfl) rfl (v := .ref (ad 116 0)) rfl dX7_lays_36 ?_
  refine lv_iload hx hb dX7_lays_39 (lv_at hl 0 rfl) ?_
  refine lv_iload_n hx hb dX7_lays_41 rfl (lv_at hl 4 rfl) ?_
  obtain ⟨b10, h⟩ := h
  refine r_iastM hx hb hE hW hS 16 (k := 116) rfl ⟨rfl, by decide, by decide⟩ (n := 40) (fun _ => rfl) (fun t q => by simp [fl_30, q]) b10 dX7_lays_42 (fun t11 e12 H locs hW hS => ?_)
  have h := h t11 e12
  refine lv_aload_n hx hb dX7_lays_43 rfl (lv_at hl 1 rfl) ?_
  refine r_get (C := RX7) (T := TX7) (N := 49) (ci := 10) (fs := fl_30 ad ν t11 0 (σ 30 0)) hx hb hts hown hE hW 30 0 rfl rfl rfl (fun w h => List.mem_cons_of_mem _ (List.mem_append_right _ h)) 17 (by decide) (List.mem_of_getElem? (i := 7) rfl) rfl (v := .ref (ad 117 0)) rfl dX7_lays_44 ?_
  refine lv_iload hx hb dX7_lays_47 (lv_at hl 0 rfl) ?_
  refine lv_iload hx hb dX7_lays_49 (lv_at hl 5 rfl) ?_
  obtain ⟨b13, h⟩ := h
  refine r_iastM hx hb hE hW hS 17 (k := 117) rfl ⟨rfl, by decide, by decide⟩ (n := 40) (fun _ => rfl) (fun t q => by simp [fl_30, q]) b13 dX7_lays_51 (fun t14 e15 H locs hW hS => ?_)
  have h := h t14 e15
  refine lv_aload_n hx hb dX7_lays_52 rfl (lv_at hl 1 rfl) ?_
  refine r_get (C := RX7) (T := TX7) (N := 49) (ci := 10) (fs := fl_30 ad ν t14 0 (σ 30 0)) hx hb hts hown hE hW 30 0 rfl rfl rfl (fun w h => List.mem_cons_of_mem _ (List.mem_append_right _ h)) 18 (by decide) (List.mem_of_getElem? (i := 8) rfl) rfl (v := .ref (ad 118 0)) rfl dX7_lays_53 ?_
  refine lv_iload hx hb dX7_lays_56 (lv_at hl 0 rfl) ?_
  refine lv_aload_n hx hb dX7_lays_58 rfl (lv_at hl 1 rfl) ?_
  refine r_get (C := RX7) (T := TX7) (N := 49) (ci := 10) (fs := fl_30 ad ν t14 0 (σ 30 0)) hx hb hts hown hE hW 30 0 rfl rfl rfl (fun w h => List.mem_cons_of_mem _ (List.mem_append_right _ h)) 7 (by decide) (List.mem_of_getElem? (i := 9) rfl) rfl (v := .int (t14 7 0)) rfl dX7_lays_59 ?_
  obtain ⟨b16, h⟩ := h
  refine r_iastM hx hb hE hW hS 18 (k := 118) rfl ⟨rfl, by decide, by decide⟩ (n := 40) (fun _ => rfl) (fun t q => by simp [fl_30, q]) b16 dX7_lays_62 (fun t17 e18 H locs hW hS => ?_)
  have h := h t17 e18
  refine lv_aload_n hx hb dX7_lays_63 rfl (lv_at hl 1 rfl) ?_
  refine r_get (C := RX7) (T := TX7) (N := 49) (ci := 10) (fs := fl_30 ad ν t17 0 (σ 30 0)) hx hb hts hown hE hW 30 0 rfl rfl rfl (fun w h => List.mem_cons_of_mem _ (List.mem_append_right _ h)) 20 (by decide) (List.mem_of_getElem? (i := 10) rfl) rfl (v := .ref (ad 120 0)) rfl dX7_lays_64 ?_
  refine lv_iload hx hb dX7_lays_67 (lv_at hl 0 rfl) ?_
  refine lv_aload_n hx hb dX7_lays_69 rfl (lv_at hl 1 rfl) ?_
  refine r_get (C := RX7) (T := TX7) (N := 49) (ci := 10) (fs := fl_30 ad ν t17 0 (σ 30 0)) hx hb hts hown hE hW 30 0 rfl rfl rfl (fun w h => List.mem_cons_of_mem _ (List.mem_append_right _ h)) 9 (by decide) (List.mem_of_getElem? (i := 11) rfl) rfl (v := .int (t17 9 0)) rfl dX7_lays_70 ?_
  obtain ⟨b19, h⟩ := h
  refine r_iastM hx hb hE hW hS 20 (k := 120) rfl ⟨rfl, by decide, by decide⟩ (n := 40) (fun _ => rfl) (fun t q => by simp [fl_30, q]) b19 dX7_lays_73 (fun t20 e21 H locs hW hS => ?_)
  have h := h t20 e21
  refine lv_iconst (v := (0 : Int32)) hx hb dX7_lays_74 (by decide) ?_
  refine lv_istore (lv' := [(6, .int ((0 : Int32))), (5, .int (ρ 11 0)), (0, .ref (ad 30 0)), (1, .int p1), (2, .int p2), (3, .int p3), (4, .int p4)]) hx hb dX7_lays_75 hl (by decide) rfl (fun ls hl => ?_)
  obtain ⟨n58, h⟩ := h
  exact tX7_lays_77 (σ := σ) (ρ := ρ) X p1 p2 p3 p4 post  n58 t20 (ρ 11 0) ((0 : Int32)) hW hS (lv_sub hl [2, 1, 0] rfl) h
set_option maxHeartbeats 4000000 in
set_option maxRecDepth 100000 in
theorem tX7_enact_58 {p : Program} {l : Launch} {e : Env} {s : State} {m : MethodId} {args : Array Value} {below : List Frame} {meth : Method} {c : Code} {z : Nat} {G : Gl} {ad : Nat → Nat → Nat} {σ : SG} {ν : NU} {ρ : RH} {lo : Int64} (X : Cx p l e s m args below meth c cX7_enact (some .int) 5 RX7 wsX7_enact z G) (p1 : Int32) (p2 : Int32) (p3 : Int32)  (post : Int32 → RH → Prop) : ∀ (a3 : RH) (y0 : Nat) (y1 : Int32) {H : Heap} {locs : List Loc} {ls : Array Slot}, WP z G ad (σ, ν, a3, lo) H → va_S (Az z) s.heap H locs → lv_has ls 5 [(0, .ref (ad 30 0)), (1, .int p1), (2, .int p2), (3, .int p3)] → jX7_enact_58 p1 p2 p3 post a3 y0 y1 → W p l e ({ frames := 2, cells := 0, slots := 0, locals := 43 } : Room) s m args below meth c H locs 0 0 (MQ below (Qis z G ad (fun r S1 => ∃ t : RH, S1 = (σ, ν, t, lo) ∧ post r t)) args s 0 0 (Az z)) (F0 m 58 ls [.int y1, .ref (ad 30 0)]) := by
  obtain ⟨hx, hb, hr, hml, hown, hts, hlocks, hE, hz⟩ := id X
  intro a3 y0 y1 H locs ls hW hS hl h
  unfold jX7_enact_58 at h
  refine k_Vi (rest := []) (As := [.int y1]) ⟨hx, hb, hml, hown, hts⟩ hE hz hS hW (mtX7_goes l z G ad σ ν a3 lo y1 _ h) (cwV 1 hts gX7_enact_X7_goes rfl rfl rfl (by decide +kernel) ⟨Nat.le_of_ble_eq_true rfl, Nat.le_of_ble_eq_true rfl⟩) (r_recv hE hW 30 0 rfl (ci := 10) rfl rfl) rfl hl.1 rfl (Nat.le_of_ble_eq_true rfl) dX7_enact_58 ⟨Nat.le_of_ble_eq_true rfl, Nat.le_of_ble_eq_true rfl⟩ (fun r6 S1 H locs hp hW hS => ?_)
  obtain ⟨t7, rfl, h⟩ := hp
  refine r_if_ne hx hb rfl (tgt := 66) dX7_enact_61 (by decide) (fun c8 => ?_) (fun c8 => ?_)
  · have h := ite_f c8 h
    refine lv_aload_n hx hb dX7_enact_66 rfl (lv_at hl 0 rfl) ?_
    refine lv_iconst (v := (0 : Int32)) hx hb dX7_enact_67 (by decide) ?_
    refine lv_aload_n hx hb dX7_enact_68 rfl (lv_at hl 0 rfl) ?_
    refine r_get (C := RX7) (T := TX7) (N := 49) (ci := 10) (fs := fl_30 ad ν t7 0 (σ 30 0)) hx hb hts hown hE hW 30 0 rfl rfl rfl (fun w h => List.mem_cons_of_mem _ (List.mem_append_right _ h)) 12 (by decide) (List.mem_of_getElem? (i := 1) rfl) rfl (v := .int (t7 12 0)) rfl dX7_enact_69 ?_
    refine lv_iload_n hx hb dX7_enact_72 rfl (lv_at hl 1 rfl) ?_
    refine lv_sipush (v := (1000 : Int32)) hx hb dX7_enact_73 (by decide) ?_
    refine lv_iload_n hx hb dX7_enact_76 rfl (lv_at hl 2 rfl) ?_
    refine lv_imul hx hb dX7_enact_77 ?_
    refine lv_iload_n hx hb dX7_enact_78 rfl (lv_at hl 3 rfl) ?_
    refine lv_iadd hx hb dX7_enact_79 ?_
    refine k_Vi (rest := []) (As := [.int ((0 : Int32)), .int (t7 12 0), .int p1, .int ((((1000 : Int32)) * p2) + p3)]) ⟨hx, hb, hml, hown, hts⟩ hE hz hS hW (mtX7_lays l z G ad σ ν t7 lo ((0 : Int32)) (t7 12 0) p1 ((((1000 : Int32)) * p2) + p3) _ h) (cwV 4 hts gX7_enact_X7_lays rfl rfl rfl (by decide +kernel) ⟨Nat.le_of_ble_eq_true rfl, Nat.le_of_ble_eq_true rfl⟩) (r_recv hE hW 30 0 rfl (ci := 10) rfl rfl) rfl hl.1 rfl (Nat.le_of_ble_eq_true rfl) dX7_enact_80 ⟨Nat.le_of_ble_eq_true rfl, Nat.le_of_ble_eq_true rfl⟩ (fun r9 S1 H locs hp hW hS => ?_)
    obtain ⟨t10, rfl, h⟩ := hp
    refine lv_istore (lv' := [(4, .int r9), (0, .ref (ad 30 0)), (1, .int p1), (2, .int p2), (3, .int p3)]) hx hb dX7_enact_83 hl (by decide) rfl (fun ls hl => ?_)
    refine lv_aload_n hx hb dX7_enact_85 rfl (lv_at hl 1 rfl) ?_
    refine lv_dup hx hb dX7_enact_86 rfl ?_
    refine r_get (C := RX7) (T := TX7) (N := 49) (ci := 10) (fs := fl_30 ad ν t10 0 (σ 30 0)) hx hb hts hown hE hW 30 0 rfl rfl rfl (fun w h => List.mem_cons_of_mem _ (List.mem_append_right _ h)) 12 (by decide) (List.mem_of_getElem? (i := 1) rfl) rfl (v := .int (t10 12 0)) rfl dX7_enact_87 ?_
    refine lv_iconst (v := (1 : Int32)) hx hb dX7_enact_90 (by decide) ?_
    refine lv_iadd hx hb dX7_enact_91 ?_
    refine r_putM hx hb hts hown hE hW hS (fun w h => List.mem_cons_of_mem _ (List.mem_append_right _ h)) 12 (by decide) (List.mem_of_getElem? (i := 1) rfl) rfl rfl rfl (x := (t10 12 0) + ((1 : Int32))) rfl rfl dX7_enact_92 (fun t11 e12 H locs hW hS => ?_)
    have h := h t11 e12
    refine lv_aload_n hx hb dX7_enact_95 rfl (lv_at hl 1 rfl) ?_
    refine r_get (C := RX7) (T := TX7) (N := 49) (ci := 10) (fs := fl_30 ad ν t11 0 (σ 30 0)) hx hb hts hown hE hW 30 0 rfl rfl rfl (fun w h => List.mem_cons_of_mem _ (List.mem_append_right _ h)) 12 (by decide) (List.mem_of_getElem? (i := 1) rfl) rfl (v := .int (t11 12 0)) rfl dX7_enact_96 ?_
    refine lv_iconst (v := (1 : Int32)) hx hb dX7_enact_99 (by decide) ?_
    refine lv_isub hx hb dX7_enact_100 ?_
    exact W.iret (v := (t11 12 0) - ((1 : Int32))) hx hb hr (fun t ht _ => ⟨⟨_, (σ, ν, t11, lo), rfl, ⟨_, rfl, h⟩, WP.at9 ht hW⟩, hS.F ht⟩) hS.2.2 dX7_enact_101 (hlocks := hlocks)
  · have h := ite_t c8 h
    refine lv_iconst (v := (0 : Int32)) hx hb dX7_enact_64 (by decide) ?_
    exact W.iret (v := (0 : Int32)) hx hb hr (fun t ht _ => ⟨⟨_, (σ, ν, t7, lo), rfl, ⟨_, rfl, h⟩, WP.at9 ht hW⟩, hS.F ht⟩) hS.2.2 dX7_enact_65 (hlocks := hlocks)
set_option maxHeartbeats 4000000 in
set_option maxRecDepth 100000 in
theorem tX7_enact_18 {p : Program} {l : Launch} {e : Env} {s : State} {m : MethodId} {args : Array Value} {below : List Frame} {meth : Method} {c : Code} {z : Nat} {G : Gl} {ad : Nat → Nat → Nat} {σ : SG} {ν : NU} {ρ : RH} {lo : Int64} (X : Cx p l e s m args below meth c cX7_enact (some .int) 5 RX7 wsX7_enact z G) (p1 : Int32) (p2 : Int32) (p3 : Int32)  (post : Int32 → RH → Prop) : ∀ (a3 : RH) (y0 : Nat) {H : Heap} {locs : List Loc} {ls : Array Slot}, WP z G ad (σ, ν, a3, lo) H → va_S (Az z) s.heap H locs → lv_has ls 5 [(0, .ref (ad 30 0)), (1, .int p1), (2, .int p2), (3, .int p3)] → jX7_enact_18 p1 p2 p3 post a3 y0 → W p l e ({ frames := 2, cells := 0, slots := 0, locals := 43 } : Room) s m args below meth c H locs 0 0 (MQ below (Qis z G ad (fun r S1 => ∃ t : RH, S1 = (σ, ν, t, lo) ∧ post r t)) args s 0 0 (Az z)) (F0 m 18 ls [.ref (ad 30 0)]) := by
  obtain ⟨hx, hb, hr, hml, hown, hts, hlocks, hE, hz⟩ := id X
  intro a3 y0 H locs ls hW hS hl h
  unfold jX7_enact_18 at h
  refine lv_iload_n hx hb dX7_enact_18 rfl (lv_at hl 2 rfl) ?_
  refine lv_iload_n hx hb dX7_enact_19 rfl (lv_at hl 3 rfl) ?_
  refine k_Si (rest := [.ref (ad 30 0)]) (As := [.int p2, .int p3]) ⟨hx, hb, hml, hown, hts⟩ hE hz hS hW (mtX7_isLabel l z G ad σ ν a3 lo p2 p3 _ h) (va_cwS 2 hts gX7_enact_X7_isLabel rfl rfl rfl (by decide +kernel) ⟨Nat.le_of_ble_eq_true rfl, Nat.le_of_ble_eq_true rfl⟩) rfl hl.1 rfl (Nat.le_of_ble_eq_true rfl) dX7_enact_20 ⟨Nat.le_of_ble_eq_true rfl, Nat.le_of_ble_eq_true rfl⟩ (fun r2 S1 H locs hp hW hS => ?_)
  obtain ⟨rfl, h⟩ := hp
  refine r_if_ne hx hb rfl (tgt := 30) dX7_enact_23 (by decide) (fun c3 => ?_) (fun c3 => ?_)
  · have h := ite_f c3 h
    refine lv_aload_n hx hb dX7_enact_30 rfl (lv_at hl 0 rfl) ?_
    refine k_Vi (rest := [.ref (ad 30 0)]) (As := []) ⟨hx, hb, hml, hown, hts⟩ hE hz hS hW (mtX7_isShut l z G ad σ ν a3 lo  _ h) (cwV 0 hts gX7_enact_X7_isShut rfl rfl rfl (by decide +kernel) ⟨Nat.le_of_ble_eq_true rfl, Nat.le_of_ble_eq_true rfl⟩) (r_recv hE hW 30 0 rfl (ci := 10) rfl rfl) rfl hl.1 rfl (Nat.le_of_ble_eq_true rfl) dX7_enact_31 ⟨Nat.le_of_ble_eq_true rfl, Nat.le_of_ble_eq_true rfl⟩ (fun r4 S1 H locs hp hW hS => ?_)
    obtain ⟨rfl, h⟩ := hp
    refine r_if_ne hx hb rfl (tgt := 53) dX7_enact_34 (by decide) (fun c5 => ?_) (fun c5 => ?_)
    · have h := ite_f c5 h
      refine lv_iconst (v := (3 : Int32)) hx hb dX7_enact_53 (by decide) ?_
      refine lv_goto (tgt := 58) hx hb dX7_enact_54 (by decide) ?_
      exact tX7_enact_58 (σ := σ) (ρ := ρ) X p1 p2 p3 post  a3 0 ((3 : Int32)) hW hS (lv_sub hl [0, 1, 2, 3] rfl) h
    · have h := ite_t c5 h
      refine lv_aload_n hx hb dX7_enact_37 rfl (lv_at hl 0 rfl) ?_
      refine r_get (C := RX7) (T := TX7) (N := 49) (ci := 10) (fs := fl_30 ad ν a3 0 (σ 30 0)) hx hb hts hown hE hW 30 0 rfl rfl rfl (fun w h => List.mem_cons_of_mem _ (List.mem_append_right _ h)) 12 (by decide) (List.mem_of_getElem? (i := 1) rfl) rfl (v := .int (a3 12 0)) rfl dX7_enact_38 ?_
      refine lv_bipush (v := (20 : Int32)) hx hb dX7_enact_41 (by decide) ?_
      refine r_icmp_eq hx hb rfl (show (20 : Int32).toInt = 20 by decide) (tgt := 53) dX7_enact_43 (by decide) (fun c13 => ?_) (fun c13 => ?_)
      · have h := ite_t c13 h
        refine lv_iconst (v := (3 : Int32)) hx hb dX7_enact_53 (by decide) ?_
        refine lv_goto (tgt := 58) hx hb dX7_enact_54 (by decide) ?_
        exact tX7_enact_58 (σ := σ) (ρ := ρ) X p1 p2 p3 post  a3 0 ((3 : Int32)) hW hS (lv_sub hl [0, 1, 2, 3] rfl) h
      · have h := ite_f c13 h
        refine lv_aload_n hx hb dX7_enact_46 rfl (lv_at hl 0 rfl) ?_
        refine r_get (C := RX7) (T := TX7) (N := 49) (ci := 10) (fs := fl_30 ad ν a3 0 (σ 30 0)) hx hb hts hown hE hW 30 0 rfl rfl rfl (fun w h => List.mem_cons_of_mem _ (List.mem_append_right _ h)) 7 (by decide) (List.mem_of_getElem? (i := 2) rfl) rfl (v := .int (a3 7 0)) rfl dX7_enact_47 ?_
        refine r_if_le hx hb rfl (tgt := 57) dX7_enact_50 (by decide) (fun c14 => ?_) (fun c14 => ?_)
        · have h := ite_t c14 h
          refine lv_iconst (v := (0 : Int32)) hx hb dX7_enact_57 (by decide) ?_
          exact tX7_enact_58 (σ := σ) (ρ := ρ) X p1 p2 p3 post  a3 0 ((0 : Int32)) hW hS (lv_sub hl [0, 1, 2, 3] rfl) h
        · have h := ite_f c14 h
          refine lv_iconst (v := (3 : Int32)) hx hb dX7_enact_53 (by decide) ?_
          refine lv_goto (tgt := 58) hx hb dX7_enact_54 (by decide) ?_
          exact tX7_enact_58 (σ := σ) (ρ := ρ) X p1 p2 p3 post  a3 0 ((3 : Int32)) hW hS (lv_sub hl [0, 1, 2, 3] rfl) h
  · have h := ite_t c3 h
    refine lv_iconst (v := (2 : Int32)) hx hb dX7_enact_26 (by decide) ?_
    refine lv_goto (tgt := 58) hx hb dX7_enact_27 (by decide) ?_
    exact tX7_enact_58 (σ := σ) (ρ := ρ) X p1 p2 p3 post  a3 0 ((2 : Int32)) hW hS (lv_sub hl [0, 1, 2, 3] rfl) h
set_option maxHeartbeats 4000000 in
set_option maxRecDepth 100000 in
theorem mtX7_enact (l : Launch) (z : Nat) (G : Gl) (ad : Nat → Nat → Nat) (σ : SG) (ν : NU) (ρ : RH) (lo : Int64) (p1 : Int32) (p2 : Int32) (p3 : Int32) (post : Int32 → RH → Prop) (h : wpX7_enact ρ p1 p2 p3 post) : Met l yX7_enact wsX7_enact ({ frames := 2, cells := 0, slots := 0, locals := 43 } : Room) (Pcs z G ad (σ, ν, ρ, lo) [.ref (ad 30 0), .int p1, .int p2, .int p3]) (Qis z G ad (fun r S1 => ∃ t : RH, S1 = (σ, ν, t, lo) ∧ post r t)) 0 0 (Az z) := by
  refine Met.ofW (cc := cX7_enact) (maxL := 5) (ret := (some .int)) (by decide) rfl ?_
  intro p e s m args below meth c s₁ B hml hv
  obtain ⟨rfl, hz, hW, hE⟩ := hv
  have hx := B.exec
  have hb := B.bytes
  have hr := B.returns
  have hts := atoms_spec (ws := wsX7_enact) B.pre
  have hown : s.vm.findClass RX7 = some m.cls := findClass_of_methodNamed B.named
  have hlocks := B.notSynchronized
  have X : Cx p l e s m _ below meth c cX7_enact (some .int) 5 RX7 wsX7_enact z G := ⟨hx, hb, hr, hml, hown, hts, hlocks, hE, hz⟩
  have hS : va_S (Az z) s.heap s.heap [] := va_S.rf
  have hl := lv_entry [.ref (ad 30 0), .int p1, .int p2, .int p3] (n := 5) (Nat.le_of_ble_eq_true rfl)
  rw [lg_entry_eq]
  generalize (lg_sl [.ref (ad 30 0), .int p1, .int p2, .int p3] ++ List.replicate (5 - (lg_sl [.ref (ad 30 0), .int p1, .int p2, .int p3]).length) Slot.unset).toArray = ls at hl ⊢
  have hl : lv_has ls 5 [(0, .ref (ad 30 0)), (1, .int p1), (2, .int p2), (3, .int p3)] := hl
  unfold wpX7_enact at h
  refine lv_aload_n hx hb dX7_enact_0 rfl (lv_at hl 0 rfl) ?_
  refine lv_iload_n hx hb dX7_enact_1 rfl (lv_at hl 1 rfl) ?_
  refine lv_iconst (v := (-1 : Int32)) hx hb dX7_enact_2 (by decide) ?_
  refine r_icmp_eq hx hb rfl (show (-1 : Int32).toInt = (-1) by decide) (tgt := 18) dX7_enact_3 (by decide) (fun c1 => ?_) (fun c1 => ?_)
  · have h := ite_t c1 h
    exact tX7_enact_18 (σ := σ) (ρ := ρ) X p1 p2 p3 post  ρ 0 hW hS (lv_sub hl [0, 1, 2, 3] rfl) h
  · have h := ite_f c1 h
    refine lv_aload_n hx hb dX7_enact_6 rfl (lv_at hl 0 rfl) ?_
    refine lv_iload_n hx hb dX7_enact_7 rfl (lv_at hl 1 rfl) ?_
    refine k_Vi (rest := [.ref (ad 30 0)]) (As := [.int p1]) ⟨hx, hb, hml, hown, hts⟩ hE hz hS hW (mtX7_isProvision l z G ad σ ν ρ lo p1 _ h) (cwV 1 hts gX7_enact_X7_isProvision rfl rfl rfl (by decide +kernel) ⟨Nat.le_of_ble_eq_true rfl, Nat.le_of_ble_eq_true rfl⟩) (r_recv hE hW 30 0 rfl (ci := 10) rfl rfl) rfl hl.1 rfl (Nat.le_of_ble_eq_true rfl) dX7_enact_8 ⟨Nat.le_of_ble_eq_true rfl, Nat.le_of_ble_eq_true rfl⟩ (fun r15 S1 H locs hp hW hS => ?_)
    obtain ⟨rfl, h⟩ := hp
    refine r_if_ne hx hb rfl (tgt := 18) dX7_enact_11 (by decide) (fun c16 => ?_) (fun c16 => ?_)
    · have h := ite_f c16 h
      exact tX7_enact_18 (σ := σ) (ρ := ρ) X p1 p2 p3 post  ρ 0 hW hS (lv_sub hl [0, 1, 2, 3] rfl) h
    · have h := ite_t c16 h
      refine lv_iconst (v := (1 : Int32)) hx hb dX7_enact_14 (by decide) ?_
      refine lv_goto (tgt := 58) hx hb dX7_enact_15 (by decide) ?_
      exact tX7_enact_58 (σ := σ) (ρ := ρ) X p1 p2 p3 post  ρ 0 ((1 : Int32)) hW hS (lv_sub hl [0, 1, 2, 3] rfl) h
set_option maxHeartbeats 4000000 in
set_option maxRecDepth 100000 in
theorem tX7_instruct_195 {p : Program} {l : Launch} {e : Env} {s : State} {m : MethodId} {args : Array Value} {below : List Frame} {meth : Method} {c : Code} {z : Nat} {G : Gl} {ad : Nat → Nat → Nat} {σ : SG} {ν : NU} {ρ : RH} {lo : Int64} (X : Cx p l e s m args below meth c cX7_instruct (some .int) 9 RX7 wsX7_instruct z G) (p1 : Int32) (p2 : Int32) (p3 : Int32) (p4 : Int32)  (post : Int32 → RH → Prop) : ∀ (a3 : RH) (y0 : Nat) (y1 : Int32) {H : Heap} {locs : List Loc} {ls : Array Slot}, WP z G ad (σ, ν, a3, lo) H → va_S (Az z) s.heap H locs → lv_has ls 9 [(0, .ref (ad 30 0)), (1, .int p1), (2, .int p2), (3, .int p3), (4, .int p4)] → jX7_instruct_195 p1 p2 p3 p4 post a3 y0 y1 → W p l e ({ frames := 2, cells := 0, slots := 0, locals := 43 } : Room) s m args below meth c H locs 0 0 (MQ below (Qis z G ad (fun r S1 => ∃ t : RH, S1 = (σ, ν, t, lo) ∧ post r t)) args s 0 0 (Az z)) (F0 m 195 ls [.int y1, .ref (ad 30 0)]) := by
  obtain ⟨hx, hb, hr, hml, hown, hts, hlocks, hE, hz⟩ := id X
  intro a3 y0 y1 H locs ls hW hS hl h
  unfold jX7_instruct_195 at h
  refine k_Vi (rest := []) (As := [.int y1]) ⟨hx, hb, hml, hown, hts⟩ hE hz hS hW (mtX7_goes l z G ad σ ν a3 lo y1 _ h) (cwV 1 hts gX7_instruct_X7_goes rfl rfl rfl (by decide +kernel) ⟨Nat.le_of_ble_eq_true rfl, Nat.le_of_ble_eq_true rfl⟩) (r_recv hE hW 30 0 rfl (ci := 10) rfl rfl) rfl hl.1 rfl (Nat.le_of_ble_eq_true rfl) dX7_instruct_195 ⟨Nat.le_of_ble_eq_true rfl, Nat.le_of_ble_eq_true rfl⟩ (fun r14 S1 H locs hp hW hS => ?_)
  obtain ⟨t15, rfl, h⟩ := hp
  refine r_if_ne hx hb rfl (tgt := 203) dX7_instruct_198 (by decide) (fun c16 => ?_) (fun c16 => ?_)
  · have h := ite_f c16 h
    refine lv_aload_n hx hb dX7_instruct_203 rfl (lv_at hl 0 rfl) ?_
    refine lv_iload_n hx hb dX7_instruct_204 rfl (lv_at hl 1 rfl) ?_
    refine lv_iload_n hx hb dX7_instruct_205 rfl (lv_at hl 2 rfl) ?_
    refine lv_iload_n hx hb dX7_instruct_206 rfl (lv_at hl 3 rfl) ?_
    refine lv_iload_n hx hb dX7_instruct_207 rfl (lv_at hl 1 rfl) ?_
    refine lv_iconst (v := (4 : Int32)) hx hb dX7_instruct_208 (by decide) ?_
    refine r_icmp_ne hx hb rfl (show (4 : Int32).toInt = 4 by decide) (tgt := 223) dX7_instruct_209 (by decide) (fun c17 => ?_) (fun c17 => ?_)
    · have h := ite_f c17 h
      refine lv_iconst (v := (0 : Int32)) hx hb dX7_instruct_223 (by decide) ?_
      refine k_Vi (rest := []) (As := [.int p1, .int p2, .int p3, .int ((0 : Int32))]) ⟨hx, hb, hml, hown, hts⟩ hE hz hS hW (mtX7_lays l z G ad σ ν t15 lo p1 p2 p3 ((0 : Int32)) _ h) (cwV 4 hts gX7_instruct_X7_lays rfl rfl rfl (by decide +kernel) ⟨Nat.le_of_ble_eq_true rfl, Nat.le_of_ble_eq_true rfl⟩) (r_recv hE hW 30 0 rfl (ci := 10) rfl rfl) rfl hl.1 rfl (Nat.le_of_ble_eq_true rfl) dX7_instruct_224 ⟨Nat.le_of_ble_eq_true rfl, Nat.le_of_ble_eq_true rfl⟩ (fun r18 S1 H locs hp hW hS => ?_)
      obtain ⟨t19, rfl, h⟩ := hp
      exact W.iret (v := r18) hx hb hr (fun t ht _ => ⟨⟨_, (σ, ν, t19, lo), rfl, ⟨_, rfl, h⟩, WP.at9 ht hW⟩, hS.F ht⟩) hS.2.2 dX7_instruct_227 (hlocks := hlocks)
    · have h := ite_t c17 h
      refine lv_sipush (v := (1000 : Int32)) hx hb dX7_instruct_212 (by decide) ?_
      refine lv_iload_n hx hb dX7_instruct_215 rfl (lv_at hl 3 rfl) ?_
      refine lv_imul hx hb dX7_instruct_216 ?_
      refine lv_iload hx hb dX7_instruct_217 (lv_at hl 4 rfl) ?_
      refine lv_iadd hx hb dX7_instruct_219 ?_
      refine lv_goto (tgt := 224) hx hb dX7_instruct_220 (by decide) ?_
      refine k_Vi (rest := []) (As := [.int p1, .int p2, .int p3, .int ((((1000 : Int32)) * p3) + p4)]) ⟨hx, hb, hml, hown, hts⟩ hE hz hS hW (mtX7_lays l z G ad σ ν t15 lo p1 p2 p3 ((((1000 : Int32)) * p3) + p4) _ h) (cwV 4 hts gX7_instruct_X7_lays rfl rfl rfl (by decide +kernel) ⟨Nat.le_of_ble_eq_true rfl, Nat.le_of_ble_eq_true rfl⟩) (r_recv hE hW 30 0 rfl (ci := 10) rfl rfl) rfl hl.1 rfl (Nat.le_of_ble_eq_true rfl) dX7_instruct_224 ⟨Nat.le_of_ble_eq_true rfl, Nat.le_of_ble_eq_true rfl⟩ (fun r20 S1 H locs hp hW hS => ?_)
      obtain ⟨t21, rfl, h⟩ := hp
      exact W.iret (v := r20) hx hb hr (fun t ht _ => ⟨⟨_, (σ, ν, t21, lo), rfl, ⟨_, rfl, h⟩, WP.at9 ht hW⟩, hS.F ht⟩) hS.2.2 dX7_instruct_227 (hlocks := hlocks)
  · have h := ite_t c16 h
    refine lv_iconst (v := (0 : Int32)) hx hb dX7_instruct_201 (by decide) ?_
    exact W.iret (v := (0 : Int32)) hx hb hr (fun t ht _ => ⟨⟨_, (σ, ν, t15, lo), rfl, ⟨_, rfl, h⟩, WP.at9 ht hW⟩, hS.F ht⟩) hS.2.2 dX7_instruct_202 (hlocks := hlocks)
set_option maxHeartbeats 4000000 in
set_option maxRecDepth 100000 in
theorem tX7_instruct_152 {p : Program} {l : Launch} {e : Env} {s : State} {m : MethodId} {args : Array Value} {below : List Frame} {meth : Method} {c : Code} {z : Nat} {G : Gl} {ad : Nat → Nat → Nat} {σ : SG} {ν : NU} {ρ : RH} {lo : Int64} (X : Cx p l e s m args below meth c cX7_instruct (some .int) 9 RX7 wsX7_instruct z G) (p1 : Int32) (p2 : Int32) (p3 : Int32) (p4 : Int32)  (post : Int32 → RH → Prop) : ∀ (a3 : RH) (x5 : Int32) (x6 : Int32) (x7 : Int32) (y0 : Int32) {H : Heap} {locs : List Loc} {ls : Array Slot}, WP z G ad (σ, ν, a3, lo) H → va_S (Az z) s.heap H locs → lv_has ls 9 [(0, .ref (ad 30 0)), (1, .int p1), (2, .int p2), (3, .int p3), (4, .int p4), (5, .int x5), (6, .int x6), (7, .int x7)] → jX7_instruct_152 p1 p2 p3 p4 post a3 x5 x6 x7 y0 → W p l e ({ frames := 2, cells := 0, slots := 0, locals := 43 } : Room) s m args below meth c H locs 0 0 (MQ below (Qis z G ad (fun r S1 => ∃ t : RH, S1 = (σ, ν, t, lo) ∧ post r t)) args s 0 0 (Az z)) (F0 m 152 ls [.int y0]) := by
  obtain ⟨hx, hb, hr, hml, hown, hts, hlocks, hE, hz⟩ := id X
  intro a3 x5 x6 x7 y0 H locs ls hW hS hl h
  unfold jX7_instruct_152 at h
  refine lv_istore (lv' := [(8, .int y0), (0, .ref (ad 30 0)), (1, .int p1), (2, .int p2), (3, .int p3), (4, .int p4), (5, .int x5), (6, .int x6), (7, .int x7)]) hx hb dX7_instruct_152 hl (by decide) rfl (fun ls hl => ?_)
  refine lv_aload_n hx hb dX7_instruct_154 rfl (lv_at hl 1 rfl) ?_
  refine lv_iload hx hb dX7_instruct_155 (lv_at hl 6 rfl) ?_
  refine r_if_eq hx hb rfl (tgt := 164) dX7_instruct_157 (by decide) (fun c10 => ?_) (fun c10 => ?_)
  · have h := ite_t c10 h
    refine lv_iload hx hb dX7_instruct_164 (lv_at hl 7 rfl) ?_
    refine r_if_ne hx hb rfl (tgt := 173) dX7_instruct_166 (by decide) (fun c11 => ?_) (fun c11 => ?_)
    · have h := ite_f c11 h
      refine lv_aload_n hx hb dX7_instruct_173 rfl (lv_at hl 1 rfl) ?_
      refine k_Vi (rest := [.ref (ad 30 0)]) (As := []) ⟨hx, hb, hml, hown, hts⟩ hE hz hS hW (mtX7_isShut l z G ad σ ν a3 lo  _ h) (cwV 0 hts gX7_instruct_X7_isShut rfl rfl rfl (by decide +kernel) ⟨Nat.le_of_ble_eq_true rfl, Nat.le_of_ble_eq_true rfl⟩) (r_recv hE hW 30 0 rfl (ci := 10) rfl rfl) rfl hl.1 rfl (Nat.le_of_ble_eq_true rfl) dX7_instruct_174 ⟨Nat.le_of_ble_eq_true rfl, Nat.le_of_ble_eq_true rfl⟩ (fun r12 S1 H locs hp hW hS => ?_)
      obtain ⟨rfl, h⟩ := hp
      refine r_if_ne hx hb rfl (tgt := 190) dX7_instruct_177 (by decide) (fun c13 => ?_) (fun c13 => ?_)
      · have h := ite_f c13 h
        refine lv_iconst (v := (3 : Int32)) hx hb dX7_instruct_190 (by decide) ?_
        refine lv_goto (tgt := 195) hx hb dX7_instruct_191 (by decide) ?_
        exact tX7_instruct_195 (σ := σ) (ρ := ρ) X p1 p2 p3 p4 post  a3 0 ((3 : Int32)) hW hS (lv_sub hl [1, 2, 3, 4, 5] rfl) h
      · have h := ite_t c13 h
        refine lv_iload hx hb dX7_instruct_180 (lv_at hl 8 rfl) ?_
        refine r_if_ne hx hb rfl (tgt := 190) dX7_instruct_182 (by decide) (fun c22 => ?_) (fun c22 => ?_)
        · have h := ite_f c22 h
          refine lv_iconst (v := (3 : Int32)) hx hb dX7_instruct_190 (by decide) ?_
          refine lv_goto (tgt := 195) hx hb dX7_instruct_191 (by decide) ?_
          exact tX7_instruct_195 (σ := σ) (ρ := ρ) X p1 p2 p3 p4 post  a3 0 ((3 : Int32)) hW hS (lv_sub hl [1, 2, 3, 4, 5] rfl) h
        · have h := ite_t c22 h
          refine lv_iload hx hb dX7_instruct_185 (lv_at hl 0 rfl) ?_
          refine r_if_eq hx hb rfl (tgt := 194) dX7_instruct_187 (by decide) (fun c23 => ?_) (fun c23 => ?_)
          · have h := ite_t c23 h
            refine lv_iconst (v := (0 : Int32)) hx hb dX7_instruct_194 (by decide) ?_
            exact tX7_instruct_195 (σ := σ) (ρ := ρ) X p1 p2 p3 p4 post  a3 0 ((0 : Int32)) hW hS (lv_sub hl [1, 2, 3, 4, 5] rfl) h
          · have h := ite_f c23 h
            refine lv_iconst (v := (3 : Int32)) hx hb dX7_instruct_190 (by decide) ?_
            refine lv_goto (tgt := 195) hx hb dX7_instruct_191 (by decide) ?_
            exact tX7_instruct_195 (σ := σ) (ρ := ρ) X p1 p2 p3 p4 post  a3 0 ((3 : Int32)) hW hS (lv_sub hl [1, 2, 3, 4, 5] rfl) h
    · have h := ite_t c11 h
      refine lv_iconst (v := (2 : Int32)) hx hb dX7_instruct_169 (by decide) ?_
      refine lv_goto (tgt := 195) hx hb dX7_instruct_170 (by decide) ?_
      exact tX7_instruct_195 (σ := σ) (ρ := ρ) X p1 p2 p3 p4 post  a3 0 ((2 : Int32)) hW hS (lv_sub hl [1, 2, 3, 4, 5] rfl) h
  · have h := ite_f c10 h
    refine lv_iconst (v := (1 : Int32)) hx hb dX7_instruct_160 (by decide) ?_
    refine lv_goto (tgt := 195) hx hb dX7_instruct_161 (by decide) ?_
    exact tX7_instruct_195 (σ := σ) (ρ := ρ) X p1 p2 p3 p4 post  a3 0 ((1 : Int32)) hW hS (lv_sub hl [1, 2, 3, 4, 5] rfl) h
set_option maxHeartbeats 4000000 in
set_option maxRecDepth 100000 in
theorem tX7_instruct_129 {p : Program} {l : Launch} {e : Env} {s : State} {m : MethodId} {args : Array Value} {below : List Frame} {meth : Method} {c : Code} {z : Nat} {G : Gl} {ad : Nat → Nat → Nat} {σ : SG} {ν : NU} {ρ : RH} {lo : Int64} (X : Cx p l e s m args below meth c cX7_instruct (some .int) 9 RX7 wsX7_instruct z G) (p1 : Int32) (p2 : Int32) (p3 : Int32) (p4 : Int32)  (post : Int32 → RH → Prop) : ∀ (a3 : RH) (x5 : Int32) (x6 : Int32) (x7 : Int32) {H : Heap} {locs : List Loc} {ls : Array Slot}, WP z G ad (σ, ν, a3, lo) H → va_S (Az z) s.heap H locs → lv_has ls 9 [(0, .ref (ad 30 0)), (1, .int p1), (2, .int p2), (3, .int p3), (4, .int p4), (5, .int x5), (6, .int x6), (7, .int x7)] → jX7_instruct_129 p1 p2 p3 p4 post a3 x5 x6 x7 → W p l e ({ frames := 2, cells := 0, slots := 0, locals := 43 } : Room) s m args below meth c H locs 0 0 (MQ below (Qis z G ad (fun r S1 => ∃ t : RH, S1 = (σ, ν, t, lo) ∧ post r t)) args s 0 0 (Az z)) (F0 m 129 ls []) := by
  obtain ⟨hx, hb, hr, hml, hown, hts, hlocks, hE, hz⟩ := id X
  intro a3 x5 x6 x7 H locs ls hW hS hl h
  unfold jX7_instruct_129 at h
  refine lv_iload_n hx hb dX7_instruct_129 rfl (lv_at hl 1 rfl) ?_
  refine lv_iconst (v := (2 : Int32)) hx hb dX7_instruct_130 (by decide) ?_
  refine r_icmp_le hx hb rfl (show (2 : Int32).toInt = 2 by decide) (tgt := 151) dX7_instruct_131 (by decide) (fun c9 => ?_) (fun c9 => ?_)
  · have h := ite_t c9 h
    refine lv_iconst (v := (0 : Int32)) hx hb dX7_instruct_151 (by decide) ?_
    exact tX7_instruct_152 (σ := σ) (ρ := ρ) X p1 p2 p3 p4 post  a3 x5 x6 x7 ((0 : Int32)) hW hS (lv_sub hl [0, 1, 2, 3, 4, 5, 6, 7] rfl) h
  · have h := ite_f c9 h
    refine lv_iload_n hx hb dX7_instruct_134 rfl (lv_at hl 1 rfl) ?_
    refine lv_bipush (v := (7 : Int32)) hx hb dX7_instruct_135 (by decide) ?_
    refine r_icmp_eq hx hb rfl (show (7 : Int32).toInt = 7 by decide) (tgt := 151) dX7_instruct_137 (by decide) (fun c24 => ?_) (fun c24 => ?_)
    · have h := ite_t c24 h
      refine lv_iconst (v := (0 : Int32)) hx hb dX7_instruct_151 (by decide) ?_
      exact tX7_instruct_152 (σ := σ) (ρ := ρ) X p1 p2 p3 p4 post  a3 x5 x6 x7 ((0 : Int32)) hW hS (lv_sub hl [0, 1, 2, 3, 4, 5, 6, 7] rfl) h
    · have h := ite_f c24 h
      refine lv_aload_n hx hb dX7_instruct_140 rfl (lv_at hl 0 rfl) ?_
      refine r_get (C := RX7) (T := TX7) (N := 49) (ci := 10) (fs := fl_30 ad ν a3 0 (σ 30 0)) hx hb hts hown hE hW 30 0 rfl rfl rfl (fun w h => List.mem_cons_of_mem _ (List.mem_append_right _ h)) 9 (by decide) (List.mem_of_getElem? (i := 2) rfl) rfl (v := .int (a3 9 0)) rfl dX7_instruct_141 ?_
      refine r_if_le hx hb rfl (tgt := 151) dX7_instruct_144 (by decide) (fun c25 => ?_) (fun c25 => ?_)
      · have h := ite_t c25 h
        refine lv_iconst (v := (0 : Int32)) hx hb dX7_instruct_151 (by decide) ?_
        exact tX7_instruct_152 (σ := σ) (ρ := ρ) X p1 p2 p3 p4 post  a3 x5 x6 x7 ((0 : Int32)) hW hS (lv_sub hl [0, 1, 2, 3, 4, 5, 6, 7] rfl) h
      · have h := ite_f c25 h
        refine lv_iconst (v := (1 : Int32)) hx hb dX7_instruct_147 (by decide) ?_
        refine lv_goto (tgt := 152) hx hb dX7_instruct_148 (by decide) ?_
        exact tX7_instruct_152 (σ := σ) (ρ := ρ) X p1 p2 p3 p4 post  a3 x5 x6 x7 ((1 : Int32)) hW hS (lv_sub hl [0, 1, 2, 3, 4, 5, 6, 7] rfl) h
set_option maxHeartbeats 4000000 in
set_option maxRecDepth 100000 in
theorem tX7_instruct_115 {p : Program} {l : Launch} {e : Env} {s : State} {m : MethodId} {args : Array Value} {below : List Frame} {meth : Method} {c : Code} {z : Nat} {G : Gl} {ad : Nat → Nat → Nat} {σ : SG} {ν : NU} {ρ : RH} {lo : Int64} (X : Cx p l e s m args below meth c cX7_instruct (some .int) 9 RX7 wsX7_instruct z G) (p1 : Int32) (p2 : Int32) (p3 : Int32) (p4 : Int32)  (post : Int32 → RH → Prop) : ∀ (a3 : RH) (x5 : Int32) (x6 : Int32) (y0 : Int32) {H : Heap} {locs : List Loc} {ls : Array Slot}, WP z G ad (σ, ν, a3, lo) H → va_S (Az z) s.heap H locs → lv_has ls 9 [(0, .ref (ad 30 0)), (1, .int p1), (2, .int p2), (3, .int p3), (4, .int p4), (5, .int x5), (6, .int x6)] → jX7_instruct_115 p1 p2 p3 p4 post a3 x5 x6 y0 → W p l e ({ frames := 2, cells := 0, slots := 0, locals := 43 } : Room) s m args below meth c H locs 0 0 (MQ below (Qis z G ad (fun r S1 => ∃ t : RH, S1 = (σ, ν, t, lo) ∧ post r t)) args s 0 0 (Az z)) (F0 m 115 ls [.int y0]) := by
  obtain ⟨hx, hb, hr, hml, hown, hts, hlocks, hE, hz⟩ := id X
  intro a3 x5 x6 y0 H locs ls hW hS hl h
  unfold jX7_instruct_115 at h
  refine lv_istore (lv' := [(7, .int y0), (0, .ref (ad 30 0)), (1, .int p1), (2, .int p2), (3, .int p3), (4, .int p4), (5, .int x5), (6, .int x6)]) hx hb dX7_instruct_115 hl (by decide) rfl (fun ls hl => ?_)
  refine lv_iload_n hx hb dX7_instruct_117 rfl (lv_at hl 2 rfl) ?_
  refine lv_iconst (v := (3 : Int32)) hx hb dX7_instruct_118 (by decide) ?_
  refine r_icmp_le hx hb rfl (show (3 : Int32).toInt = 3 by decide) (tgt := 129) dX7_instruct_119 (by decide) (fun c8 => ?_) (fun c8 => ?_)
  · have h := ite_t c8 h
    exact tX7_instruct_129 (σ := σ) (ρ := ρ) X p1 p2 p3 p4 post  a3 x5 x6 y0 hW hS (lv_sub hl [1, 2, 3, 4, 5, 6, 7, 0] rfl) h
  · have h := ite_f c8 h
    refine lv_aload_n hx hb dX7_instruct_122 rfl (lv_at hl 1 rfl) ?_
    refine r_get (C := RX7) (T := TX7) (N := 49) (ci := 10) (fs := fl_30 ad ν a3 0 (σ 30 0)) hx hb hts hown hE hW 30 0 rfl rfl rfl (fun w h => List.mem_cons_of_mem _ (List.mem_append_right _ h)) 7 (by decide) (List.mem_of_getElem? (i := 1) rfl) rfl (v := .int (a3 7 0)) rfl dX7_instruct_123 ?_
    refine r_if_gt hx hb rfl (tgt := 147) dX7_instruct_126 (by decide) (fun c26 => ?_) (fun c26 => ?_)
    · have h := ite_f c26 h
      refine lv_iconst (v := (1 : Int32)) hx hb dX7_instruct_147 (by decide) ?_
      refine lv_goto (tgt := 152) hx hb dX7_instruct_148 (by decide) ?_
      exact tX7_instruct_152 (σ := σ) (ρ := ρ) X p1 p2 p3 p4 post  a3 x5 x6 y0 ((1 : Int32)) hW hS (lv_sub hl [1, 2, 3, 4, 5, 6, 7, 0] rfl) h
    · have h := ite_t c26 h
      exact tX7_instruct_129 (σ := σ) (ρ := ρ) X p1 p2 p3 p4 post  a3 x5 x6 y0 hW hS (lv_sub hl [1, 2, 3, 4, 5, 6, 7, 0] rfl) h
set_option maxHeartbeats 4000000 in
set_option maxRecDepth 100000 in
theorem tX7_instruct_98 {p : Program} {l : Launch} {e : Env} {s : State} {m : MethodId} {args : Array Value} {below : List Frame} {meth : Method} {c : Code} {z : Nat} {G : Gl} {ad : Nat → Nat → Nat} {σ : SG} {ν : NU} {ρ : RH} {lo : Int64} (X : Cx p l e s m args below meth c cX7_instruct (some .int) 9 RX7 wsX7_instruct z G) (p1 : Int32) (p2 : Int32) (p3 : Int32) (p4 : Int32)  (post : Int32 → RH → Prop) : ∀ (a3 : RH) (x5 : Int32) (x6 : Int32) {H : Heap} {locs : List Loc} {ls : Array Slot}, WP z G ad (σ, ν, a3, lo) H → va_S (Az z) s.heap H locs → lv_has ls 9 [(0, .ref (ad 30 0)), (1, .int p1), (2, .int p2), (3, .int p3), (4, .int p4), (5, .int x5), (6, .int x6)] → jX7_instruct_98 p1 p2 p3 p4 post a3 x5 x6 → W p l e ({ frames := 2, cells := 0, slots := 0, locals := 43 } : Room) s m args below meth c H locs 0 0 (MQ below (Qis z G ad (fun r S1 => ∃ t : RH, S1 = (σ, ν, t, lo) ∧ post r t)) args s 0 0 (Az z)) (F0 m 98 ls []) := by
  obtain ⟨hx, hb, hr, hml, hown, hts, hlocks, hE, hz⟩ := id X
  intro a3 x5 x6 H locs ls hW hS hl h
  unfold jX7_instruct_98 at h
  refine lv_iload_n hx hb dX7_instruct_98 rfl (lv_at hl 1 rfl) ?_
  refine lv_iconst (v := (1 : Int32)) hx hb dX7_instruct_99 (by decide) ?_
  refine r_icmp_ne hx hb rfl (show (1 : Int32).toInt = 1 by decide) (tgt := 114) dX7_instruct_100 (by decide) (fun c27 => ?_) (fun c27 => ?_)
  · have h := ite_f c27 h
    refine lv_iconst (v := (0 : Int32)) hx hb dX7_instruct_114 (by decide) ?_
    exact tX7_instruct_115 (σ := σ) (ρ := ρ) X p1 p2 p3 p4 post  a3 x5 x6 ((0 : Int32)) hW hS (lv_sub hl [0, 1, 2, 3, 4, 5, 6] rfl) h
  · have h := ite_t c27 h
    refine lv_aload_n hx hb dX7_instruct_103 rfl (lv_at hl 0 rfl) ?_
    refine r_get (C := RX7) (T := TX7) (N := 49) (ci := 10) (fs := fl_30 ad ν a3 0 (σ 30 0)) hx hb hts hown hE hW 30 0 rfl rfl rfl (fun w h => List.mem_cons_of_mem _ (List.mem_append_right _ h)) 9 (by decide) (List.mem_of_getElem? (i := 2) rfl) rfl (v := .int (a3 9 0)) rfl dX7_instruct_104 ?_
    refine r_if_ne hx hb rfl (tgt := 114) dX7_instruct_107 (by decide) (fun c28 => ?_) (fun c28 => ?_)
    · have h := ite_f c28 h
      refine lv_iconst (v := (0 : Int32)) hx hb dX7_instruct_114 (by decide) ?_
      exact tX7_instruct_115 (σ := σ) (ρ := ρ) X p1 p2 p3 p4 post  a3 x5 x6 ((0 : Int32)) hW hS (lv_sub hl [0, 1, 2, 3, 4, 5, 6] rfl) h
    · have h := ite_t c28 h
      refine lv_iconst (v := (1 : Int32)) hx hb dX7_instruct_110 (by decide) ?_
      refine lv_goto (tgt := 115) hx hb dX7_instruct_111 (by decide) ?_
      exact tX7_instruct_115 (σ := σ) (ρ := ρ) X p1 p2 p3 p4 post  a3 x5 x6 ((1 : Int32)) hW hS (lv_sub hl [0, 1, 2, 3, 4, 5, 6] rfl) h
set_option maxHeartbeats 4000000 in
set_option maxRecDepth 100000 in
theorem tX7_instruct_91 {p : Program} {l : Launch} {e : Env} {s : State} {m : MethodId} {args : Array Value} {below : List Frame} {meth : Method} {c : Code} {z : Nat} {G : Gl} {ad : Nat → Nat → Nat} {σ : SG} {ν : NU} {ρ : RH} {lo : Int64} (X : Cx p l e s m args below meth c cX7_instruct (some .int) 9 RX7 wsX7_instruct z G) (p1 : Int32) (p2 : Int32) (p3 : Int32) (p4 : Int32)  (post : Int32 → RH → Prop) : ∀ (a3 : RH) (x5 : Int32) (x6 : Int32) {H : Heap} {locs : List Loc} {ls : Array Slot}, WP z G ad (σ, ν, a3, lo) H → va_S (Az z) s.heap H locs → lv_has ls 9 [(0, .ref (ad 30 0)), (1, .int p1), (2, .int p2), (3, .int p3), (4, .int p4), (5, .int x5), (6, .int x6)] → jX7_instruct_91 p1 p2 p3 p4 post a3 x5 x6 → W p l e ({ frames := 2, cells := 0, slots := 0, locals := 43 } : Room) s m args below meth c H locs 0 0 (MQ below (Qis z G ad (fun r S1 => ∃ t : RH, S1 = (σ, ν, t, lo) ∧ post r t)) args s 0 0 (Az z)) (F0 m 91 ls []) := by
  obtain ⟨hx, hb, hr, hml, hown, hts, hlocks, hE, hz⟩ := id X
  intro a3 x5 x6 H locs ls hW hS hl h
  unfold jX7_instruct_91 at h
  refine lv_aload_n hx hb dX7_instruct_91 rfl (lv_at hl 0 rfl) ?_
  refine r_get (C := RX7) (T := TX7) (N := 49) (ci := 10) (fs := fl_30 ad ν a3 0 (σ 30 0)) hx hb hts hown hE hW 30 0 rfl rfl rfl (fun w h => List.mem_cons_of_mem _ (List.mem_append_right _ h)) 7 (by decide) (List.mem_of_getElem? (i := 1) rfl) rfl (v := .int (a3 7 0)) rfl dX7_instruct_92 ?_
  refine r_if_eq hx hb rfl (tgt := 110) dX7_instruct_95 (by decide) (fun c7 => ?_) (fun c7 => ?_)
  · have h := ite_t c7 h
    refine lv_iconst (v := (1 : Int32)) hx hb dX7_instruct_110 (by decide) ?_
    refine lv_goto (tgt := 115) hx hb dX7_instruct_111 (by decide) ?_
    exact tX7_instruct_115 (σ := σ) (ρ := ρ) X p1 p2 p3 p4 post  a3 x5 x6 ((1 : Int32)) hW hS (lv_sub hl [0, 1, 2, 3, 4, 5, 6] rfl) h
  · have h := ite_f c7 h
    exact tX7_instruct_98 (σ := σ) (ρ := ρ) X p1 p2 p3 p4 post  a3 x5 x6 hW hS (lv_sub hl [0, 1, 2, 3, 4, 5, 6] rfl) h
set_option maxHeartbeats 4000000 in
set_option maxRecDepth 100000 in
theorem tX7_instruct_79 {p : Program} {l : Launch} {e : Env} {s : State} {m : MethodId} {args : Array Value} {below : List Frame} {meth : Method} {c : Code} {z : Nat} {G : Gl} {ad : Nat → Nat → Nat} {σ : SG} {ν : NU} {ρ : RH} {lo : Int64} (X : Cx p l e s m args below meth c cX7_instruct (some .int) 9 RX7 wsX7_instruct z G) (p1 : Int32) (p2 : Int32) (p3 : Int32) (p4 : Int32)  (post : Int32 → RH → Prop) : ∀ (a3 : RH) (x5 : Int32) (y0 : Int32) {H : Heap} {locs : List Loc} {ls : Array Slot}, WP z G ad (σ, ν, a3, lo) H → va_S (Az z) s.heap H locs → lv_has ls 9 [(0, .ref (ad 30 0)), (1, .int p1), (2, .int p2), (3, .int p3), (4, .int p4), (5, .int x5)] → jX7_instruct_79 p1 p2 p3 p4 post a3 x5 y0 → W p l e ({ frames := 2, cells := 0, slots := 0, locals := 43 } : Room) s m args below meth c H locs 0 0 (MQ below (Qis z G ad (fun r S1 => ∃ t : RH, S1 = (σ, ν, t, lo) ∧ post r t)) args s 0 0 (Az z)) (F0 m 79 ls [.int y0]) := by
  obtain ⟨hx, hb, hr, hml, hown, hts, hlocks, hE, hz⟩ := id X
  intro a3 x5 y0 H locs ls hW hS hl h
  unfold jX7_instruct_79 at h
  refine lv_istore (lv' := [(6, .int y0), (0, .ref (ad 30 0)), (1, .int p1), (2, .int p2), (3, .int p3), (4, .int p4), (5, .int x5)]) hx hb dX7_instruct_79 hl (by decide) rfl (fun ls hl => ?_)
  refine lv_iload_n hx hb dX7_instruct_81 rfl (lv_at hl 2 rfl) ?_
  refine lv_iconst (v := (2 : Int32)) hx hb dX7_instruct_82 (by decide) ?_
  refine r_icmp_eq hx hb rfl (show (2 : Int32).toInt = 2 by decide) (tgt := 91) dX7_instruct_83 (by decide) (fun c6 => ?_) (fun c6 => ?_)
  · have h := ite_t c6 h
    exact tX7_instruct_91 (σ := σ) (ρ := ρ) X p1 p2 p3 p4 post  a3 x5 y0 hW hS (lv_sub hl [1, 2, 3, 4, 5, 6, 0] rfl) h
  · have h := ite_f c6 h
    refine lv_iload_n hx hb dX7_instruct_86 rfl (lv_at hl 2 rfl) ?_
    refine lv_iconst (v := (3 : Int32)) hx hb dX7_instruct_87 (by decide) ?_
    refine r_icmp_ne hx hb rfl (show (3 : Int32).toInt = 3 by decide) (tgt := 98) dX7_instruct_88 (by decide) (fun c29 => ?_) (fun c29 => ?_)
    · have h := ite_f c29 h
      exact tX7_instruct_98 (σ := σ) (ρ := ρ) X p1 p2 p3 p4 post  a3 x5 y0 hW hS (lv_sub hl [1, 2, 3, 4, 5, 6, 0] rfl) h
    · have h := ite_t c29 h
      exact tX7_instruct_91 (σ := σ) (ρ := ρ) X p1 p2 p3 p4 post  a3 x5 y0 hW hS (lv_sub hl [1, 2, 3, 4, 5, 6, 0] rfl) h
set_option maxHeartbeats 4000000 in
set_option maxRecDepth 100000 in
theorem tX7_instruct_48 {p : Program} {l : Launch} {e : Env} {s : State} {m : MethodId} {args : Array Value} {below : List Frame} {meth : Method} {c : Code} {z : Nat} {G : Gl} {ad : Nat → Nat → Nat} {σ : SG} {ν : NU} {ρ : RH} {lo : Int64} (X : Cx p l e s m args below meth c cX7_instruct (some .int) 9 RX7 wsX7_instruct z G) (p1 : Int32) (p2 : Int32) (p3 : Int32) (p4 : Int32)  (post : Int32 → RH → Prop) : ∀ (a3 : RH) (y0 : Int32) {H : Heap} {locs : List Loc} {ls : Array Slot}, WP z G ad (σ, ν, a3, lo) H → va_S (Az z) s.heap H locs → lv_has ls 9 [(0, .ref (ad 30 0)), (1, .int p1), (2, .int p2), (3, .int p3), (4, .int p4)] → jX7_instruct_48 p1 p2 p3 p4 post a3 y0 → W p l e ({ frames := 2, cells := 0, slots := 0, locals := 43 } : Room) s m args below meth c H locs 0 0 (MQ below (Qis z G ad (fun r S1 => ∃ t : RH, S1 = (σ, ν, t, lo) ∧ post r t)) args s 0 0 (Az z)) (F0 m 48 ls [.int y0]) := by
  obtain ⟨hx, hb, hr, hml, hown, hts, hlocks, hE, hz⟩ := id X
  intro a3 y0 H locs ls hW hS hl h
  unfold jX7_instruct_48 at h
  refine lv_istore (lv' := [(5, .int y0), (0, .ref (ad 30 0)), (1, .int p1), (2, .int p2), (3, .int p3), (4, .int p4)]) hx hb dX7_instruct_48 hl (by decide) rfl (fun ls hl => ?_)
  refine lv_iload_n hx hb dX7_instruct_50 rfl (lv_at hl 2 rfl) ?_
  refine lv_iconst (v := (1 : Int32)) hx hb dX7_instruct_51 (by decide) ?_
  refine lv_bipush (v := (7 : Int32)) hx hb dX7_instruct_52 (by decide) ?_
  refine k_Si (rest := []) (As := [.int p1, .int ((1 : Int32)), .int ((7 : Int32))]) ⟨hx, hb, hml, hown, hts⟩ hE hz hS hW (mtX7_isIn l z G ad σ ν a3 lo p1 ((1 : Int32)) ((7 : Int32)) _ h) (va_cwS 3 hts gX7_instruct_X7_isIn rfl rfl rfl (by decide +kernel) ⟨Nat.le_of_ble_eq_true rfl, Nat.le_of_ble_eq_true rfl⟩) rfl hl.1 rfl (Nat.le_of_ble_eq_true rfl) dX7_instruct_54 ⟨Nat.le_of_ble_eq_true rfl, Nat.le_of_ble_eq_true rfl⟩ (fun r4 S1 H locs hp hW hS => ?_)
  obtain ⟨rfl, h⟩ := hp
  refine r_if_eq hx hb rfl (tgt := 78) dX7_instruct_57 (by decide) (fun c5 => ?_) (fun c5 => ?_)
  · have h := ite_t c5 h
    refine lv_iconst (v := (0 : Int32)) hx hb dX7_instruct_78 (by decide) ?_
    exact tX7_instruct_79 (σ := σ) (ρ := ρ) X p1 p2 p3 p4 post  a3 y0 ((0 : Int32)) hW hS (lv_sub hl [1, 2, 3, 4, 5, 0] rfl) h
  · have h := ite_f c5 h
    refine lv_iload_n hx hb dX7_instruct_60 rfl (lv_at hl 2 rfl) ?_
    refine lv_iconst (v := (4 : Int32)) hx hb dX7_instruct_61 (by decide) ?_
    refine r_icmp_ne hx hb rfl (show (4 : Int32).toInt = 4 by decide) (tgt := 74) dX7_instruct_62 (by decide) (fun c30 => ?_) (fun c30 => ?_)
    · have h := ite_f c30 h
      refine lv_iconst (v := (1 : Int32)) hx hb dX7_instruct_74 (by decide) ?_
      refine lv_goto (tgt := 79) hx hb dX7_instruct_75 (by decide) ?_
      exact tX7_instruct_79 (σ := σ) (ρ := ρ) X p1 p2 p3 p4 post  a3 y0 ((1 : Int32)) hW hS (lv_sub hl [1, 2, 3, 4, 5, 0] rfl) h
    · have h := ite_t c30 h
      refine lv_iload_n hx hb dX7_instruct_65 rfl (lv_at hl 4 rfl) ?_
      refine lv_iload hx hb dX7_instruct_66 (lv_at hl 5 rfl) ?_
      refine k_Si (rest := []) (As := [.int p3, .int p4]) ⟨hx, hb, hml, hown, hts⟩ hE hz hS hW (mtX7_isLabel l z G ad σ ν a3 lo p3 p4 _ h) (va_cwS 2 hts gX7_instruct_X7_isLabel rfl rfl rfl (by decide +kernel) ⟨Nat.le_of_ble_eq_true rfl, Nat.le_of_ble_eq_true rfl⟩) rfl hl.1 rfl (Nat.le_of_ble_eq_true rfl) dX7_instruct_68 ⟨Nat.le_of_ble_eq_true rfl, Nat.le_of_ble_eq_true rfl⟩ (fun r31 S1 H locs hp hW hS => ?_)
      obtain ⟨rfl, h⟩ := hp
      refine r_if_eq hx hb rfl (tgt := 78) dX7_instruct_71 (by decide) (fun c32 => ?_) (fun c32 => ?_)
      · have h := ite_t c32 h
        refine lv_iconst (v := (0 : Int32)) hx hb dX7_instruct_78 (by decide) ?_
        exact tX7_instruct_79 (σ := σ) (ρ := ρ) X p1 p2 p3 p4 post  a3 y0 ((0 : Int32)) hW hS (lv_sub hl [1, 2, 3, 4, 5, 0] rfl) h
      · have h := ite_f c32 h
        refine lv_iconst (v := (1 : Int32)) hx hb dX7_instruct_74 (by decide) ?_
        refine lv_goto (tgt := 79) hx hb dX7_instruct_75 (by decide) ?_
        exact tX7_instruct_79 (σ := σ) (ρ := ρ) X p1 p2 p3 p4 post  a3 y0 ((1 : Int32)) hW hS (lv_sub hl [1, 2, 3, 4, 5, 0] rfl) h
set_option maxHeartbeats 4000000 in
set_option maxRecDepth 100000 in
theorem tX7_instruct_25 {p : Program} {l : Launch} {e : Env} {s : State} {m : MethodId} {args : Array Value} {below : List Frame} {meth : Method} {c : Code} {z : Nat} {G : Gl} {ad : Nat → Nat → Nat} {σ : SG} {ν : NU} {ρ : RH} {lo : Int64} (X : Cx p l e s m args below meth c cX7_instruct (some .int) 9 RX7 wsX7_instruct z G) (p1 : Int32) (p2 : Int32) (p3 : Int32) (p4 : Int32)  (post : Int32 → RH → Prop) : ∀ (a3 : RH) {H : Heap} {locs : List Loc} {ls : Array Slot}, WP z G ad (σ, ν, a3, lo) H → va_S (Az z) s.heap H locs → lv_has ls 9 [(0, .ref (ad 30 0)), (1, .int p1), (2, .int p2), (3, .int p3), (4, .int p4)] → jX7_instruct_25 p1 p2 p3 p4 post a3 → W p l e ({ frames := 2, cells := 0, slots := 0, locals := 43 } : Room) s m args below meth c H locs 0 0 (MQ below (Qis z G ad (fun r S1 => ∃ t : RH, S1 = (σ, ν, t, lo) ∧ post r t)) args s 0 0 (Az z)) (F0 m 25 ls []) := by
  obtain ⟨hx, hb, hr, hml, hown, hts, hlocks, hE, hz⟩ := id X
  intro a3 H locs ls hW hS hl h
  unfold jX7_instruct_25 at h
  refine lv_iload_n hx hb dX7_instruct_25 rfl (lv_at hl 1 rfl) ?_
  refine lv_iconst (v := (5 : Int32)) hx hb dX7_instruct_26 (by decide) ?_
  refine r_icmp_ne hx hb rfl (show (5 : Int32).toInt = 5 by decide) (tgt := 47) dX7_instruct_27 (by decide) (fun c33 => ?_) (fun c33 => ?_)
  · have h := ite_f c33 h
    refine lv_iconst (v := (0 : Int32)) hx hb dX7_instruct_47 (by decide) ?_
    exact tX7_instruct_48 (σ := σ) (ρ := ρ) X p1 p2 p3 p4 post  a3 ((0 : Int32)) hW hS (lv_sub hl [0, 1, 2, 3, 4] rfl) h
  · have h := ite_t c33 h
    refine lv_iload_n hx hb dX7_instruct_30 rfl (lv_at hl 3 rfl) ?_
    refine lv_iconst (v := (-1 : Int32)) hx hb dX7_instruct_31 (by decide) ?_
    refine r_icmp_eq hx hb rfl (show (-1 : Int32).toInt = (-1) by decide) (tgt := 47) dX7_instruct_32 (by decide) (fun c34 => ?_) (fun c34 => ?_)
    · have h := ite_t c34 h
      refine lv_iconst (v := (0 : Int32)) hx hb dX7_instruct_47 (by decide) ?_
      exact tX7_instruct_48 (σ := σ) (ρ := ρ) X p1 p2 p3 p4 post  a3 ((0 : Int32)) hW hS (lv_sub hl [0, 1, 2, 3, 4] rfl) h
    · have h := ite_f c34 h
      refine lv_aload_n hx hb dX7_instruct_35 rfl (lv_at hl 0 rfl) ?_
      refine lv_iload_n hx hb dX7_instruct_36 rfl (lv_at hl 3 rfl) ?_
      refine k_Vi (rest := []) (As := [.int p3]) ⟨hx, hb, hml, hown, hts⟩ hE hz hS hW (mtX7_isProvision l z G ad σ ν a3 lo p3 _ h) (cwV 1 hts gX7_instruct_X7_isProvision rfl rfl rfl (by decide +kernel) ⟨Nat.le_of_ble_eq_true rfl, Nat.le_of_ble_eq_true rfl⟩) (r_recv hE hW 30 0 rfl (ci := 10) rfl rfl) rfl hl.1 rfl (Nat.le_of_ble_eq_true rfl) dX7_instruct_37 ⟨Nat.le_of_ble_eq_true rfl, Nat.le_of_ble_eq_true rfl⟩ (fun r35 S1 H locs hp hW hS => ?_)
      obtain ⟨rfl, h⟩ := hp
      refine r_if_ne hx hb rfl (tgt := 47) dX7_instruct_40 (by decide) (fun c36 => ?_) (fun c36 => ?_)
      · have h := ite_f c36 h
        refine lv_iconst (v := (0 : Int32)) hx hb dX7_instruct_47 (by decide) ?_
        exact tX7_instruct_48 (σ := σ) (ρ := ρ) X p1 p2 p3 p4 post  a3 ((0 : Int32)) hW hS (lv_sub hl [0, 1, 2, 3, 4] rfl) h
      · have h := ite_t c36 h
        refine lv_iconst (v := (1 : Int32)) hx hb dX7_instruct_43 (by decide) ?_
        refine lv_goto (tgt := 48) hx hb dX7_instruct_44 (by decide) ?_
        exact tX7_instruct_48 (σ := σ) (ρ := ρ) X p1 p2 p3 p4 post  a3 ((1 : Int32)) hW hS (lv_sub hl [0, 1, 2, 3, 4] rfl) h
set_option maxHeartbeats 4000000 in
set_option maxRecDepth 100000 in
theorem mtX7_instruct (l : Launch) (z : Nat) (G : Gl) (ad : Nat → Nat → Nat) (σ : SG) (ν : NU) (ρ : RH) (lo : Int64) (p1 : Int32) (p2 : Int32) (p3 : Int32) (p4 : Int32) (post : Int32 → RH → Prop) (h : wpX7_instruct ρ p1 p2 p3 p4 post) : Met l yX7_instruct wsX7_instruct ({ frames := 2, cells := 0, slots := 0, locals := 43 } : Room) (Pcs z G ad (σ, ν, ρ, lo) [.ref (ad 30 0), .int p1, .int p2, .int p3, .int p4]) (Qis z G ad (fun r S1 => ∃ t : RH, S1 = (σ, ν, t, lo) ∧ post r t)) 0 0 (Az z) := by
  refine Met.ofW (cc := cX7_instruct) (maxL := 9) (ret := (some .int)) (by decide) rfl ?_
  intro p e s m args below meth c s₁ B hml hv
  obtain ⟨rfl, hz, hW, hE⟩ := hv
  have hx := B.exec
  have hb := B.bytes
  have hr := B.returns
  have hts := atoms_spec (ws := wsX7_instruct) B.pre
  have hown : s.vm.findClass RX7 = some m.cls := findClass_of_methodNamed B.named
  have hlocks := B.notSynchronized
  have X : Cx p l e s m _ below meth c cX7_instruct (some .int) 9 RX7 wsX7_instruct z G := ⟨hx, hb, hr, hml, hown, hts, hlocks, hE, hz⟩
  have hS : va_S (Az z) s.heap s.heap [] := va_S.rf
  have hl := lv_entry [.ref (ad 30 0), .int p1, .int p2, .int p3, .int p4] (n := 9) (Nat.le_of_ble_eq_true rfl)
  rw [lg_entry_eq]
  generalize (lg_sl [.ref (ad 30 0), .int p1, .int p2, .int p3, .int p4] ++ List.replicate (9 - (lg_sl [.ref (ad 30 0), .int p1, .int p2, .int p3, .int p4]).length) Slot.unset).toArray = ls at hl ⊢
  have hl : lv_has ls 9 [(0, .ref (ad 30 0)), (1, .int p1), (2, .int p2), (3, .int p3), (4, .int p4)] := hl
  unfold wpX7_instruct at h
  refine lv_iload_n hx hb dX7_instruct_0 rfl (lv_at hl 1 rfl) ?_
  refine lv_bipush (v := (7 : Int32)) hx hb dX7_instruct_1 (by decide) ?_
  refine r_icmp_ne hx hb rfl (show (7 : Int32).toInt = 7 by decide) (tgt := 17) dX7_instruct_3 (by decide) (fun c1 => ?_) (fun c1 => ?_)
  · have h := ite_f c1 h
    refine lv_aload_n hx hb dX7_instruct_17 rfl (lv_at hl 0 rfl) ?_
    refine lv_iload_n hx hb dX7_instruct_18 rfl (lv_at hl 2 rfl) ?_
    refine k_Vi (rest := []) (As := [.int p2]) ⟨hx, hb, hml, hown, hts⟩ hE hz hS hW (mtX7_isProvision l z G ad σ ν ρ lo p2 _ h) (cwV 1 hts gX7_instruct_X7_isProvision rfl rfl rfl (by decide +kernel) ⟨Nat.le_of_ble_eq_true rfl, Nat.le_of_ble_eq_true rfl⟩) (r_recv hE hW 30 0 rfl (ci := 10) rfl rfl) rfl hl.1 rfl (Nat.le_of_ble_eq_true rfl) dX7_instruct_19 ⟨Nat.le_of_ble_eq_true rfl, Nat.le_of_ble_eq_true rfl⟩ (fun r2 S1 H locs hp hW hS => ?_)
    obtain ⟨rfl, h⟩ := hp
    refine r_if_eq hx hb rfl (tgt := 43) dX7_instruct_22 (by decide) (fun c3 => ?_) (fun c3 => ?_)
    · have h := ite_t c3 h
      refine lv_iconst (v := (1 : Int32)) hx hb dX7_instruct_43 (by decide) ?_
      refine lv_goto (tgt := 48) hx hb dX7_instruct_44 (by decide) ?_
      exact tX7_instruct_48 (σ := σ) (ρ := ρ) X p1 p2 p3 p4 post  ρ ((1 : Int32)) hW hS (lv_sub hl [0, 1, 2, 3, 4] rfl) h
    · have h := ite_f c3 h
      exact tX7_instruct_25 (σ := σ) (ρ := ρ) X p1 p2 p3 p4 post  ρ hW hS (lv_sub hl [0, 1, 2, 3, 4] rfl) h
  · have h := ite_t c1 h
    refine lv_aload_n hx hb dX7_instruct_6 rfl (lv_at hl 0 rfl) ?_
    refine lv_iload_n hx hb dX7_instruct_7 rfl (lv_at hl 2 rfl) ?_
    refine k_Vi (rest := []) (As := [.int p2]) ⟨hx, hb, hml, hown, hts⟩ hE hz hS hW (mtX7_isInstruction l z G ad σ ν ρ lo p2 _ h) (cwV 1 hts gX7_instruct_X7_isInstruction rfl rfl rfl (by decide +kernel) ⟨Nat.le_of_ble_eq_true rfl, Nat.le_of_ble_eq_true rfl⟩) (r_recv hE hW 30 0 rfl (ci := 10) rfl rfl) rfl hl.1 rfl (Nat.le_of_ble_eq_true rfl) dX7_instruct_8 ⟨Nat.le_of_ble_eq_true rfl, Nat.le_of_ble_eq_true rfl⟩ (fun r37 S1 H locs hp hW hS => ?_)
    obtain ⟨rfl, h⟩ := hp
    refine r_if_ne hx hb rfl (tgt := 25) dX7_instruct_11 (by decide) (fun c38 => ?_) (fun c38 => ?_)
    · have h := ite_f c38 h
      exact tX7_instruct_25 (σ := σ) (ρ := ρ) X p1 p2 p3 p4 post  ρ hW hS (lv_sub hl [0, 1, 2, 3, 4] rfl) h
    · have h := ite_t c38 h
      refine lv_goto (tgt := 43) hx hb dX7_instruct_14 (by decide) ?_
      refine lv_iconst (v := (1 : Int32)) hx hb dX7_instruct_43 (by decide) ?_
      refine lv_goto (tgt := 48) hx hb dX7_instruct_44 (by decide) ?_
      exact tX7_instruct_48 (σ := σ) (ρ := ρ) X p1 p2 p3 p4 post  ρ ((1 : Int32)) hW hS (lv_sub hl [0, 1, 2, 3, 4] rfl) h
set_option maxHeartbeats 4000000 in
set_option maxRecDepth 100000 in
theorem mtX7_asksDay (l : Launch) (z : Nat) (G : Gl) (ad : Nat → Nat → Nat) (σ : SG) (ν : NU) (ρ : RH) (lo : Int64) (p1 : Int32) (p2 : Int32) (p3 : Int32) (post : Int32 → RH → Prop) (h : wpX7_asksDay ρ p1 p2 p3 post) : Met l yX7_asksDay wsX7_asksDay ({ frames := 2, cells := 0, slots := 0, locals := 43 } : Room) (Pcs z G ad (σ, ν, ρ, lo) [.ref (ad 30 0), .int p1, .int p2, .int p3]) (Qis z G ad (fun r S1 => ∃ t : RH, S1 = (σ, ν, t, lo) ∧ post r t)) 0 0 (Az z) := by
  refine Met.ofW (cc := cX7_asksDay) (maxL := 4) (ret := (some .boolean)) (by decide) rfl ?_
  intro p e s m args below meth c s₁ B hml hv
  obtain ⟨rfl, hz, hW, hE⟩ := hv
  have hx := B.exec
  have hb := B.bytes
  have hr := B.returns
  have hts := atoms_spec (ws := wsX7_asksDay) B.pre
  have hown : s.vm.findClass RX7 = some m.cls := findClass_of_methodNamed B.named
  have hlocks := B.notSynchronized
  have X : Cx p l e s m _ below meth c cX7_asksDay (some .boolean) 4 RX7 wsX7_asksDay z G := ⟨hx, hb, hr, hml, hown, hts, hlocks, hE, hz⟩
  have hS : va_S (Az z) s.heap s.heap [] := va_S.rf
  have hl := lv_entry [.ref (ad 30 0), .int p1, .int p2, .int p3] (n := 4) (Nat.le_of_ble_eq_true rfl)
  rw [lg_entry_eq]
  generalize (lg_sl [.ref (ad 30 0), .int p1, .int p2, .int p3] ++ List.replicate (4 - (lg_sl [.ref (ad 30 0), .int p1, .int p2, .int p3]).length) Slot.unset).toArray = ls at hl ⊢
  have hl : lv_has ls 4 [(0, .ref (ad 30 0)), (1, .int p1), (2, .int p2), (3, .int p3)] := hl
  unfold wpX7_asksDay at h
  refine lv_aload_n hx hb dX7_asksDay_0 rfl (lv_at hl 0 rfl) ?_
  refine lv_aload_n hx hb dX7_asksDay_1 rfl (lv_at hl 0 rfl) ?_
  refine lv_iload_n hx hb dX7_asksDay_2 rfl (lv_at hl 1 rfl) ?_
  refine k_Vi (rest := [.ref (ad 30 0)]) (As := [.int p1]) ⟨hx, hb, hml, hown, hts⟩ hE hz hS hW (mtX7_isInstruction l z G ad σ ν ρ lo p1 _ h) (cwV 1 hts gX7_asksDay_X7_isInstruction rfl rfl rfl (by decide +kernel) ⟨Nat.le_of_ble_eq_true rfl, Nat.le_of_ble_eq_true rfl⟩) (r_recv hE hW 30 0 rfl (ci := 10) rfl rfl) rfl hl.1 rfl (Nat.le_of_ble_eq_true rfl) dX7_asksDay_3 ⟨Nat.le_of_ble_eq_true rfl, Nat.le_of_ble_eq_true rfl⟩ (fun r1 S1 H locs hp hW hS => ?_)
  obtain ⟨rfl, h⟩ := hp
  refine r_if_ne hx hb rfl (tgt := 13) dX7_asksDay_6 (by decide) (fun c2 => ?_) (fun c2 => ?_)
  · have h := ite_f c2 h
    refine lv_iload_n hx hb dX7_asksDay_13 rfl (lv_at hl 2 rfl) ?_
    refine r_if_ne hx hb rfl (tgt := 21) dX7_asksDay_14 (by decide) (fun c3 => ?_) (fun c3 => ?_)
    · have h := ite_f c3 h
      refine lv_iload_n hx hb dX7_asksDay_21 rfl (lv_at hl 3 rfl) ?_
      refine r_if_eq hx hb rfl (tgt := 29) dX7_asksDay_22 (by decide) (fun c4 => ?_) (fun c4 => ?_)
      · have h := ite_t c4 h
        refine lv_iconst (v := (3 : Int32)) hx hb dX7_asksDay_29 (by decide) ?_
        refine k_Vi (rest := []) (As := [.int ((3 : Int32))]) ⟨hx, hb, hml, hown, hts⟩ hE hz hS hW (mtX7_goes l z G ad σ ν ρ lo ((3 : Int32)) _ h) (cwV 1 hts gX7_asksDay_X7_goes rfl rfl rfl (by decide +kernel) ⟨Nat.le_of_ble_eq_true rfl, Nat.le_of_ble_eq_true rfl⟩) (r_recv hE hW 30 0 rfl (ci := 10) rfl rfl) rfl hl.1 rfl (Nat.le_of_ble_eq_true rfl) dX7_asksDay_30 ⟨Nat.le_of_ble_eq_true rfl, Nat.le_of_ble_eq_true rfl⟩ (fun r5 S1 H locs hp hW hS => ?_)
        obtain ⟨t6, rfl, h⟩ := hp
        obtain ⟨g7, h⟩ := h
        exact W.zret (v := r5) (ty := .boolean) hx hb hr (narrow_bo g7) (fun t ht _ => ⟨⟨_, (σ, ν, t6, lo), rfl, ⟨_, rfl, h⟩, WP.at9 ht hW⟩, hS.F ht⟩) hS.2.2 dX7_asksDay_33 (hlocks := hlocks)
      · have h := ite_f c4 h
        refine lv_iconst (v := (0 : Int32)) hx hb dX7_asksDay_25 (by decide) ?_
        refine lv_goto (tgt := 30) hx hb dX7_asksDay_26 (by decide) ?_
        refine k_Vi (rest := []) (As := [.int ((0 : Int32))]) ⟨hx, hb, hml, hown, hts⟩ hE hz hS hW (mtX7_goes l z G ad σ ν ρ lo ((0 : Int32)) _ h) (cwV 1 hts gX7_asksDay_X7_goes rfl rfl rfl (by decide +kernel) ⟨Nat.le_of_ble_eq_true rfl, Nat.le_of_ble_eq_true rfl⟩) (r_recv hE hW 30 0 rfl (ci := 10) rfl rfl) rfl hl.1 rfl (Nat.le_of_ble_eq_true rfl) dX7_asksDay_30 ⟨Nat.le_of_ble_eq_true rfl, Nat.le_of_ble_eq_true rfl⟩ (fun r8 S1 H locs hp hW hS => ?_)
        obtain ⟨t9, rfl, h⟩ := hp
        obtain ⟨g10, h⟩ := h
        exact W.zret (v := r8) (ty := .boolean) hx hb hr (narrow_bo g10) (fun t ht _ => ⟨⟨_, (σ, ν, t9, lo), rfl, ⟨_, rfl, h⟩, WP.at9 ht hW⟩, hS.F ht⟩) hS.2.2 dX7_asksDay_33 (hlocks := hlocks)
    · have h := ite_t c3 h
      refine lv_iconst (v := (2 : Int32)) hx hb dX7_asksDay_17 (by decide) ?_
      refine lv_goto (tgt := 30) hx hb dX7_asksDay_18 (by decide) ?_
      refine k_Vi (rest := []) (As := [.int ((2 : Int32))]) ⟨hx, hb, hml, hown, hts⟩ hE hz hS hW (mtX7_goes l z G ad σ ν ρ lo ((2 : Int32)) _ h) (cwV 1 hts gX7_asksDay_X7_goes rfl rfl rfl (by decide +kernel) ⟨Nat.le_of_ble_eq_true rfl, Nat.le_of_ble_eq_true rfl⟩) (r_recv hE hW 30 0 rfl (ci := 10) rfl rfl) rfl hl.1 rfl (Nat.le_of_ble_eq_true rfl) dX7_asksDay_30 ⟨Nat.le_of_ble_eq_true rfl, Nat.le_of_ble_eq_true rfl⟩ (fun r11 S1 H locs hp hW hS => ?_)
      obtain ⟨t12, rfl, h⟩ := hp
      obtain ⟨g13, h⟩ := h
      exact W.zret (v := r11) (ty := .boolean) hx hb hr (narrow_bo g13) (fun t ht _ => ⟨⟨_, (σ, ν, t12, lo), rfl, ⟨_, rfl, h⟩, WP.at9 ht hW⟩, hS.F ht⟩) hS.2.2 dX7_asksDay_33 (hlocks := hlocks)
  · have h := ite_t c2 h
    refine lv_iconst (v := (1 : Int32)) hx hb dX7_asksDay_9 (by decide) ?_
    refine lv_goto (tgt := 30) hx hb dX7_asksDay_10 (by decide) ?_
    refine k_Vi (rest := []) (As := [.int ((1 : Int32))]) ⟨hx, hb, hml, hown, hts⟩ hE hz hS hW (mtX7_goes l z G ad σ ν ρ lo ((1 : Int32)) _ h) (cwV 1 hts gX7_asksDay_X7_goes rfl rfl rfl (by decide +kernel) ⟨Nat.le_of_ble_eq_true rfl, Nat.le_of_ble_eq_true rfl⟩) (r_recv hE hW 30 0 rfl (ci := 10) rfl rfl) rfl hl.1 rfl (Nat.le_of_ble_eq_true rfl) dX7_asksDay_30 ⟨Nat.le_of_ble_eq_true rfl, Nat.le_of_ble_eq_true rfl⟩ (fun r14 S1 H locs hp hW hS => ?_)
    obtain ⟨t15, rfl, h⟩ := hp
    obtain ⟨g16, h⟩ := h
    exact W.zret (v := r14) (ty := .boolean) hx hb hr (narrow_bo g16) (fun t ht _ => ⟨⟨_, (σ, ν, t15, lo), rfl, ⟨_, rfl, h⟩, WP.at9 ht hW⟩, hS.F ht⟩) hS.2.2 dX7_asksDay_33 (hlocks := hlocks)
set_option maxHeartbeats 4000000 in
set_option maxRecDepth 100000 in
theorem tX7_order_33 {p : Program} {l : Launch} {e : Env} {s : State} {m : MethodId} {args : Array Value} {below : List Frame} {meth : Method} {c : Code} {z : Nat} {G : Gl} {ad : Nat → Nat → Nat} {σ : SG} {ν : NU} {ρ : RH} {lo : Int64} (X : Cx p l e s m args below meth c cX7_order none 4 RX7 wsX7_order z G) (p1 : Int32) (p2 : Int32)  (post : RH → Prop) : ∀ (a3 : RH) (y0 : Int32) {H : Heap} {locs : List Loc} {ls : Array Slot}, WP z G ad (σ, ν, a3, lo) H → va_S (Az z) s.heap H locs → lv_has ls 4 [(0, .ref (ad 30 0)), (1, .int p1), (2, .int p2)] → jX7_order_33 p1 p2 post a3 y0 → W p l e ({ frames := 3, cells := 0, slots := 0, locals := 66 } : Room) s m args below meth c H locs 0 0 (MQ below (Qvs z G ad (fun S1 => ∃ t : RH, S1 = (σ, ν, t, lo) ∧ post t)) args s 0 0 (Az z)) (F0 m 33 ls [.int y0]) := by
  obtain ⟨hx, hb, hr, hml, hown, hts, hlocks, hE, hz⟩ := id X
  intro a3 y0 H locs ls hW hS hl h
  unfold jX7_order_33 at h
  refine lv_istore_n (lv' := [(3, .int y0), (0, .ref (ad 30 0)), (1, .int p1), (2, .int p2)]) hx hb dX7_order_33 rfl hl (by decide) rfl (fun ls hl => ?_)
  refine lv_aload_n hx hb dX7_order_34 rfl (lv_at hl 1 rfl) ?_
  refine lv_iload_n hx hb dX7_order_35 rfl (lv_at hl 2 rfl) ?_
  refine lv_iload_n hx hb dX7_order_36 rfl (lv_at hl 3 rfl) ?_
  refine k_Si (rest := [.int p1, .ref (ad 30 0)]) (As := [.int p2]) ⟨hx, hb, hml, hown, hts⟩ hE hz hS hW (mtX7_isDay l z G ad σ ν a3 lo p2 _ h) (va_cwS 1 hts gX7_order_X7_isDay rfl rfl rfl (by decide +kernel) ⟨Nat.le_of_ble_eq_true rfl, Nat.le_of_ble_eq_true rfl⟩) rfl hl.1 rfl (Nat.le_of_ble_eq_true rfl) dX7_order_37 ⟨Nat.le_of_ble_eq_true rfl, Nat.le_of_ble_eq_true rfl⟩ (fun r3 S1 H locs hp hW hS => ?_)
  obtain ⟨rfl, h⟩ := hp
  refine lv_iload_n hx hb dX7_order_40 rfl (lv_at hl 0 rfl) ?_
  refine k_Vi (rest := []) (As := [.int p1, .int r3, .int y0]) ⟨hx, hb, hml, hown, hts⟩ hE hz hS hW (mtX7_asksDay l z G ad σ ν a3 lo p1 r3 y0 _ h) (cwV 3 hts gX7_order_X7_asksDay rfl rfl rfl (by decide +kernel) ⟨Nat.le_of_ble_eq_true rfl, Nat.le_of_ble_eq_true rfl⟩) (r_recv hE hW 30 0 rfl (ci := 10) rfl rfl) rfl hl.1 rfl (Nat.le_of_ble_eq_true rfl) dX7_order_41 ⟨Nat.le_of_ble_eq_true rfl, Nat.le_of_ble_eq_true rfl⟩ (fun r4 S1 H locs hp hW hS => ?_)
  obtain ⟨t5, rfl, h⟩ := hp
  refine r_if_eq hx hb rfl (tgt := 64) dX7_order_44 (by decide) (fun c6 => ?_) (fun c6 => ?_)
  · have h := ite_t c6 h
    exact W.vret hx hb hr (fun t ht _ => ⟨⟨(σ, ν, t5, lo), rfl, ⟨_, rfl, h⟩, WP.at9 ht hW⟩, hS.F ht⟩) hS.2.2 dX7_order_64 (hlocks := hlocks)
  · have h := ite_f c6 h
    refine lv_aload_n hx hb dX7_order_47 rfl (lv_at hl 1 rfl) ?_
    refine r_get (C := RX7) (T := TX7) (N := 49) (ci := 10) (fs := fl_30 ad ν t5 0 (σ 30 0)) hx hb hts hown hE hW 30 0 rfl rfl rfl (fun w h => List.mem_cons_of_mem _ (List.mem_append_right _ h)) 26 (by decide) (List.mem_of_getElem? (i := 2) rfl) rfl (v := .ref (ad 126 0)) rfl dX7_order_48 ?_
    refine lv_iload_n hx hb dX7_order_51 rfl (lv_at hl 2 rfl) ?_
    refine lv_aload_n hx hb dX7_order_52 rfl (lv_at hl 1 rfl) ?_
    refine r_get (C := RX7) (T := TX7) (N := 49) (ci := 10) (fs := fl_30 ad ν t5 0 (σ 30 0)) hx hb hts hown hE hW 30 0 rfl rfl rfl (fun w h => List.mem_cons_of_mem _ (List.mem_append_right _ h)) 0 (by decide) (List.mem_of_getElem? (i := 3) rfl) rfl (v := .int (t5 0 0)) rfl dX7_order_53 ?_
    obtain ⟨b7, h⟩ := h
    refine r_iastM hx hb hE hW hS 26 (k := 126) rfl ⟨rfl, by decide, by decide⟩ (n := 40) (fun _ => rfl) (fun t q => by simp [fl_30, q]) b7 dX7_order_56 (fun t8 e9 H locs hW hS => ?_)
    have h := h t8 e9
    refine lv_aload_n hx hb dX7_order_57 rfl (lv_at hl 1 rfl) ?_
    refine r_get (C := RX7) (T := TX7) (N := 49) (ci := 10) (fs := fl_30 ad ν t8 0 (σ 30 0)) hx hb hts hown hE hW 30 0 rfl rfl rfl (fun w h => List.mem_cons_of_mem _ (List.mem_append_right _ h)) 27 (by decide) (List.mem_of_getElem? (i := 4) rfl) rfl (v := .ref (ad 127 0)) rfl dX7_order_58 ?_
    refine lv_iload_n hx hb dX7_order_61 rfl (lv_at hl 2 rfl) ?_
    refine lv_iload_n hx hb dX7_order_62 rfl (lv_at hl 3 rfl) ?_
    obtain ⟨b10, h⟩ := h
    refine r_iastM hx hb hE hW hS 27 (k := 127) rfl ⟨rfl, by decide, by decide⟩ (n := 40) (fun _ => rfl) (fun t q => by simp [fl_30, q]) b10 dX7_order_63 (fun t11 e12 H locs hW hS => ?_)
    have h := h t11 e12
    exact W.vret hx hb hr (fun t ht _ => ⟨⟨(σ, ν, t11, lo), rfl, ⟨_, rfl, h⟩, WP.at9 ht hW⟩, hS.F ht⟩) hS.2.2 dX7_order_64 (hlocks := hlocks)
set_option maxHeartbeats 4000000 in
set_option maxRecDepth 100000 in
theorem mtX7_order (l : Launch) (z : Nat) (G : Gl) (ad : Nat → Nat → Nat) (σ : SG) (ν : NU) (ρ : RH) (lo : Int64) (p1 : Int32) (p2 : Int32) (post : RH → Prop) (h : wpX7_order ρ p1 p2 post) : Met l yX7_order wsX7_order ({ frames := 3, cells := 0, slots := 0, locals := 66 } : Room) (Pcs z G ad (σ, ν, ρ, lo) [.ref (ad 30 0), .int p1, .int p2]) (Qvs z G ad (fun S1 => ∃ t : RH, S1 = (σ, ν, t, lo) ∧ post t)) 0 0 (Az z) := by
  refine Met.ofW (cc := cX7_order) (maxL := 4) (ret := none) (by decide) rfl ?_
  intro p e s m args below meth c s₁ B hml hv
  obtain ⟨rfl, hz, hW, hE⟩ := hv
  have hx := B.exec
  have hb := B.bytes
  have hr := B.returns
  have hts := atoms_spec (ws := wsX7_order) B.pre
  have hown : s.vm.findClass RX7 = some m.cls := findClass_of_methodNamed B.named
  have hlocks := B.notSynchronized
  have X : Cx p l e s m _ below meth c cX7_order none 4 RX7 wsX7_order z G := ⟨hx, hb, hr, hml, hown, hts, hlocks, hE, hz⟩
  have hS : va_S (Az z) s.heap s.heap [] := va_S.rf
  have hl := lv_entry [.ref (ad 30 0), .int p1, .int p2] (n := 4) (Nat.le_of_ble_eq_true rfl)
  rw [lg_entry_eq]
  generalize (lg_sl [.ref (ad 30 0), .int p1, .int p2] ++ List.replicate (4 - (lg_sl [.ref (ad 30 0), .int p1, .int p2]).length) Slot.unset).toArray = ls at hl ⊢
  have hl : lv_has ls 4 [(0, .ref (ad 30 0)), (1, .int p1), (2, .int p2)] := hl
  unfold wpX7_order at h
  refine lv_aload_n hx hb dX7_order_0 rfl (lv_at hl 0 rfl) ?_
  refine lv_iload_n hx hb dX7_order_1 rfl (lv_at hl 1 rfl) ?_
  refine k_Vi (rest := []) (As := [.int p1]) ⟨hx, hb, hml, hown, hts⟩ hE hz hS hW (mtX7_isInstruction l z G ad σ ν ρ lo p1 _ h) (cwV 1 hts gX7_order_X7_isInstruction rfl rfl rfl (by decide +kernel) ⟨Nat.le_of_ble_eq_true rfl, Nat.le_of_ble_eq_true rfl⟩) (r_recv hE hW 30 0 rfl (ci := 10) rfl rfl) rfl hl.1 rfl (Nat.le_of_ble_eq_true rfl) dX7_order_2 ⟨Nat.le_of_ble_eq_true rfl, Nat.le_of_ble_eq_true rfl⟩ (fun r1 S1 H locs hp hW hS => ?_)
  obtain ⟨rfl, h⟩ := hp
  refine r_if_eq hx hb rfl (tgt := 32) dX7_order_5 (by decide) (fun c2 => ?_) (fun c2 => ?_)
  · have h := ite_t c2 h
    refine lv_iconst (v := (0 : Int32)) hx hb dX7_order_32 (by decide) ?_
    exact tX7_order_33 (σ := σ) (ρ := ρ) X p1 p2 post  ρ ((0 : Int32)) hW hS (lv_sub hl [0, 1, 2] rfl) h
  · have h := ite_f c2 h
    refine lv_aload_n hx hb dX7_order_8 rfl (lv_at hl 0 rfl) ?_
    refine r_get (C := RX7) (T := TX7) (N := 49) (ci := 10) (fs := fl_30 ad ν ρ 0 (σ 30 0)) hx hb hts hown hE hW 30 0 rfl rfl rfl (fun w h => List.mem_cons_of_mem _ (List.mem_append_right _ h)) 22 (by decide) (List.mem_of_getElem? (i := 1) rfl) rfl (v := .ref (ad 122 0)) rfl dX7_order_9 ?_
    refine lv_iload_n hx hb dX7_order_12 rfl (lv_at hl 1 rfl) ?_
    obtain ⟨b13, h⟩ := h
    refine r_iald hx hb hE hW 122 0 ⟨rfl, by decide, by decide⟩ (n := 40) (f := ρ 22) rfl b13 (v := ρ 22 p1.toNatClampNeg) rfl dX7_order_13 ?_
    refine lv_iconst (v := (1 : Int32)) hx hb dX7_order_14 (by decide) ?_
    refine r_icmp_ne hx hb rfl (show (1 : Int32).toInt = 1 by decide) (tgt := 32) dX7_order_15 (by decide) (fun c14 => ?_) (fun c14 => ?_)
    · have h := ite_f c14 h
      refine lv_iconst (v := (0 : Int32)) hx hb dX7_order_32 (by decide) ?_
      exact tX7_order_33 (σ := σ) (ρ := ρ) X p1 p2 post  ρ ((0 : Int32)) hW hS (lv_sub hl [0, 1, 2] rfl) h
    · have h := ite_t c14 h
      refine lv_aload_n hx hb dX7_order_18 rfl (lv_at hl 0 rfl) ?_
      refine r_get (C := RX7) (T := TX7) (N := 49) (ci := 10) (fs := fl_30 ad ν ρ 0 (σ 30 0)) hx hb hts hown hE hW 30 0 rfl rfl rfl (fun w h => List.mem_cons_of_mem _ (List.mem_append_right _ h)) 26 (by decide) (List.mem_of_getElem? (i := 2) rfl) rfl (v := .ref (ad 126 0)) rfl dX7_order_19 ?_
      refine lv_iload_n hx hb dX7_order_22 rfl (lv_at hl 1 rfl) ?_
      obtain ⟨b15, h⟩ := h
      refine r_iald hx hb hE hW 126 0 ⟨rfl, by decide, by decide⟩ (n := 40) (f := ρ 26) rfl b15 (v := ρ 26 p1.toNatClampNeg) rfl dX7_order_23 ?_
      refine lv_iconst (v := (-1 : Int32)) hx hb dX7_order_24 (by decide) ?_
      refine r_icmp_ne hx hb rfl (show (-1 : Int32).toInt = (-1) by decide) (tgt := 32) dX7_order_25 (by decide) (fun c16 => ?_) (fun c16 => ?_)
      · have h := ite_f c16 h
        refine lv_iconst (v := (0 : Int32)) hx hb dX7_order_32 (by decide) ?_
        exact tX7_order_33 (σ := σ) (ρ := ρ) X p1 p2 post  ρ ((0 : Int32)) hW hS (lv_sub hl [0, 1, 2] rfl) h
      · have h := ite_t c16 h
        refine lv_iconst (v := (1 : Int32)) hx hb dX7_order_28 (by decide) ?_
        refine lv_goto (tgt := 33) hx hb dX7_order_29 (by decide) ?_
        exact tX7_order_33 (σ := σ) (ρ := ρ) X p1 p2 post  ρ ((1 : Int32)) hW hS (lv_sub hl [0, 1, 2] rfl) h
set_option maxHeartbeats 4000000 in
set_option maxRecDepth 100000 in
theorem tX7_strike_29 {p : Program} {l : Launch} {e : Env} {s : State} {m : MethodId} {args : Array Value} {below : List Frame} {meth : Method} {c : Code} {z : Nat} {G : Gl} {ad : Nat → Nat → Nat} {σ : SG} {ν : NU} {ρ : RH} {lo : Int64} (X : Cx p l e s m args below meth c cX7_strike none 3 RX7 wsX7_strike z G) (p1 : Int32) (p2 : Int32)  (post : RH → Prop) : ∀ (a3 : RH) (y0 : Nat) (y1 : Int32) (y2 : Int32) (y3 : Int32) {H : Heap} {locs : List Loc} {ls : Array Slot}, WP z G ad (σ, ν, a3, lo) H → va_S (Az z) s.heap H locs → lv_has ls 3 [(0, .ref (ad 30 0)), (1, .int p1), (2, .int p2)] → jX7_strike_29 p1 p2 post a3 y0 y1 y2 y3 → W p l e ({ frames := 3, cells := 0, slots := 0, locals := 66 } : Room) s m args below meth c H locs 0 0 (MQ below (Qvs z G ad (fun S1 => ∃ t : RH, S1 = (σ, ν, t, lo) ∧ post t)) args s 0 0 (Az z)) (F0 m 29 ls [.int y3, .int y2, .int y1, .ref (ad 30 0)]) := by
  obtain ⟨hx, hb, hr, hml, hown, hts, hlocks, hE, hz⟩ := id X
  intro a3 y0 y1 y2 y3 H locs ls hW hS hl h
  unfold jX7_strike_29 at h
  refine k_Vi (rest := []) (As := [.int y1, .int y2, .int y3]) ⟨hx, hb, hml, hown, hts⟩ hE hz hS hW (mtX7_asksDay l z G ad σ ν a3 lo y1 y2 y3 _ h) (cwV 3 hts gX7_strike_X7_asksDay rfl rfl rfl (by decide +kernel) ⟨Nat.le_of_ble_eq_true rfl, Nat.le_of_ble_eq_true rfl⟩) (r_recv hE hW 30 0 rfl (ci := 10) rfl rfl) rfl hl.1 rfl (Nat.le_of_ble_eq_true rfl) dX7_strike_29 ⟨Nat.le_of_ble_eq_true rfl, Nat.le_of_ble_eq_true rfl⟩ (fun r4 S1 H locs hp hW hS => ?_)
  obtain ⟨t5, rfl, h⟩ := hp
  refine r_if_eq hx hb rfl (tgt := 52) dX7_strike_32 (by decide) (fun c6 => ?_) (fun c6 => ?_)
  · have h := ite_t c6 h
    exact W.vret hx hb hr (fun t ht _ => ⟨⟨(σ, ν, t5, lo), rfl, ⟨_, rfl, h⟩, WP.at9 ht hW⟩, hS.F ht⟩) hS.2.2 dX7_strike_52 (hlocks := hlocks)
  · have h := ite_f c6 h
    refine lv_aload_n hx hb dX7_strike_35 rfl (lv_at hl 0 rfl) ?_
    refine r_get (C := RX7) (T := TX7) (N := 49) (ci := 10) (fs := fl_30 ad ν t5 0 (σ 30 0)) hx hb hts hown hE hW 30 0 rfl rfl rfl (fun w h => List.mem_cons_of_mem _ (List.mem_append_right _ h)) 28 (by decide) (List.mem_of_getElem? (i := 1) rfl) rfl (v := .ref (ad 128 0)) rfl dX7_strike_36 ?_
    refine lv_iload_n hx hb dX7_strike_39 rfl (lv_at hl 1 rfl) ?_
    refine lv_aload_n hx hb dX7_strike_40 rfl (lv_at hl 0 rfl) ?_
    refine r_get (C := RX7) (T := TX7) (N := 49) (ci := 10) (fs := fl_30 ad ν t5 0 (σ 30 0)) hx hb hts hown hE hW 30 0 rfl rfl rfl (fun w h => List.mem_cons_of_mem _ (List.mem_append_right _ h)) 0 (by decide) (List.mem_of_getElem? (i := 2) rfl) rfl (v := .int (t5 0 0)) rfl dX7_strike_41 ?_
    obtain ⟨b7, h⟩ := h
    refine r_iastM hx hb hE hW hS 28 (k := 128) rfl ⟨rfl, by decide, by decide⟩ (n := 40) (fun _ => rfl) (fun t q => by simp [fl_30, q]) b7 dX7_strike_44 (fun t8 e9 H locs hW hS => ?_)
    have h := h t8 e9
    refine lv_aload_n hx hb dX7_strike_45 rfl (lv_at hl 0 rfl) ?_
    refine r_get (C := RX7) (T := TX7) (N := 49) (ci := 10) (fs := fl_30 ad ν t8 0 (σ 30 0)) hx hb hts hown hE hW 30 0 rfl rfl rfl (fun w h => List.mem_cons_of_mem _ (List.mem_append_right _ h)) 29 (by decide) (List.mem_of_getElem? (i := 3) rfl) rfl (v := .ref (ad 129 0)) rfl dX7_strike_46 ?_
    refine lv_iload_n hx hb dX7_strike_49 rfl (lv_at hl 1 rfl) ?_
    refine lv_iload_n hx hb dX7_strike_50 rfl (lv_at hl 2 rfl) ?_
    obtain ⟨b10, h⟩ := h
    refine r_iastM hx hb hE hW hS 29 (k := 129) rfl ⟨rfl, by decide, by decide⟩ (n := 40) (fun _ => rfl) (fun t q => by simp [fl_30, q]) b10 dX7_strike_51 (fun t11 e12 H locs hW hS => ?_)
    have h := h t11 e12
    exact W.vret hx hb hr (fun t ht _ => ⟨⟨(σ, ν, t11, lo), rfl, ⟨_, rfl, h⟩, WP.at9 ht hW⟩, hS.F ht⟩) hS.2.2 dX7_strike_52 (hlocks := hlocks)
set_option maxHeartbeats 4000000 in
set_option maxRecDepth 100000 in
theorem mtX7_strike (l : Launch) (z : Nat) (G : Gl) (ad : Nat → Nat → Nat) (σ : SG) (ν : NU) (ρ : RH) (lo : Int64) (p1 : Int32) (p2 : Int32) (post : RH → Prop) (h : wpX7_strike ρ p1 p2 post) : Met l yX7_strike wsX7_strike ({ frames := 3, cells := 0, slots := 0, locals := 66 } : Room) (Pcs z G ad (σ, ν, ρ, lo) [.ref (ad 30 0), .int p1, .int p2]) (Qvs z G ad (fun S1 => ∃ t : RH, S1 = (σ, ν, t, lo) ∧ post t)) 0 0 (Az z) := by
  refine Met.ofW (cc := cX7_strike) (maxL := 3) (ret := none) (by decide) rfl ?_
  intro p e s m args below meth c s₁ B hml hv
  obtain ⟨rfl, hz, hW, hE⟩ := hv
  have hx := B.exec
  have hb := B.bytes
  have hr := B.returns
  have hts := atoms_spec (ws := wsX7_strike) B.pre
  have hown : s.vm.findClass RX7 = some m.cls := findClass_of_methodNamed B.named
  have hlocks := B.notSynchronized
  have X : Cx p l e s m _ below meth c cX7_strike none 3 RX7 wsX7_strike z G := ⟨hx, hb, hr, hml, hown, hts, hlocks, hE, hz⟩
  have hS : va_S (Az z) s.heap s.heap [] := va_S.rf
  have hl := lv_entry [.ref (ad 30 0), .int p1, .int p2] (n := 3) (Nat.le_of_ble_eq_true rfl)
  rw [lg_entry_eq]
  generalize (lg_sl [.ref (ad 30 0), .int p1, .int p2] ++ List.replicate (3 - (lg_sl [.ref (ad 30 0), .int p1, .int p2]).length) Slot.unset).toArray = ls at hl ⊢
  have hl : lv_has ls 3 [(0, .ref (ad 30 0)), (1, .int p1), (2, .int p2)] := hl
  unfold wpX7_strike at h
  refine lv_aload_n hx hb dX7_strike_0 rfl (lv_at hl 0 rfl) ?_
  refine lv_iload_n hx hb dX7_strike_1 rfl (lv_at hl 1 rfl) ?_
  refine lv_iload_n hx hb dX7_strike_2 rfl (lv_at hl 2 rfl) ?_
  refine k_Si (rest := [.int p1, .ref (ad 30 0)]) (As := [.int p2]) ⟨hx, hb, hml, hown, hts⟩ hE hz hS hW (mtX7_isDay l z G ad σ ν ρ lo p2 _ h) (va_cwS 1 hts gX7_strike_X7_isDay rfl rfl rfl (by decide +kernel) ⟨Nat.le_of_ble_eq_true rfl, Nat.le_of_ble_eq_true rfl⟩) rfl hl.1 rfl (Nat.le_of_ble_eq_true rfl) dX7_strike_3 ⟨Nat.le_of_ble_eq_true rfl, Nat.le_of_ble_eq_true rfl⟩ (fun r1 S1 H locs hp hW hS => ?_)
  obtain ⟨rfl, h⟩ := hp
  refine lv_aload_n hx hb dX7_strike_6 rfl (lv_at hl 0 rfl) ?_
  refine lv_iload_n hx hb dX7_strike_7 rfl (lv_at hl 1 rfl) ?_
  refine k_Vi (rest := [.int r1, .int p1, .ref (ad 30 0)]) (As := [.int p1]) ⟨hx, hb, hml, hown, hts⟩ hE hz hS hW (mtX7_isInstruction l z G ad σ ν ρ lo p1 _ h) (cwV 1 hts gX7_strike_X7_isInstruction rfl rfl rfl (by decide +kernel) ⟨Nat.le_of_ble_eq_true rfl, Nat.le_of_ble_eq_true rfl⟩) (r_recv hE hW 30 0 rfl (ci := 10) rfl rfl) rfl hl.1 rfl (Nat.le_of_ble_eq_true rfl) dX7_strike_8 ⟨Nat.le_of_ble_eq_true rfl, Nat.le_of_ble_eq_true rfl⟩ (fun r2 S1 H locs hp hW hS => ?_)
  obtain ⟨rfl, h⟩ := hp
  refine r_if_eq hx hb rfl (tgt := 28) dX7_strike_11 (by decide) (fun c3 => ?_) (fun c3 => ?_)
  · have h := ite_t c3 h
    refine lv_iconst (v := (0 : Int32)) hx hb dX7_strike_28 (by decide) ?_
    exact tX7_strike_29 (σ := σ) (ρ := ρ) X p1 p2 post  ρ 0 p1 r1 ((0 : Int32)) hW hS (lv_sub hl [0, 1, 2] rfl) h
  · have h := ite_f c3 h
    refine lv_aload_n hx hb dX7_strike_14 rfl (lv_at hl 0 rfl) ?_
    refine r_get (C := RX7) (T := TX7) (N := 49) (ci := 10) (fs := fl_30 ad ν ρ 0 (σ 30 0)) hx hb hts hown hE hW 30 0 rfl rfl rfl (fun w h => List.mem_cons_of_mem _ (List.mem_append_right _ h)) 28 (by decide) (List.mem_of_getElem? (i := 1) rfl) rfl (v := .ref (ad 128 0)) rfl dX7_strike_15 ?_
    refine lv_iload_n hx hb dX7_strike_18 rfl (lv_at hl 1 rfl) ?_
    obtain ⟨b13, h⟩ := h
    refine r_iald hx hb hE hW 128 0 ⟨rfl, by decide, by decide⟩ (n := 40) (f := ρ 28) rfl b13 (v := ρ 28 p1.toNatClampNeg) rfl dX7_strike_19 ?_
    refine lv_iconst (v := (-1 : Int32)) hx hb dX7_strike_20 (by decide) ?_
    refine r_icmp_ne hx hb rfl (show (-1 : Int32).toInt = (-1) by decide) (tgt := 28) dX7_strike_21 (by decide) (fun c14 => ?_) (fun c14 => ?_)
    · have h := ite_f c14 h
      refine lv_iconst (v := (0 : Int32)) hx hb dX7_strike_28 (by decide) ?_
      exact tX7_strike_29 (σ := σ) (ρ := ρ) X p1 p2 post  ρ 0 p1 r1 ((0 : Int32)) hW hS (lv_sub hl [0, 1, 2] rfl) h
    · have h := ite_t c14 h
      refine lv_iconst (v := (1 : Int32)) hx hb dX7_strike_24 (by decide) ?_
      refine lv_goto (tgt := 29) hx hb dX7_strike_25 (by decide) ?_
      exact tX7_strike_29 (σ := σ) (ρ := ρ) X p1 p2 post  ρ 0 p1 r1 ((1 : Int32)) hW hS (lv_sub hl [0, 1, 2] rfl) h
set_option maxHeartbeats 4000000 in
set_option maxRecDepth 100000 in
theorem tX7_suspend_48 {p : Program} {l : Launch} {e : Env} {s : State} {m : MethodId} {args : Array Value} {below : List Frame} {meth : Method} {c : Code} {z : Nat} {G : Gl} {ad : Nat → Nat → Nat} {σ : SG} {ν : NU} {ρ : RH} {lo : Int64} (X : Cx p l e s m args below meth c cX7_suspend none 4 RX7 wsX7_suspend z G) (p1 : Int32) (p2 : Int32) (p3 : Int32)  (post : RH → Prop) : ∀ (a3 : RH) (y0 : Nat) (y1 : Int32) (y2 : Int32) (y3 : Int32) {H : Heap} {locs : List Loc} {ls : Array Slot}, WP z G ad (σ, ν, a3, lo) H → va_S (Az z) s.heap H locs → lv_has ls 4 [(0, .ref (ad 30 0)), (1, .int p1), (2, .int p2), (3, .int p3)] → jX7_suspend_48 p1 p2 p3 post a3 y0 y1 y2 y3 → W p l e ({ frames := 3, cells := 0, slots := 0, locals := 66 } : Room) s m args below meth c H locs 0 0 (MQ below (Qvs z G ad (fun S1 => ∃ t : RH, S1 = (σ, ν, t, lo) ∧ post t)) args s 0 0 (Az z)) (F0 m 48 ls [.int y3, .int y2, .int y1, .ref (ad 30 0)]) := by
  obtain ⟨hx, hb, hr, hml, hown, hts, hlocks, hE, hz⟩ := id X
  intro a3 y0 y1 y2 y3 H locs ls hW hS hl h
  unfold jX7_suspend_48 at h
  refine k_Vi (rest := []) (As := [.int y1, .int y2, .int y3]) ⟨hx, hb, hml, hown, hts⟩ hE hz hS hW (mtX7_asksDay l z G ad σ ν a3 lo y1 y2 y3 _ h) (cwV 3 hts gX7_suspend_X7_asksDay rfl rfl rfl (by decide +kernel) ⟨Nat.le_of_ble_eq_true rfl, Nat.le_of_ble_eq_true rfl⟩) (r_recv hE hW 30 0 rfl (ci := 10) rfl rfl) rfl hl.1 rfl (Nat.le_of_ble_eq_true rfl) dX7_suspend_48 ⟨Nat.le_of_ble_eq_true rfl, Nat.le_of_ble_eq_true rfl⟩ (fun r5 S1 H locs hp hW hS => ?_)
  obtain ⟨t6, rfl, h⟩ := hp
  refine r_if_eq hx hb rfl (tgt := 78) dX7_suspend_51 (by decide) (fun c7 => ?_) (fun c7 => ?_)
  · have h := ite_t c7 h
    exact W.vret hx hb hr (fun t ht _ => ⟨⟨(σ, ν, t6, lo), rfl, ⟨_, rfl, h⟩, WP.at9 ht hW⟩, hS.F ht⟩) hS.2.2 dX7_suspend_78 (hlocks := hlocks)
  · have h := ite_f c7 h
    refine lv_aload_n hx hb dX7_suspend_54 rfl (lv_at hl 0 rfl) ?_
    refine r_get (C := RX7) (T := TX7) (N := 49) (ci := 10) (fs := fl_30 ad ν t6 0 (σ 30 0)) hx hb hts hown hE hW 30 0 rfl rfl rfl (fun w h => List.mem_cons_of_mem _ (List.mem_append_right _ h)) 30 (by decide) (List.mem_of_getElem? (i := 1) rfl) rfl (v := .ref (ad 130 0)) rfl dX7_suspend_55 ?_
    refine lv_iload_n hx hb dX7_suspend_58 rfl (lv_at hl 1 rfl) ?_
    refine lv_aload_n hx hb dX7_suspend_59 rfl (lv_at hl 0 rfl) ?_
    refine r_get (C := RX7) (T := TX7) (N := 49) (ci := 10) (fs := fl_30 ad ν t6 0 (σ 30 0)) hx hb hts hown hE hW 30 0 rfl rfl rfl (fun w h => List.mem_cons_of_mem _ (List.mem_append_right _ h)) 0 (by decide) (List.mem_of_getElem? (i := 2) rfl) rfl (v := .int (t6 0 0)) rfl dX7_suspend_60 ?_
    obtain ⟨b8, h⟩ := h
    refine r_iastM hx hb hE hW hS 30 (k := 130) rfl ⟨rfl, by decide, by decide⟩ (n := 40) (fun _ => rfl) (fun t q => by simp [fl_30, q]) b8 dX7_suspend_63 (fun t9 e10 H locs hW hS => ?_)
    have h := h t9 e10
    refine lv_aload_n hx hb dX7_suspend_64 rfl (lv_at hl 0 rfl) ?_
    refine r_get (C := RX7) (T := TX7) (N := 49) (ci := 10) (fs := fl_30 ad ν t9 0 (σ 30 0)) hx hb hts hown hE hW 30 0 rfl rfl rfl (fun w h => List.mem_cons_of_mem _ (List.mem_append_right _ h)) 31 (by decide) (List.mem_of_getElem? (i := 3) rfl) rfl (v := .ref (ad 131 0)) rfl dX7_suspend_65 ?_
    refine lv_iload_n hx hb dX7_suspend_68 rfl (lv_at hl 1 rfl) ?_
    refine lv_iload_n hx hb dX7_suspend_69 rfl (lv_at hl 2 rfl) ?_
    obtain ⟨b11, h⟩ := h
    refine r_iastM hx hb hE hW hS 31 (k := 131) rfl ⟨rfl, by decide, by decide⟩ (n := 40) (fun _ => rfl) (fun t q => by simp [fl_30, q]) b11 dX7_suspend_70 (fun t12 e13 H locs hW hS => ?_)
    have h := h t12 e13
    refine lv_aload_n hx hb dX7_suspend_71 rfl (lv_at hl 0 rfl) ?_
    refine r_get (C := RX7) (T := TX7) (N := 49) (ci := 10) (fs := fl_30 ad ν t12 0 (σ 30 0)) hx hb hts hown hE hW 30 0 rfl rfl rfl (fun w h => List.mem_cons_of_mem _ (List.mem_append_right _ h)) 32 (by decide) (List.mem_of_getElem? (i := 4) rfl) rfl (v := .ref (ad 132 0)) rfl dX7_suspend_72 ?_
    refine lv_iload_n hx hb dX7_suspend_75 rfl (lv_at hl 1 rfl) ?_
    refine lv_iload_n hx hb dX7_suspend_76 rfl (lv_at hl 3 rfl) ?_
    obtain ⟨b14, h⟩ := h
    refine r_iastM hx hb hE hW hS 32 (k := 132) rfl ⟨rfl, by decide, by decide⟩ (n := 40) (fun _ => rfl) (fun t q => by simp [fl_30, q]) b14 dX7_suspend_77 (fun t15 e16 H locs hW hS => ?_)
    have h := h t15 e16
    exact W.vret hx hb hr (fun t ht _ => ⟨⟨(σ, ν, t15, lo), rfl, ⟨_, rfl, h⟩, WP.at9 ht hW⟩, hS.F ht⟩) hS.2.2 dX7_suspend_78 (hlocks := hlocks)
set_option maxHeartbeats 4000000 in
set_option maxRecDepth 100000 in
theorem tX7_suspend_25 {p : Program} {l : Launch} {e : Env} {s : State} {m : MethodId} {args : Array Value} {below : List Frame} {meth : Method} {c : Code} {z : Nat} {G : Gl} {ad : Nat → Nat → Nat} {σ : SG} {ν : NU} {ρ : RH} {lo : Int64} (X : Cx p l e s m args below meth c cX7_suspend none 4 RX7 wsX7_suspend z G) (p1 : Int32) (p2 : Int32) (p3 : Int32)  (post : RH → Prop) : ∀ (a3 : RH) (y0 : Nat) (y1 : Int32) (y2 : Int32) {H : Heap} {locs : List Loc} {ls : Array Slot}, WP z G ad (σ, ν, a3, lo) H → va_S (Az z) s.heap H locs → lv_has ls 4 [(0, .ref (ad 30 0)), (1, .int p1), (2, .int p2), (3, .int p3)] → jX7_suspend_25 p1 p2 p3 post a3 y0 y1 y2 → W p l e ({ frames := 3, cells := 0, slots := 0, locals := 66 } : Room) s m args below meth c H locs 0 0 (MQ below (Qvs z G ad (fun S1 => ∃ t : RH, S1 = (σ, ν, t, lo) ∧ post t)) args s 0 0 (Az z)) (F0 m 25 ls [.int y2, .int y1, .ref (ad 30 0)]) := by
  obtain ⟨hx, hb, hr, hml, hown, hts, hlocks, hE, hz⟩ := id X
  intro a3 y0 y1 y2 H locs ls hW hS hl h
  unfold jX7_suspend_25 at h
  refine lv_aload_n hx hb dX7_suspend_25 rfl (lv_at hl 0 rfl) ?_
  refine lv_iload_n hx hb dX7_suspend_26 rfl (lv_at hl 1 rfl) ?_
  refine k_Vi (rest := [.int y2, .int y1, .ref (ad 30 0)]) (As := [.int p1]) ⟨hx, hb, hml, hown, hts⟩ hE hz hS hW (mtX7_isInstruction l z G ad σ ν a3 lo p1 _ h) (cwV 1 hts gX7_suspend_X7_isInstruction rfl rfl rfl (by decide +kernel) ⟨Nat.le_of_ble_eq_true rfl, Nat.le_of_ble_eq_true rfl⟩) (r_recv hE hW 30 0 rfl (ci := 10) rfl rfl) rfl hl.1 rfl (Nat.le_of_ble_eq_true rfl) dX7_suspend_27 ⟨Nat.le_of_ble_eq_true rfl, Nat.le_of_ble_eq_true rfl⟩ (fun r3 S1 H locs hp hW hS => ?_)
  obtain ⟨rfl, h⟩ := hp
  refine r_if_eq hx hb rfl (tgt := 47) dX7_suspend_30 (by decide) (fun c4 => ?_) (fun c4 => ?_)
  · have h := ite_t c4 h
    refine lv_iconst (v := (0 : Int32)) hx hb dX7_suspend_47 (by decide) ?_
    exact tX7_suspend_48 (σ := σ) (ρ := ρ) X p1 p2 p3 post  a3 0 y1 y2 ((0 : Int32)) hW hS (lv_sub hl [0, 1, 2, 3] rfl) h
  · have h := ite_f c4 h
    refine lv_aload_n hx hb dX7_suspend_33 rfl (lv_at hl 0 rfl) ?_
    refine r_get (C := RX7) (T := TX7) (N := 49) (ci := 10) (fs := fl_30 ad ν a3 0 (σ 30 0)) hx hb hts hown hE hW 30 0 rfl rfl rfl (fun w h => List.mem_cons_of_mem _ (List.mem_append_right _ h)) 30 (by decide) (List.mem_of_getElem? (i := 1) rfl) rfl (v := .ref (ad 130 0)) rfl dX7_suspend_34 ?_
    refine lv_iload_n hx hb dX7_suspend_37 rfl (lv_at hl 1 rfl) ?_
    obtain ⟨b17, h⟩ := h
    refine r_iald hx hb hE hW 130 0 ⟨rfl, by decide, by decide⟩ (n := 40) (f := a3 30) rfl b17 (v := a3 30 p1.toNatClampNeg) rfl dX7_suspend_38 ?_
    refine lv_iconst (v := (-1 : Int32)) hx hb dX7_suspend_39 (by decide) ?_
    refine r_icmp_ne hx hb rfl (show (-1 : Int32).toInt = (-1) by decide) (tgt := 47) dX7_suspend_40 (by decide) (fun c18 => ?_) (fun c18 => ?_)
    · have h := ite_f c18 h
      refine lv_iconst (v := (0 : Int32)) hx hb dX7_suspend_47 (by decide) ?_
      exact tX7_suspend_48 (σ := σ) (ρ := ρ) X p1 p2 p3 post  a3 0 y1 y2 ((0 : Int32)) hW hS (lv_sub hl [0, 1, 2, 3] rfl) h
    · have h := ite_t c18 h
      refine lv_iconst (v := (1 : Int32)) hx hb dX7_suspend_43 (by decide) ?_
      refine lv_goto (tgt := 48) hx hb dX7_suspend_44 (by decide) ?_
      exact tX7_suspend_48 (σ := σ) (ρ := ρ) X p1 p2 p3 post  a3 0 y1 y2 ((1 : Int32)) hW hS (lv_sub hl [0, 1, 2, 3] rfl) h
set_option maxHeartbeats 4000000 in
set_option maxRecDepth 100000 in
theorem mtX7_suspend (l : Launch) (z : Nat) (G : Gl) (ad : Nat → Nat → Nat) (σ : SG) (ν : NU) (ρ : RH) (lo : Int64) (p1 : Int32) (p2 : Int32) (p3 : Int32) (post : RH → Prop) (h : wpX7_suspend ρ p1 p2 p3 post) : Met l yX7_suspend wsX7_suspend ({ frames := 3, cells := 0, slots := 0, locals := 66 } : Room) (Pcs z G ad (σ, ν, ρ, lo) [.ref (ad 30 0), .int p1, .int p2, .int p3]) (Qvs z G ad (fun S1 => ∃ t : RH, S1 = (σ, ν, t, lo) ∧ post t)) 0 0 (Az z) := by
  refine Met.ofW (cc := cX7_suspend) (maxL := 4) (ret := none) (by decide) rfl ?_
  intro p e s m args below meth c s₁ B hml hv
  obtain ⟨rfl, hz, hW, hE⟩ := hv
  have hx := B.exec
  have hb := B.bytes
  have hr := B.returns
  have hts := atoms_spec (ws := wsX7_suspend) B.pre
  have hown : s.vm.findClass RX7 = some m.cls := findClass_of_methodNamed B.named
  have hlocks := B.notSynchronized
  have X : Cx p l e s m _ below meth c cX7_suspend none 4 RX7 wsX7_suspend z G := ⟨hx, hb, hr, hml, hown, hts, hlocks, hE, hz⟩
  have hS : va_S (Az z) s.heap s.heap [] := va_S.rf
  have hl := lv_entry [.ref (ad 30 0), .int p1, .int p2, .int p3] (n := 4) (Nat.le_of_ble_eq_true rfl)
  rw [lg_entry_eq]
  generalize (lg_sl [.ref (ad 30 0), .int p1, .int p2, .int p3] ++ List.replicate (4 - (lg_sl [.ref (ad 30 0), .int p1, .int p2, .int p3]).length) Slot.unset).toArray = ls at hl ⊢
  have hl : lv_has ls 4 [(0, .ref (ad 30 0)), (1, .int p1), (2, .int p2), (3, .int p3)] := hl
  unfold wpX7_suspend at h
  refine lv_aload_n hx hb dX7_suspend_0 rfl (lv_at hl 0 rfl) ?_
  refine lv_iload_n hx hb dX7_suspend_1 rfl (lv_at hl 1 rfl) ?_
  refine lv_iload_n hx hb dX7_suspend_2 rfl (lv_at hl 2 rfl) ?_
  refine k_Si (rest := [.int p1, .ref (ad 30 0)]) (As := [.int p2]) ⟨hx, hb, hml, hown, hts⟩ hE hz hS hW (mtX7_isDay l z G ad σ ν ρ lo p2 _ h) (va_cwS 1 hts gX7_suspend_X7_isDay rfl rfl rfl (by decide +kernel) ⟨Nat.le_of_ble_eq_true rfl, Nat.le_of_ble_eq_true rfl⟩) rfl hl.1 rfl (Nat.le_of_ble_eq_true rfl) dX7_suspend_3 ⟨Nat.le_of_ble_eq_true rfl, Nat.le_of_ble_eq_true rfl⟩ (fun r1 S1 H locs hp hW hS => ?_)
  obtain ⟨rfl, h⟩ := hp
  refine r_if_eq hx hb rfl (tgt := 24) dX7_suspend_6 (by decide) (fun c2 => ?_) (fun c2 => ?_)
  · have h := ite_t c2 h
    refine lv_iconst (v := (0 : Int32)) hx hb dX7_suspend_24 (by decide) ?_
    exact tX7_suspend_25 (σ := σ) (ρ := ρ) X p1 p2 p3 post  ρ 0 p1 ((0 : Int32)) hW hS (lv_sub hl [0, 1, 2, 3] rfl) h
  · have h := ite_f c2 h
    refine lv_iload_n hx hb dX7_suspend_9 rfl (lv_at hl 3 rfl) ?_
    refine lv_iload_n hx hb dX7_suspend_10 rfl (lv_at hl 2 rfl) ?_
    refine lv_sipush (v := (5000 : Int32)) hx hb dX7_suspend_11 (by decide) ?_
    refine k_Si (rest := [.int p1, .ref (ad 30 0)]) (As := [.int p3, .int p2, .int ((5000 : Int32))]) ⟨hx, hb, hml, hown, hts⟩ hE hz hS hW (mtX7_isIn l z G ad σ ν ρ lo p3 p2 ((5000 : Int32)) _ h) (va_cwS 3 hts gX7_suspend_X7_isIn rfl rfl rfl (by decide +kernel) ⟨Nat.le_of_ble_eq_true rfl, Nat.le_of_ble_eq_true rfl⟩) rfl hl.1 rfl (Nat.le_of_ble_eq_true rfl) dX7_suspend_14 ⟨Nat.le_of_ble_eq_true rfl, Nat.le_of_ble_eq_true rfl⟩ (fun r19 S1 H locs hp hW hS => ?_)
    obtain ⟨rfl, h⟩ := hp
    refine r_if_eq hx hb rfl (tgt := 24) dX7_suspend_17 (by decide) (fun c20 => ?_) (fun c20 => ?_)
    · have h := ite_t c20 h
      refine lv_iconst (v := (0 : Int32)) hx hb dX7_suspend_24 (by decide) ?_
      exact tX7_suspend_25 (σ := σ) (ρ := ρ) X p1 p2 p3 post  ρ 0 p1 ((0 : Int32)) hW hS (lv_sub hl [0, 1, 2, 3] rfl) h
    · have h := ite_f c20 h
      refine lv_iconst (v := (1 : Int32)) hx hb dX7_suspend_20 (by decide) ?_
      refine lv_goto (tgt := 25) hx hb dX7_suspend_21 (by decide) ?_
      exact tX7_suspend_25 (σ := σ) (ρ := ρ) X p1 p2 p3 post  ρ 0 p1 ((1 : Int32)) hW hS (lv_sub hl [0, 1, 2, 3] rfl) h
