/-! method by method: what it asks of the state (wp), and its walk. Written by wip/gen/gen.py -/
set_option maxHeartbeats 4000000 in
set_option maxRecDepth 100000 in
theorem mtX6_enact (l : Launch) (hlt : l.stackTraces = false) (z : Nat) (G : Gl) (ad : Nat → Nat → Nat) (σ : SG) (ν : NU) (ρ : RH) (lo : Int64) (p1 : Int32) (p2 : Int32) (p3 : Int32) (post : Int32 → SG → NU → Prop) (px : String → Prop) (h : wpX6_enact σ ν p1 p2 p3 post px) : vx_Met l yX6_enact wsX6_enact ({ frames := 9, cells := 20, slots := 269, locals := 221 } : Room) (Pcs z G ad (σ, ν, ρ, lo) [.ref (ad 0 0), .int p1, .int p2, .int p3]) (Qia z G (fun r S1 => ∃ (t : SG) (u : NU), S1.1 = (t, u, ρ, lo) ∧ Xt ad S1.2 ν u ∧ post r t u)) (XCs z G ad (fun E S1 => S1 = (σ, ν, ρ, lo) ∧ px E)) 20 269 (Az z) := by
  refine vx_ofW (cc := cX6_enact) (maxL := 4) (ret := (some .int)) (by decide) rfl ?_
  intro p e s m args below meth c s₁ B hml htb hv
  obtain ⟨rfl, hz, hW, hE⟩ := hv
  have hx := B.exec
  have hb := B.bytes
  have hr := B.returns
  have hts := atoms_spec (ws := wsX6_enact) B.pre
  have hown : s.vm.findClass RX6 = some m.cls := findClass_of_methodNamed B.named
  have hlocks := B.notSynchronized
  have X : Cxx p l e s m _ below meth c cX6_enact (some .int) 4 RX6 wsX6_enact z G := ⟨hx, hb, hr, hml, hown, hts, hlocks, hE, hz, htb, hlt⟩
  have hS : va_S (Az z) s.heap s.heap [] := va_S.rf
  have hl := lv_entry [.ref (ad 0 0), .int p1, .int p2, .int p3] (n := 4) (Nat.le_of_ble_eq_true rfl)
  rw [lg_entry_eq]
  generalize (lg_sl [.ref (ad 0 0), .int p1, .int p2, .int p3] ++ List.replicate (4 - (lg_sl [.ref (ad 0 0), .int p1, .int p2, .int p3]).length) Slot.unset).toArray = ls at hl ⊢
  have hl : lv_has ls 4 [(0, .ref (ad 0 0)), (1, .int p1), (2, .int p2), (3, .int p3)] := hl
  unfold wpX6_enact at h
  refine lv_aload_n hx hb dX6_enact_0 rfl (lv_at hl 0 rfl) ?_
  refine lv_iload_n hx hb dX6_enact_1 rfl (lv_at hl 1 rfl) ?_
  refine x_Vv (rest := []) (As := [.int p1]) ⟨hx, hb, hml, hown, hts⟩ hE hz hS hW (mtX6_needProvisionOrTop l hlt z G ad σ ν ρ lo p1 _ _ h) (cwV 1 hts gX6_enact_X6_needProvisionOrTop rfl rfl rfl (by decide +kernel) ⟨Nat.le_of_ble_eq_true rfl, Nat.le_of_ble_eq_true rfl⟩) (r_recv hE hW 0 0 rfl (ci := 9) rfl rfl) rfl hl.1 rfl (Nat.le_of_ble_eq_true rfl) dX6_enact_2 ⟨Nat.le_of_ble_eq_true rfl, Nat.le_of_ble_eq_true rfl⟩ hlocks htb (fun E S1 q => q) ⟨Nat.le_of_ble_eq_true rfl, Nat.le_of_ble_eq_true rfl⟩ (fun S1 H locs hp hW hS => ?_)
  obtain ⟨rfl, h⟩ := hp
  refine lv_iload_n hx hb dX6_enact_5 rfl (lv_at hl 2 rfl) ?_
  refine lv_iload_n hx hb dX6_enact_6 rfl (lv_at hl 3 rfl) ?_
  refine x_Sv (rest := []) (As := [.int p2, .int p3]) ⟨hx, hb, hml, hown, hts⟩ hE hz hS hW (mtX6_needLabel l hlt z G ad σ ν ρ lo p2 p3 _ _ h) (va_cwS 2 hts gX6_enact_X6_needLabel rfl rfl rfl (by decide +kernel) ⟨Nat.le_of_ble_eq_true rfl, Nat.le_of_ble_eq_true rfl⟩) rfl hl.1 rfl (Nat.le_of_ble_eq_true rfl) dX6_enact_7 ⟨Nat.le_of_ble_eq_true rfl, Nat.le_of_ble_eq_true rfl⟩ hlocks htb (fun E S1 q => q) ⟨Nat.le_of_ble_eq_true rfl, Nat.le_of_ble_eq_true rfl⟩ (fun S1 H locs hp hW hS => ?_)
  obtain ⟨rfl, h⟩ := hp
  refine lv_aload_n hx hb dX6_enact_10 rfl (lv_at hl 0 rfl) ?_
  refine x_Vv (rest := []) (As := []) ⟨hx, hb, hml, hown, hts⟩ hE hz hS hW (mtX6_needRoomInAct l hlt z G ad σ ν ρ lo  _ _ h) (cwV 0 hts gX6_enact_X6_needRoomInAct rfl rfl rfl (by decide +kernel) ⟨Nat.le_of_ble_eq_true rfl, Nat.le_of_ble_eq_true rfl⟩) (r_recv hE hW 0 0 rfl (ci := 9) rfl rfl) rfl hl.1 rfl (Nat.le_of_ble_eq_true rfl) dX6_enact_11 ⟨Nat.le_of_ble_eq_true rfl, Nat.le_of_ble_eq_true rfl⟩ hlocks htb (fun E S1 q => q) ⟨Nat.le_of_ble_eq_true rfl, Nat.le_of_ble_eq_true rfl⟩ (fun S1 H locs hp hW hS => ?_)
  obtain ⟨rfl, h⟩ := hp
  refine lv_aload_n hx hb dX6_enact_14 rfl (lv_at hl 0 rfl) ?_
  refine r_get (C := RX6) (T := TX6) (N := 8) (ci := 9) (fs := fl_0 ad ν ρ 0 (σ 0 0)) hx hb hts hown hE hW 0 0 rfl rfl rfl (fun w h => List.mem_cons_of_mem _ (List.mem_append_left _ (List.mem_append_left _ (List.mem_append_left _ (List.mem_append_left _ (List.mem_append_left _ (List.mem_append_left _ (List.mem_append_left _ (List.mem_append_left _ (List.mem_append_left _ (List.mem_append_left _ (List.mem_append_right _ h)))))))))))) 7 (by decide) (List.mem_of_getElem? (i := 3) rfl) rfl (v := .int (σ 0 0 7)) rfl dX6_enact_15 ?_
  refine lv_bipush (v := (20 : Int32)) hx hb dX6_enact_18 (by decide) ?_
  refine r_icmp_lt hx hb rfl (show (20 : Int32).toInt = 20 by decide) (tgt := 33) dX6_enact_20 (by decide) (fun c1 => ?_) (fun c1 => ?_)
  · have h := ite_t c1 h
    refine lv_aload_n hx hb dX6_enact_33 rfl (lv_at hl 0 rfl) ?_
    refine r_get (C := RX6) (T := TX6) (N := 8) (ci := 9) (fs := fl_0 ad ν ρ 0 (σ 0 0)) hx hb hts hown hE hW 0 0 rfl rfl rfl (fun w h => List.mem_cons_of_mem _ (List.mem_append_left _ (List.mem_append_left _ (List.mem_append_left _ (List.mem_append_left _ (List.mem_append_left _ (List.mem_append_left _ (List.mem_append_left _ (List.mem_append_left _ (List.mem_append_left _ (List.mem_append_left _ (List.mem_append_right _ h)))))))))))) 3 (by decide) (List.mem_of_getElem? (i := 4) rfl) rfl (v := .ref (ad 3 (ν 0 0 3))) rfl dX6_enact_34 ?_
    obtain ⟨g2, h⟩ := h
    refine r_get (C := RX0) (T := TX0) (N := 13) (ci := 3) (fs := fl_3 ad ν ρ (ν 0 0 3) (σ 3 (ν 0 0 3))) hx hb hts hown hE hW 3 (ν 0 0 3) g2 rfl rfl (fun w h => List.mem_cons_of_mem _ (List.mem_append_left _ (List.mem_append_left _ (List.mem_append_left _ (List.mem_append_left _ (List.mem_append_left _ (List.mem_append_left _ (List.mem_append_left _ (List.mem_append_left _ (List.mem_append_left _ (List.mem_append_right _ h))))))))))) 8 (by decide) (List.mem_of_getElem? (i := 5) rfl) rfl (v := .ref (ad 4 (2 * (ν 0 0 3)))) rfl dX6_enact_37 ?_
    obtain ⟨g3, h⟩ := h
    refine r_get (C := RX2) (T := TX2) (N := 2) (ci := 5) (fs := fl_4 ad ν ρ (2 * (ν 0 0 3)) (σ 4 (2 * (ν 0 0 3)))) hx hb hts hown hE hW 4 (2 * (ν 0 0 3)) g3 rfl rfl (fun w h => List.mem_cons_of_mem _ (List.mem_append_left _ (List.mem_append_left _ (List.mem_append_left _ (List.mem_append_left _ (List.mem_append_left _ (List.mem_append_left _ (List.mem_append_left _ (List.mem_append_left _ (List.mem_append_right _ h)))))))))) 1 (by decide) (List.mem_of_getElem? (i := 6) rfl) rfl (v := .int (σ 4 (2 * (ν 0 0 3)) 1)) rfl dX6_enact_40 ?_
    refine r_if_le hx hb rfl (tgt := 56) dX6_enact_43 (by decide) (fun c4 => ?_) (fun c4 => ?_)
    · have h := ite_t c4 h
      refine lv_aload_n hx hb dX6_enact_56 rfl (lv_at hl 0 rfl) ?_
      refine r_get (C := RX6) (T := TX6) (N := 8) (ci := 9) (fs := fl_0 ad ν ρ 0 (σ 0 0)) hx hb hts hown hE hW 0 0 rfl rfl rfl (fun w h => List.mem_cons_of_mem _ (List.mem_append_left _ (List.mem_append_left _ (List.mem_append_left _ (List.mem_append_left _ (List.mem_append_left _ (List.mem_append_left _ (List.mem_append_left _ (List.mem_append_left _ (List.mem_append_left _ (List.mem_append_left _ (List.mem_append_right _ h)))))))))))) 3 (by decide) (List.mem_of_getElem? (i := 4) rfl) rfl (v := .ref (ad 3 (ν 0 0 3))) rfl dX6_enact_57 ?_
      refine lv_iload_n hx hb dX6_enact_60 rfl (lv_at hl 1 rfl) ?_
      refine r_putC (C := RX0) (T := TX0) (N := 13) (ci := 3) (fl := fl_3 ad ν ρ (ν 0 0 3)) hx hb hts hown hE hW hS 3 (ν 0 0 3) g2 (fun _ => rfl) rfl (fun w h => List.mem_cons_of_mem _ (List.mem_append_left _ (List.mem_append_left _ (List.mem_append_left _ (List.mem_append_left _ (List.mem_append_left _ (List.mem_append_left _ (List.mem_append_left _ (List.mem_append_left _ (List.mem_append_left _ (List.mem_append_right _ h))))))))))) tyX0_ok nmX0 5 (by decide) (List.mem_of_getElem? (i := 7) rfl) rfl rfl rfl (Nat.le_of_ble_eq_true rfl) (x := p1) rfl dX6_enact_61 (fun t5 e6 H locs hW hS => ?_)
      have h := h t5 e6
      refine lv_aload_n hx hb dX6_enact_64 rfl (lv_at hl 0 rfl) ?_
      refine r_get (C := RX6) (T := TX6) (N := 8) (ci := 9) (fs := fl_0 ad ν ρ 0 (t5 0 0)) hx hb hts hown hE hW 0 0 rfl rfl rfl (fun w h => List.mem_cons_of_mem _ (List.mem_append_left _ (List.mem_append_left _ (List.mem_append_left _ (List.mem_append_left _ (List.mem_append_left _ (List.mem_append_left _ (List.mem_append_left _ (List.mem_append_left _ (List.mem_append_left _ (List.mem_append_left _ (List.mem_append_right _ h)))))))))))) 3 (by decide) (List.mem_of_getElem? (i := 4) rfl) rfl (v := .ref (ad 3 (ν 0 0 3))) rfl dX6_enact_65 ?_
      refine lv_iload_n hx hb dX6_enact_68 rfl (lv_at hl 2 rfl) ?_
      refine lv_iload_n hx hb dX6_enact_69 rfl (lv_at hl 3 rfl) ?_
      refine k_Si (rest := [.ref (ad 3 (ν 0 0 3))]) (As := [.int p2, .int p3]) ⟨hx, hb, hml, hown, hts⟩ hE hz hS hW (mtX6_joinLabel l z G ad t5 ν ρ lo p2 p3 _ h) (va_cwS 2 hts gX6_enact_X6_joinLabel rfl rfl rfl (by decide +kernel) ⟨Nat.le_of_ble_eq_true rfl, Nat.le_of_ble_eq_true rfl⟩) rfl hl.1 rfl (Nat.le_of_ble_eq_true rfl) dX6_enact_70 ⟨Nat.le_of_ble_eq_true rfl, Nat.le_of_ble_eq_true rfl⟩ (fun r7 S1 H locs hp hW hS => ?_)
      obtain ⟨rfl, h⟩ := hp
      refine r_putC (C := RX0) (T := TX0) (N := 13) (ci := 3) (fl := fl_3 ad ν ρ (ν 0 0 3)) hx hb hts hown hE hW hS 3 (ν 0 0 3) g2 (fun _ => rfl) rfl (fun w h => List.mem_cons_of_mem _ (List.mem_append_left _ (List.mem_append_left _ (List.mem_append_left _ (List.mem_append_left _ (List.mem_append_left _ (List.mem_append_left _ (List.mem_append_left _ (List.mem_append_left _ (List.mem_append_left _ (List.mem_append_right _ h))))))))))) tyX0_ok nmX0 6 (by decide) (List.mem_of_getElem? (i := 8) rfl) rfl rfl rfl (Nat.le_of_ble_eq_true rfl) (x := r7) rfl dX6_enact_73 (fun t8 e9 H locs hW hS => ?_)
      have h := h t8 e9
      refine lv_aload_n hx hb dX6_enact_76 rfl (lv_at hl 0 rfl) ?_
      refine lv_iconst (v := (0 : Int32)) hx hb dX6_enact_77 (by decide) ?_
      refine lv_aload_n hx hb dX6_enact_78 rfl (lv_at hl 0 rfl) ?_
      refine r_get (C := RX6) (T := TX6) (N := 8) (ci := 9) (fs := fl_0 ad ν ρ 0 (t8 0 0)) hx hb hts hown hE hW 0 0 rfl rfl rfl (fun w h => List.mem_cons_of_mem _ (List.mem_append_left _ (List.mem_append_left _ (List.mem_append_left _ (List.mem_append_left _ (List.mem_append_left _ (List.mem_append_left _ (List.mem_append_left _ (List.mem_append_left _ (List.mem_append_left _ (List.mem_append_left _ (List.mem_append_right _ h)))))))))))) 7 (by decide) (List.mem_of_getElem? (i := 3) rfl) rfl (v := .int (t8 0 0 7)) rfl dX6_enact_79 ?_
      refine kA_Vv (rest := []) (As := [.int ((0 : Int32)), .int (t8 0 0 7)]) ⟨hx, hb, hml, hown, hts⟩ hE hz hS hW (mtX6_add l z G ad t8 ν ρ lo ((0 : Int32)) (t8 0 0 7) _ h) (cwV 2 hts gX6_enact_X6_add rfl rfl rfl (by decide +kernel) ⟨Nat.le_of_ble_eq_true rfl, Nat.le_of_ble_eq_true rfl⟩) (r_recv hE hW 0 0 rfl (ci := 9) rfl rfl) rfl hl.1 rfl (Nat.le_of_ble_eq_true rfl) dX6_enact_82 ⟨Nat.le_of_ble_eq_true rfl, Nat.le_of_ble_eq_true rfl⟩ (fun S1 ad12 H locs hp hW hS => ?_)
      obtain ⟨t10, vv11, rfl, q13, h⟩ := hp
      have z14 : ad12 0 0 = ad 0 0 := (q13 0 0 (by decide) rfl).2
      have hl : lv_has ls 4 [(0, .ref (ad12 0 0)), (1, .int p1), (2, .int p2), (3, .int p3)] := by rw [z14]; exact hl
      refine lv_aload_n hx hb dX6_enact_85 rfl (lv_at hl 0 rfl) ?_
      refine lv_dup hx hb dX6_enact_86 rfl ?_
      refine r_get (C := RX6) (T := TX6) (N := 8) (ci := 9) (fs := fl_0 ad12 vv11 ρ 0 (t10 0 0)) hx hb hts hown hE hW 0 0 rfl rfl rfl (fun w h => List.mem_cons_of_mem _ (List.mem_append_left _ (List.mem_append_left _ (List.mem_append_left _ (List.mem_append_left _ (List.mem_append_left _ (List.mem_append_left _ (List.mem_append_left _ (List.mem_append_left _ (List.mem_append_left _ (List.mem_append_left _ (List.mem_append_right _ h)))))))))))) 7 (by decide) (List.mem_of_getElem? (i := 3) rfl) rfl (v := .int (t10 0 0 7)) rfl dX6_enact_87 ?_
      refine lv_iconst (v := (1 : Int32)) hx hb dX6_enact_90 (by decide) ?_
      refine lv_iadd hx hb dX6_enact_91 ?_
      refine r_putC (C := RX6) (T := TX6) (N := 8) (ci := 9) (fl := fl_0 ad12 vv11 ρ 0) hx hb hts hown hE hW hS 0 0 rfl (fun _ => rfl) rfl (fun w h => List.mem_cons_of_mem _ (List.mem_append_left _ (List.mem_append_left _ (List.mem_append_left _ (List.mem_append_left _ (List.mem_append_left _ (List.mem_append_left _ (List.mem_append_left _ (List.mem_append_left _ (List.mem_append_left _ (List.mem_append_left _ (List.mem_append_right _ h)))))))))))) tyX6_ok nmX6 7 (by decide) (List.mem_of_getElem? (i := 3) rfl) rfl rfl rfl (Nat.le_of_ble_eq_true rfl) (x := (t10 0 0 7) + ((1 : Int32))) rfl dX6_enact_92 (fun t15 e16 H locs hW hS => ?_)
      have h := h t15 e16
      refine lv_aload_n hx hb dX6_enact_95 rfl (lv_at hl 0 rfl) ?_
      refine r_get (C := RX6) (T := TX6) (N := 8) (ci := 9) (fs := fl_0 ad12 vv11 ρ 0 (t15 0 0)) hx hb hts hown hE hW 0 0 rfl rfl rfl (fun w h => List.mem_cons_of_mem _ (List.mem_append_left _ (List.mem_append_left _ (List.mem_append_left _ (List.mem_append_left _ (List.mem_append_left _ (List.mem_append_left _ (List.mem_append_left _ (List.mem_append_left _ (List.mem_append_left _ (List.mem_append_left _ (List.mem_append_right _ h)))))))))))) 1 (by decide) (List.mem_of_getElem? (i := 9) rfl) rfl (v := .ref (ad12 1 0)) rfl dX6_enact_96 ?_
      refine lv_aload_n hx hb dX6_enact_99 rfl (lv_at hl 0 rfl) ?_
      refine r_get (C := RX6) (T := TX6) (N := 8) (ci := 9) (fs := fl_0 ad12 vv11 ρ 0 (t15 0 0)) hx hb hts hown hE hW 0 0 rfl rfl rfl (fun w h => List.mem_cons_of_mem _ (List.mem_append_left _ (List.mem_append_left _ (List.mem_append_left _ (List.mem_append_left _ (List.mem_append_left _ (List.mem_append_left _ (List.mem_append_left _ (List.mem_append_left _ (List.mem_append_left _ (List.mem_append_left _ (List.mem_append_right _ h)))))))))))) 0 (by decide) (List.mem_of_getElem? (i := 10) rfl) rfl (v := .ref (ad12 7 0)) rfl dX6_enact_100 ?_
      refine kA_Vv (rest := []) (As := [.ref (ad12 7 0)]) ⟨hx, hb, hml, hown, hts⟩ hE hz hS hW (mtX5_build l z G ad12 t15 vv11 ρ lo 0 0 _ h) (cwV 1 hts gX6_enact_X5_build rfl rfl rfl (by decide +kernel) ⟨Nat.le_of_ble_eq_true rfl, Nat.le_of_ble_eq_true rfl⟩) (r_recv hE hW 1 0 (show 0 < 2 by decide) (ci := 8) rfl rfl) rfl hl.1 rfl (Nat.le_of_ble_eq_true rfl) dX6_enact_103 ⟨Nat.le_of_ble_eq_true rfl, Nat.le_of_ble_eq_true rfl⟩ (fun S1 ad19 H locs hp hW hS => ?_)
      obtain ⟨t17, vv18, rfl, q20, h⟩ := hp
      have z21 : ad19 0 0 = ad12 0 0 := (q20 0 0 (by decide) rfl).2
      have hl : lv_has ls 4 [(0, .ref (ad19 0 0)), (1, .int p1), (2, .int p2), (3, .int p3)] := by rw [z21]; exact hl
      refine lv_aload_n hx hb dX6_enact_106 rfl (lv_at hl 0 rfl) ?_
      refine r_get (C := RX6) (T := TX6) (N := 8) (ci := 9) (fs := fl_0 ad19 vv18 ρ 0 (t17 0 0)) hx hb hts hown hE hW 0 0 rfl rfl rfl (fun w h => List.mem_cons_of_mem _ (List.mem_append_left _ (List.mem_append_left _ (List.mem_append_left _ (List.mem_append_left _ (List.mem_append_left _ (List.mem_append_left _ (List.mem_append_left _ (List.mem_append_left _ (List.mem_append_left _ (List.mem_append_left _ (List.mem_append_right _ h)))))))))))) 7 (by decide) (List.mem_of_getElem? (i := 3) rfl) rfl (v := .int (t17 0 0 7)) rfl dX6_enact_107 ?_
      refine lv_iconst (v := (1 : Int32)) hx hb dX6_enact_110 (by decide) ?_
      refine lv_isub hx hb dX6_enact_111 ?_
      refine vx_ret ?_
      exact W.iret (v := (t17 0 0 7) - ((1 : Int32))) hx hb hr (fun t ht _ => ⟨⟨_, ((t17, vv18, ρ, lo), ad19), rfl, ⟨_, _, rfl, (Xt.tr (Xt.tr Xt.rf q13) q20), h⟩, WP.at9 ht hW⟩, hS.F ht⟩) hS.2.2 dX6_enact_112 (hlocks := hlocks)
    · have h := ite_f c4 h
      exact r_throw (k := 8) (k2 := 3) (cls := "java/lang/IllegalStateException") (ik := 60) (is := 115) (ic := 64) (text := "an ENACT searches no words") hx hb hlt hts hown hml hlocks htb hE hW hS hl.1 (List.mem_of_getElem? (i := 1) rfl) (List.mem_of_getElem? (i := 2) rfl) (fun w h => List.mem_cons_of_mem _ (List.mem_append_left _ (List.mem_append_left _ (List.mem_append_right _ h)))) rfl rfl (by decide +kernel) (by decide +kernel) rfl dX6_enact_46 dX6_enact_49 dX6_enact_50 dX6_enact_52 dX6_enact_55 (Nat.le_of_ble_eq_true rfl) (Nat.le_of_ble_eq_true rfl) (Nat.le_of_ble_eq_true rfl) (Nat.le_of_ble_eq_true rfl) (Nat.le_of_ble_eq_true rfl) (Nat.le_of_ble_eq_true rfl) ⟨rfl, h⟩
  · have h := ite_f c1 h
    exact r_throw (k := 7) (k2 := 3) (cls := "java/lang/IllegalStateException") (ik := 60) (is := 113) (ic := 64) (text := "no more provisions") hx hb hlt hts hown hml hlocks htb hE hW hS hl.1 (List.mem_of_getElem? (i := 1) rfl) (List.mem_of_getElem? (i := 2) rfl) (fun w h => List.mem_cons_of_mem _ (List.mem_append_left _ (List.mem_append_left _ (List.mem_append_right _ h)))) rfl rfl (by decide +kernel) (by decide +kernel) rfl dX6_enact_23 dX6_enact_26 dX6_enact_27 dX6_enact_29 dX6_enact_32 (Nat.le_of_ble_eq_true rfl) (Nat.le_of_ble_eq_true rfl) (Nat.le_of_ble_eq_true rfl) (Nat.le_of_ble_eq_true rfl) (Nat.le_of_ble_eq_true rfl) (Nat.le_of_ble_eq_true rfl) ⟨rfl, h⟩
set_option maxHeartbeats 4000000 in
set_option maxRecDepth 100000 in
theorem mtX0_hasWordsFor (l : Launch) (z : Nat) (G : Gl) (ad : Nat → Nat → Nat) (σ : SG) (ν : NU) (ρ : RH) (lo : Int64) (o0 : Nat) (p1 : Int32) (post : Int32 → Prop) (h : wpX0_hasWordsFor σ ν o0 p1 post) : Met l yX0_hasWordsFor wsX0_hasWordsFor ({ frames := 0, cells := 0, slots := 0, locals := 0 } : Room) (Pcs z G ad (σ, ν, ρ, lo) [.ref (ad 3 o0), .int p1]) (Qis z G ad (fun r S1 => S1 = (σ, ν, ρ, lo) ∧ post r)) 0 0 (Az z) := by
  refine Met.ofW (cc := cX0_hasWordsFor) (maxL := 2) (ret := (some .boolean)) (by decide) rfl ?_
  intro p e s m args below meth c s₁ B hml hv
  obtain ⟨rfl, hz, hW, hE⟩ := hv
  have hx := B.exec
  have hb := B.bytes
  have hr := B.returns
  have hts := atoms_spec (ws := wsX0_hasWordsFor) B.pre
  have hown : s.vm.findClass RX0 = some m.cls := findClass_of_methodNamed B.named
  have hlocks := B.notSynchronized
  have X : Cx p l e s m _ below meth c cX0_hasWordsFor (some .boolean) 2 RX0 wsX0_hasWordsFor z G := ⟨hx, hb, hr, hml, hown, hts, hlocks, hE, hz⟩
  have hS : va_S (Az z) s.heap s.heap [] := va_S.rf
  have hl := lv_entry [.ref (ad 3 o0), .int p1] (n := 2) (Nat.le_of_ble_eq_true rfl)
  rw [lg_entry_eq]
  generalize (lg_sl [.ref (ad 3 o0), .int p1] ++ List.replicate (2 - (lg_sl [.ref (ad 3 o0), .int p1]).length) Slot.unset).toArray = ls at hl ⊢
  have hl : lv_has ls 2 [(0, .ref (ad 3 o0)), (1, .int p1)] := hl
  unfold wpX0_hasWordsFor at h
  refine lv_iload_n hx hb dX0_hasWordsFor_0 rfl (lv_at hl 1 rfl) ?_
  by_cases c1 : p1.toInt = 1
  · have h := ite_t c1 h
    refine lv_tableIn (tgt := 44) hx hb dX0_hasWordsFor_1 (by rw [c1]; decide) (by rw [c1]; decide) (by rw [c1]; rfl) (by decide) ?_
    refine lv_aload_n hx hb dX0_hasWordsFor_44 rfl (lv_at hl 0 rfl) ?_
    obtain ⟨g2, h⟩ := h
    refine r_get (C := RX0) (T := TX0) (N := 13) (ci := 3) (fs := fl_3 ad ν ρ o0 (σ 3 o0)) hx hb hts hown hE hW 3 o0 g2 rfl rfl (fun w h => List.mem_cons_of_mem _ (List.mem_append_left _ (List.mem_append_right _ h))) 9 (by decide) (List.mem_of_getElem? (i := 1) rfl) rfl (v := .ref (ad 4 (2 * o0 + 1))) rfl dX0_hasWordsFor_45 ?_
    refine r_get (C := RX2) (T := TX2) (N := 2) (ci := 5) (fs := fl_4 ad ν ρ (2 * o0 + 1) (σ 4 (2 * o0 + 1))) hx hb hts hown hE hW 4 (2 * o0 + 1) (show 2 * o0 + 1 < 2 * ν 99 0 0 by omega) rfl rfl (fun w h => List.mem_cons_of_mem _ (List.mem_append_right _ h)) 1 (by decide) (List.mem_of_getElem? (i := 2) rfl) rfl (v := .int (σ 4 (2 * o0 + 1) 1)) rfl dX0_hasWordsFor_48 ?_
    refine r_if_le hx hb rfl (tgt := 58) dX0_hasWordsFor_51 (by decide) (fun c3 => ?_) (fun c3 => ?_)
    · have h := ite_t c3 h
      refine lv_iconst (v := (0 : Int32)) hx hb dX0_hasWordsFor_58 (by decide) ?_
      exact W.zret (v := (0 : Int32)) (ty := .boolean) hx hb hr rfl (fun t ht _ => ⟨⟨_, (σ, ν, ρ, lo), rfl, ⟨rfl, h⟩, WP.at9 ht hW⟩, hS.F ht⟩) hS.2.2 dX0_hasWordsFor_59 (hlocks := hlocks)
    · have h := ite_f c3 h
      refine lv_iconst (v := (1 : Int32)) hx hb dX0_hasWordsFor_54 (by decide) ?_
      refine lv_goto (tgt := 59) hx hb dX0_hasWordsFor_55 (by decide) ?_
      exact W.zret (v := (1 : Int32)) (ty := .boolean) hx hb hr rfl (fun t ht _ => ⟨⟨_, (σ, ν, ρ, lo), rfl, ⟨rfl, h⟩, WP.at9 ht hW⟩, hS.F ht⟩) hS.2.2 dX0_hasWordsFor_59 (hlocks := hlocks)
  · have h := ite_f c1 h
    by_cases c4 : p1.toInt = 2
    · have h := ite_t c4 h
      refine lv_tableIn (tgt := 60) hx hb dX0_hasWordsFor_1 (by rw [c4]; decide) (by rw [c4]; decide) (by rw [c4]; rfl) (by decide) ?_
      refine lv_aload_n hx hb dX0_hasWordsFor_60 rfl (lv_at hl 0 rfl) ?_
      obtain ⟨g5, h⟩ := h
      refine r_get (C := RX0) (T := TX0) (N := 13) (ci := 3) (fs := fl_3 ad ν ρ o0 (σ 3 o0)) hx hb hts hown hE hW 3 o0 g5 rfl rfl (fun w h => List.mem_cons_of_mem _ (List.mem_append_left _ (List.mem_append_right _ h))) 8 (by decide) (List.mem_of_getElem? (i := 3) rfl) rfl (v := .ref (ad 4 (2 * o0))) rfl dX0_hasWordsFor_61 ?_
      refine r_get (C := RX2) (T := TX2) (N := 2) (ci := 5) (fs := fl_4 ad ν ρ (2 * o0) (σ 4 (2 * o0))) hx hb hts hown hE hW 4 (2 * o0) (show 2 * o0 < 2 * ν 99 0 0 by omega) rfl rfl (fun w h => List.mem_cons_of_mem _ (List.mem_append_right _ h)) 1 (by decide) (List.mem_of_getElem? (i := 2) rfl) rfl (v := .int (σ 4 (2 * o0) 1)) rfl dX0_hasWordsFor_64 ?_
      refine r_if_le hx hb rfl (tgt := 74) dX0_hasWordsFor_67 (by decide) (fun c6 => ?_) (fun c6 => ?_)
      · have h := ite_t c6 h
        refine lv_iconst (v := (0 : Int32)) hx hb dX0_hasWordsFor_74 (by decide) ?_
        exact W.zret (v := (0 : Int32)) (ty := .boolean) hx hb hr rfl (fun t ht _ => ⟨⟨_, (σ, ν, ρ, lo), rfl, ⟨rfl, h⟩, WP.at9 ht hW⟩, hS.F ht⟩) hS.2.2 dX0_hasWordsFor_75 (hlocks := hlocks)
      · have h := ite_f c6 h
        refine lv_iconst (v := (1 : Int32)) hx hb dX0_hasWordsFor_70 (by decide) ?_
        refine lv_goto (tgt := 75) hx hb dX0_hasWordsFor_71 (by decide) ?_
        exact W.zret (v := (1 : Int32)) (ty := .boolean) hx hb hr rfl (fun t ht _ => ⟨⟨_, (σ, ν, ρ, lo), rfl, ⟨rfl, h⟩, WP.at9 ht hW⟩, hS.F ht⟩) hS.2.2 dX0_hasWordsFor_75 (hlocks := hlocks)
    · have h := ite_f c4 h
      by_cases c7 : p1.toInt = 3
      · have h := ite_t c7 h
        refine lv_tableIn (tgt := 76) hx hb dX0_hasWordsFor_1 (by rw [c7]; decide) (by rw [c7]; decide) (by rw [c7]; rfl) (by decide) ?_
        refine lv_aload_n hx hb dX0_hasWordsFor_76 rfl (lv_at hl 0 rfl) ?_
        obtain ⟨g8, h⟩ := h
        refine r_get (C := RX0) (T := TX0) (N := 13) (ci := 3) (fs := fl_3 ad ν ρ o0 (σ 3 o0)) hx hb hts hown hE hW 3 o0 g8 rfl rfl (fun w h => List.mem_cons_of_mem _ (List.mem_append_left _ (List.mem_append_right _ h))) 8 (by decide) (List.mem_of_getElem? (i := 3) rfl) rfl (v := .ref (ad 4 (2 * o0))) rfl dX0_hasWordsFor_77 ?_
        refine r_get (C := RX2) (T := TX2) (N := 2) (ci := 5) (fs := fl_4 ad ν ρ (2 * o0) (σ 4 (2 * o0))) hx hb hts hown hE hW 4 (2 * o0) (show 2 * o0 < 2 * ν 99 0 0 by omega) rfl rfl (fun w h => List.mem_cons_of_mem _ (List.mem_append_right _ h)) 1 (by decide) (List.mem_of_getElem? (i := 2) rfl) rfl (v := .int (σ 4 (2 * o0) 1)) rfl dX0_hasWordsFor_80 ?_
        refine r_if_le hx hb rfl (tgt := 100) dX0_hasWordsFor_83 (by decide) (fun c9 => ?_) (fun c9 => ?_)
        · have h := ite_t c9 h
          refine lv_iconst (v := (0 : Int32)) hx hb dX0_hasWordsFor_100 (by decide) ?_
          exact W.zret (v := (0 : Int32)) (ty := .boolean) hx hb hr rfl (fun t ht _ => ⟨⟨_, (σ, ν, ρ, lo), rfl, ⟨rfl, h⟩, WP.at9 ht hW⟩, hS.F ht⟩) hS.2.2 dX0_hasWordsFor_101 (hlocks := hlocks)
        · have h := ite_f c9 h
          refine lv_aload_n hx hb dX0_hasWordsFor_86 rfl (lv_at hl 0 rfl) ?_
          refine r_get (C := RX0) (T := TX0) (N := 13) (ci := 3) (fs := fl_3 ad ν ρ o0 (σ 3 o0)) hx hb hts hown hE hW 3 o0 g8 rfl rfl (fun w h => List.mem_cons_of_mem _ (List.mem_append_left _ (List.mem_append_right _ h))) 9 (by decide) (List.mem_of_getElem? (i := 1) rfl) rfl (v := .ref (ad 4 (2 * o0 + 1))) rfl dX0_hasWordsFor_87 ?_
          refine r_get (C := RX2) (T := TX2) (N := 2) (ci := 5) (fs := fl_4 ad ν ρ (2 * o0 + 1) (σ 4 (2 * o0 + 1))) hx hb hts hown hE hW 4 (2 * o0 + 1) (show 2 * o0 + 1 < 2 * ν 99 0 0 by omega) rfl rfl (fun w h => List.mem_cons_of_mem _ (List.mem_append_right _ h)) 1 (by decide) (List.mem_of_getElem? (i := 2) rfl) rfl (v := .int (σ 4 (2 * o0 + 1) 1)) rfl dX0_hasWordsFor_90 ?_
          refine r_if_ne hx hb rfl (tgt := 100) dX0_hasWordsFor_93 (by decide) (fun c10 => ?_) (fun c10 => ?_)
          · have h := ite_f c10 h
            refine lv_iconst (v := (0 : Int32)) hx hb dX0_hasWordsFor_100 (by decide) ?_
            exact W.zret (v := (0 : Int32)) (ty := .boolean) hx hb hr rfl (fun t ht _ => ⟨⟨_, (σ, ν, ρ, lo), rfl, ⟨rfl, h⟩, WP.at9 ht hW⟩, hS.F ht⟩) hS.2.2 dX0_hasWordsFor_101 (hlocks := hlocks)
          · have h := ite_t c10 h
            refine lv_iconst (v := (1 : Int32)) hx hb dX0_hasWordsFor_96 (by decide) ?_
            refine lv_goto (tgt := 101) hx hb dX0_hasWordsFor_97 (by decide) ?_
            exact W.zret (v := (1 : Int32)) (ty := .boolean) hx hb hr rfl (fun t ht _ => ⟨⟨_, (σ, ν, ρ, lo), rfl, ⟨rfl, h⟩, WP.at9 ht hW⟩, hS.F ht⟩) hS.2.2 dX0_hasWordsFor_101 (hlocks := hlocks)
      · have h := ite_f c7 h
        by_cases c11 : p1.toInt = 4
        · have h := ite_t c11 h
          refine lv_tableIn (tgt := 118) hx hb dX0_hasWordsFor_1 (by rw [c11]; decide) (by rw [c11]; decide) (by rw [c11]; rfl) (by decide) ?_
          refine lv_aload_n hx hb dX0_hasWordsFor_118 rfl (lv_at hl 0 rfl) ?_
          obtain ⟨g12, h⟩ := h
          refine r_get (C := RX0) (T := TX0) (N := 13) (ci := 3) (fs := fl_3 ad ν ρ o0 (σ 3 o0)) hx hb hts hown hE hW 3 o0 g12 rfl rfl (fun w h => List.mem_cons_of_mem _ (List.mem_append_left _ (List.mem_append_right _ h))) 8 (by decide) (List.mem_of_getElem? (i := 3) rfl) rfl (v := .ref (ad 4 (2 * o0))) rfl dX0_hasWordsFor_119 ?_
          refine r_get (C := RX2) (T := TX2) (N := 2) (ci := 5) (fs := fl_4 ad ν ρ (2 * o0) (σ 4 (2 * o0))) hx hb hts hown hE hW 4 (2 * o0) (show 2 * o0 < 2 * ν 99 0 0 by omega) rfl rfl (fun w h => List.mem_cons_of_mem _ (List.mem_append_right _ h)) 1 (by decide) (List.mem_of_getElem? (i := 2) rfl) rfl (v := .int (σ 4 (2 * o0) 1)) rfl dX0_hasWordsFor_122 ?_
          refine r_if_ne hx hb rfl (tgt := 142) dX0_hasWordsFor_125 (by decide) (fun c13 => ?_) (fun c13 => ?_)
          · have h := ite_f c13 h
            refine lv_iconst (v := (0 : Int32)) hx hb dX0_hasWordsFor_142 (by decide) ?_
            exact W.zret (v := (0 : Int32)) (ty := .boolean) hx hb hr rfl (fun t ht _ => ⟨⟨_, (σ, ν, ρ, lo), rfl, ⟨rfl, h⟩, WP.at9 ht hW⟩, hS.F ht⟩) hS.2.2 dX0_hasWordsFor_143 (hlocks := hlocks)
          · have h := ite_t c13 h
            refine lv_aload_n hx hb dX0_hasWordsFor_128 rfl (lv_at hl 0 rfl) ?_
            refine r_get (C := RX0) (T := TX0) (N := 13) (ci := 3) (fs := fl_3 ad ν ρ o0 (σ 3 o0)) hx hb hts hown hE hW 3 o0 g12 rfl rfl (fun w h => List.mem_cons_of_mem _ (List.mem_append_left _ (List.mem_append_right _ h))) 9 (by decide) (List.mem_of_getElem? (i := 1) rfl) rfl (v := .ref (ad 4 (2 * o0 + 1))) rfl dX0_hasWordsFor_129 ?_
            refine r_get (C := RX2) (T := TX2) (N := 2) (ci := 5) (fs := fl_4 ad ν ρ (2 * o0 + 1) (σ 4 (2 * o0 + 1))) hx hb hts hown hE hW 4 (2 * o0 + 1) (show 2 * o0 + 1 < 2 * ν 99 0 0 by omega) rfl rfl (fun w h => List.mem_cons_of_mem _ (List.mem_append_right _ h)) 1 (by decide) (List.mem_of_getElem? (i := 2) rfl) rfl (v := .int (σ 4 (2 * o0 + 1) 1)) rfl dX0_hasWordsFor_132 ?_
            refine r_if_ne hx hb rfl (tgt := 142) dX0_hasWordsFor_135 (by decide) (fun c14 => ?_) (fun c14 => ?_)
            · have h := ite_f c14 h
              refine lv_iconst (v := (0 : Int32)) hx hb dX0_hasWordsFor_142 (by decide) ?_
              exact W.zret (v := (0 : Int32)) (ty := .boolean) hx hb hr rfl (fun t ht _ => ⟨⟨_, (σ, ν, ρ, lo), rfl, ⟨rfl, h⟩, WP.at9 ht hW⟩, hS.F ht⟩) hS.2.2 dX0_hasWordsFor_143 (hlocks := hlocks)
            · have h := ite_t c14 h
              refine lv_iconst (v := (1 : Int32)) hx hb dX0_hasWordsFor_138 (by decide) ?_
              refine lv_goto (tgt := 143) hx hb dX0_hasWordsFor_139 (by decide) ?_
              exact W.zret (v := (1 : Int32)) (ty := .boolean) hx hb hr rfl (fun t ht _ => ⟨⟨_, (σ, ν, ρ, lo), rfl, ⟨rfl, h⟩, WP.at9 ht hW⟩, hS.F ht⟩) hS.2.2 dX0_hasWordsFor_143 (hlocks := hlocks)
        · have h := ite_f c11 h
          by_cases c15 : p1.toInt = 5
          · have h := ite_t c15 h
            refine lv_tableIn (tgt := 118) hx hb dX0_hasWordsFor_1 (by rw [c15]; decide) (by rw [c15]; decide) (by rw [c15]; rfl) (by decide) ?_
            refine lv_aload_n hx hb dX0_hasWordsFor_118 rfl (lv_at hl 0 rfl) ?_
            obtain ⟨g16, h⟩ := h
            refine r_get (C := RX0) (T := TX0) (N := 13) (ci := 3) (fs := fl_3 ad ν ρ o0 (σ 3 o0)) hx hb hts hown hE hW 3 o0 g16 rfl rfl (fun w h => List.mem_cons_of_mem _ (List.mem_append_left _ (List.mem_append_right _ h))) 8 (by decide) (List.mem_of_getElem? (i := 3) rfl) rfl (v := .ref (ad 4 (2 * o0))) rfl dX0_hasWordsFor_119 ?_
            refine r_get (C := RX2) (T := TX2) (N := 2) (ci := 5) (fs := fl_4 ad ν ρ (2 * o0) (σ 4 (2 * o0))) hx hb hts hown hE hW 4 (2 * o0) (show 2 * o0 < 2 * ν 99 0 0 by omega) rfl rfl (fun w h => List.mem_cons_of_mem _ (List.mem_append_right _ h)) 1 (by decide) (List.mem_of_getElem? (i := 2) rfl) rfl (v := .int (σ 4 (2 * o0) 1)) rfl dX0_hasWordsFor_122 ?_
            refine r_if_ne hx hb rfl (tgt := 142) dX0_hasWordsFor_125 (by decide) (fun c17 => ?_) (fun c17 => ?_)
            · have h := ite_f c17 h
              refine lv_iconst (v := (0 : Int32)) hx hb dX0_hasWordsFor_142 (by decide) ?_
              exact W.zret (v := (0 : Int32)) (ty := .boolean) hx hb hr rfl (fun t ht _ => ⟨⟨_, (σ, ν, ρ, lo), rfl, ⟨rfl, h⟩, WP.at9 ht hW⟩, hS.F ht⟩) hS.2.2 dX0_hasWordsFor_143 (hlocks := hlocks)
            · have h := ite_t c17 h
              refine lv_aload_n hx hb dX0_hasWordsFor_128 rfl (lv_at hl 0 rfl) ?_
              refine r_get (C := RX0) (T := TX0) (N := 13) (ci := 3) (fs := fl_3 ad ν ρ o0 (σ 3 o0)) hx hb hts hown hE hW 3 o0 g16 rfl rfl (fun w h => List.mem_cons_of_mem _ (List.mem_append_left _ (List.mem_append_right _ h))) 9 (by decide) (List.mem_of_getElem? (i := 1) rfl) rfl (v := .ref (ad 4 (2 * o0 + 1))) rfl dX0_hasWordsFor_129 ?_
              refine r_get (C := RX2) (T := TX2) (N := 2) (ci := 5) (fs := fl_4 ad ν ρ (2 * o0 + 1) (σ 4 (2 * o0 + 1))) hx hb hts hown hE hW 4 (2 * o0 + 1) (show 2 * o0 + 1 < 2 * ν 99 0 0 by omega) rfl rfl (fun w h => List.mem_cons_of_mem _ (List.mem_append_right _ h)) 1 (by decide) (List.mem_of_getElem? (i := 2) rfl) rfl (v := .int (σ 4 (2 * o0 + 1) 1)) rfl dX0_hasWordsFor_132 ?_
              refine r_if_ne hx hb rfl (tgt := 142) dX0_hasWordsFor_135 (by decide) (fun c18 => ?_) (fun c18 => ?_)
              · have h := ite_f c18 h
                refine lv_iconst (v := (0 : Int32)) hx hb dX0_hasWordsFor_142 (by decide) ?_
                exact W.zret (v := (0 : Int32)) (ty := .boolean) hx hb hr rfl (fun t ht _ => ⟨⟨_, (σ, ν, ρ, lo), rfl, ⟨rfl, h⟩, WP.at9 ht hW⟩, hS.F ht⟩) hS.2.2 dX0_hasWordsFor_143 (hlocks := hlocks)
              · have h := ite_t c18 h
                refine lv_iconst (v := (1 : Int32)) hx hb dX0_hasWordsFor_138 (by decide) ?_
                refine lv_goto (tgt := 143) hx hb dX0_hasWordsFor_139 (by decide) ?_
                exact W.zret (v := (1 : Int32)) (ty := .boolean) hx hb hr rfl (fun t ht _ => ⟨⟨_, (σ, ν, ρ, lo), rfl, ⟨rfl, h⟩, WP.at9 ht hW⟩, hS.F ht⟩) hS.2.2 dX0_hasWordsFor_143 (hlocks := hlocks)
          · have h := ite_f c15 h
            by_cases c19 : p1.toInt = 6
            · have h := ite_t c19 h
              refine lv_tableIn (tgt := 118) hx hb dX0_hasWordsFor_1 (by rw [c19]; decide) (by rw [c19]; decide) (by rw [c19]; rfl) (by decide) ?_
              refine lv_aload_n hx hb dX0_hasWordsFor_118 rfl (lv_at hl 0 rfl) ?_
              obtain ⟨g20, h⟩ := h
              refine r_get (C := RX0) (T := TX0) (N := 13) (ci := 3) (fs := fl_3 ad ν ρ o0 (σ 3 o0)) hx hb hts hown hE hW 3 o0 g20 rfl rfl (fun w h => List.mem_cons_of_mem _ (List.mem_append_left _ (List.mem_append_right _ h))) 8 (by decide) (List.mem_of_getElem? (i := 3) rfl) rfl (v := .ref (ad 4 (2 * o0))) rfl dX0_hasWordsFor_119 ?_
              refine r_get (C := RX2) (T := TX2) (N := 2) (ci := 5) (fs := fl_4 ad ν ρ (2 * o0) (σ 4 (2 * o0))) hx hb hts hown hE hW 4 (2 * o0) (show 2 * o0 < 2 * ν 99 0 0 by omega) rfl rfl (fun w h => List.mem_cons_of_mem _ (List.mem_append_right _ h)) 1 (by decide) (List.mem_of_getElem? (i := 2) rfl) rfl (v := .int (σ 4 (2 * o0) 1)) rfl dX0_hasWordsFor_122 ?_
              refine r_if_ne hx hb rfl (tgt := 142) dX0_hasWordsFor_125 (by decide) (fun c21 => ?_) (fun c21 => ?_)
              · have h := ite_f c21 h
                refine lv_iconst (v := (0 : Int32)) hx hb dX0_hasWordsFor_142 (by decide) ?_
                exact W.zret (v := (0 : Int32)) (ty := .boolean) hx hb hr rfl (fun t ht _ => ⟨⟨_, (σ, ν, ρ, lo), rfl, ⟨rfl, h⟩, WP.at9 ht hW⟩, hS.F ht⟩) hS.2.2 dX0_hasWordsFor_143 (hlocks := hlocks)
              · have h := ite_t c21 h
                refine lv_aload_n hx hb dX0_hasWordsFor_128 rfl (lv_at hl 0 rfl) ?_
                refine r_get (C := RX0) (T := TX0) (N := 13) (ci := 3) (fs := fl_3 ad ν ρ o0 (σ 3 o0)) hx hb hts hown hE hW 3 o0 g20 rfl rfl (fun w h => List.mem_cons_of_mem _ (List.mem_append_left _ (List.mem_append_right _ h))) 9 (by decide) (List.mem_of_getElem? (i := 1) rfl) rfl (v := .ref (ad 4 (2 * o0 + 1))) rfl dX0_hasWordsFor_129 ?_
                refine r_get (C := RX2) (T := TX2) (N := 2) (ci := 5) (fs := fl_4 ad ν ρ (2 * o0 + 1) (σ 4 (2 * o0 + 1))) hx hb hts hown hE hW 4 (2 * o0 + 1) (show 2 * o0 + 1 < 2 * ν 99 0 0 by omega) rfl rfl (fun w h => List.mem_cons_of_mem _ (List.mem_append_right _ h)) 1 (by decide) (List.mem_of_getElem? (i := 2) rfl) rfl (v := .int (σ 4 (2 * o0 + 1) 1)) rfl dX0_hasWordsFor_132 ?_
                refine r_if_ne hx hb rfl (tgt := 142) dX0_hasWordsFor_135 (by decide) (fun c22 => ?_) (fun c22 => ?_)
                · have h := ite_f c22 h
                  refine lv_iconst (v := (0 : Int32)) hx hb dX0_hasWordsFor_142 (by decide) ?_
                  exact W.zret (v := (0 : Int32)) (ty := .boolean) hx hb hr rfl (fun t ht _ => ⟨⟨_, (σ, ν, ρ, lo), rfl, ⟨rfl, h⟩, WP.at9 ht hW⟩, hS.F ht⟩) hS.2.2 dX0_hasWordsFor_143 (hlocks := hlocks)
                · have h := ite_t c22 h
                  refine lv_iconst (v := (1 : Int32)) hx hb dX0_hasWordsFor_138 (by decide) ?_
                  refine lv_goto (tgt := 143) hx hb dX0_hasWordsFor_139 (by decide) ?_
                  exact W.zret (v := (1 : Int32)) (ty := .boolean) hx hb hr rfl (fun t ht _ => ⟨⟨_, (σ, ν, ρ, lo), rfl, ⟨rfl, h⟩, WP.at9 ht hW⟩, hS.F ht⟩) hS.2.2 dX0_hasWordsFor_143 (hlocks := hlocks)
            · have h := ite_f c19 h
              by_cases c23 : p1.toInt = 7
              · have h := ite_t c23 h
                refine lv_tableIn (tgt := 102) hx hb dX0_hasWordsFor_1 (by rw [c23]; decide) (by rw [c23]; decide) (by rw [c23]; rfl) (by decide) ?_
                refine lv_aload_n hx hb dX0_hasWordsFor_102 rfl (lv_at hl 0 rfl) ?_
                obtain ⟨g24, h⟩ := h
                refine r_get (C := RX0) (T := TX0) (N := 13) (ci := 3) (fs := fl_3 ad ν ρ o0 (σ 3 o0)) hx hb hts hown hE hW 3 o0 g24 rfl rfl (fun w h => List.mem_cons_of_mem _ (List.mem_append_left _ (List.mem_append_right _ h))) 8 (by decide) (List.mem_of_getElem? (i := 3) rfl) rfl (v := .ref (ad 4 (2 * o0))) rfl dX0_hasWordsFor_103 ?_
                refine r_get (C := RX2) (T := TX2) (N := 2) (ci := 5) (fs := fl_4 ad ν ρ (2 * o0) (σ 4 (2 * o0))) hx hb hts hown hE hW 4 (2 * o0) (show 2 * o0 < 2 * ν 99 0 0 by omega) rfl rfl (fun w h => List.mem_cons_of_mem _ (List.mem_append_right _ h)) 1 (by decide) (List.mem_of_getElem? (i := 2) rfl) rfl (v := .int (σ 4 (2 * o0) 1)) rfl dX0_hasWordsFor_106 ?_
                refine r_if_ne hx hb rfl (tgt := 116) dX0_hasWordsFor_109 (by decide) (fun c25 => ?_) (fun c25 => ?_)
                · have h := ite_f c25 h
                  refine lv_iconst (v := (0 : Int32)) hx hb dX0_hasWordsFor_116 (by decide) ?_
                  exact W.zret (v := (0 : Int32)) (ty := .boolean) hx hb hr rfl (fun t ht _ => ⟨⟨_, (σ, ν, ρ, lo), rfl, ⟨rfl, h⟩, WP.at9 ht hW⟩, hS.F ht⟩) hS.2.2 dX0_hasWordsFor_117 (hlocks := hlocks)
                · have h := ite_t c25 h
                  refine lv_iconst (v := (1 : Int32)) hx hb dX0_hasWordsFor_112 (by decide) ?_
                  refine lv_goto (tgt := 117) hx hb dX0_hasWordsFor_113 (by decide) ?_
                  exact W.zret (v := (1 : Int32)) (ty := .boolean) hx hb hr rfl (fun t ht _ => ⟨⟨_, (σ, ν, ρ, lo), rfl, ⟨rfl, h⟩, WP.at9 ht hW⟩, hS.F ht⟩) hS.2.2 dX0_hasWordsFor_117 (hlocks := hlocks)
              · have h := ite_f c23 h
                refine lv_tableOut (tgt := 118) hx hb dX0_hasWordsFor_1 (by omega) (by decide) ?_
                refine lv_aload_n hx hb dX0_hasWordsFor_118 rfl (lv_at hl 0 rfl) ?_
                obtain ⟨g26, h⟩ := h
                refine r_get (C := RX0) (T := TX0) (N := 13) (ci := 3) (fs := fl_3 ad ν ρ o0 (σ 3 o0)) hx hb hts hown hE hW 3 o0 g26 rfl rfl (fun w h => List.mem_cons_of_mem _ (List.mem_append_left _ (List.mem_append_right _ h))) 8 (by decide) (List.mem_of_getElem? (i := 3) rfl) rfl (v := .ref (ad 4 (2 * o0))) rfl dX0_hasWordsFor_119 ?_
                refine r_get (C := RX2) (T := TX2) (N := 2) (ci := 5) (fs := fl_4 ad ν ρ (2 * o0) (σ 4 (2 * o0))) hx hb hts hown hE hW 4 (2 * o0) (show 2 * o0 < 2 * ν 99 0 0 by omega) rfl rfl (fun w h => List.mem_cons_of_mem _ (List.mem_append_right _ h)) 1 (by decide) (List.mem_of_getElem? (i := 2) rfl) rfl (v := .int (σ 4 (2 * o0) 1)) rfl dX0_hasWordsFor_122 ?_
                refine r_if_ne hx hb rfl (tgt := 142) dX0_hasWordsFor_125 (by decide) (fun c27 => ?_) (fun c27 => ?_)
                · have h := ite_f c27 h
                  refine lv_iconst (v := (0 : Int32)) hx hb dX0_hasWordsFor_142 (by decide) ?_
                  exact W.zret (v := (0 : Int32)) (ty := .boolean) hx hb hr rfl (fun t ht _ => ⟨⟨_, (σ, ν, ρ, lo), rfl, ⟨rfl, h⟩, WP.at9 ht hW⟩, hS.F ht⟩) hS.2.2 dX0_hasWordsFor_143 (hlocks := hlocks)
                · have h := ite_t c27 h
                  refine lv_aload_n hx hb dX0_hasWordsFor_128 rfl (lv_at hl 0 rfl) ?_
                  refine r_get (C := RX0) (T := TX0) (N := 13) (ci := 3) (fs := fl_3 ad ν ρ o0 (σ 3 o0)) hx hb hts hown hE hW 3 o0 g26 rfl rfl (fun w h => List.mem_cons_of_mem _ (List.mem_append_left _ (List.mem_append_right _ h))) 9 (by decide) (List.mem_of_getElem? (i := 1) rfl) rfl (v := .ref (ad 4 (2 * o0 + 1))) rfl dX0_hasWordsFor_129 ?_
                  refine r_get (C := RX2) (T := TX2) (N := 2) (ci := 5) (fs := fl_4 ad ν ρ (2 * o0 + 1) (σ 4 (2 * o0 + 1))) hx hb hts hown hE hW 4 (2 * o0 + 1) (show 2 * o0 + 1 < 2 * ν 99 0 0 by omega) rfl rfl (fun w h => List.mem_cons_of_mem _ (List.mem_append_right _ h)) 1 (by decide) (List.mem_of_getElem? (i := 2) rfl) rfl (v := .int (σ 4 (2 * o0 + 1) 1)) rfl dX0_hasWordsFor_132 ?_
                  refine r_if_ne hx hb rfl (tgt := 142) dX0_hasWordsFor_135 (by decide) (fun c28 => ?_) (fun c28 => ?_)
                  · have h := ite_f c28 h
                    refine lv_iconst (v := (0 : Int32)) hx hb dX0_hasWordsFor_142 (by decide) ?_
                    exact W.zret (v := (0 : Int32)) (ty := .boolean) hx hb hr rfl (fun t ht _ => ⟨⟨_, (σ, ν, ρ, lo), rfl, ⟨rfl, h⟩, WP.at9 ht hW⟩, hS.F ht⟩) hS.2.2 dX0_hasWordsFor_143 (hlocks := hlocks)
                  · have h := ite_t c28 h
                    refine lv_iconst (v := (1 : Int32)) hx hb dX0_hasWordsFor_138 (by decide) ?_
                    refine lv_goto (tgt := 143) hx hb dX0_hasWordsFor_139 (by decide) ?_
                    exact W.zret (v := (1 : Int32)) (ty := .boolean) hx hb hr rfl (fun t ht _ => ⟨⟨_, (σ, ν, ρ, lo), rfl, ⟨rfl, h⟩, WP.at9 ht hW⟩, hS.F ht⟩) hS.2.2 dX0_hasWordsFor_143 (hlocks := hlocks)
set_option maxHeartbeats 4000000 in
set_option maxRecDepth 100000 in
theorem tX6_instruct_118 {p : Program} {l : Launch} {e : Env} {s : State} {m : MethodId} {args : Array Value} {below : List Frame} {meth : Method} {c : Code} {z : Nat} {G : Gl} {ad : Nat → Nat → Nat} {σ : SG} {ν : NU} {ρ : RH} {lo : Int64} (X : Cxx p l e s m args below meth c cX6_instruct (some .int) 5 RX6 wsX6_instruct z G) (p1 : Int32) (p2 : Int32) (p3 : Int32) (p4 : Int32)  (post : Int32 → SG → NU → Prop) (px : String → Prop) : ∀ (a1 : SG) (a2 : NU) (b1 : Nat → Nat → Nat) {H : Heap} {locs : List Loc} {ls : Array Slot}, Xt ad b1 ν a2 → WP z G b1 (a1, a2, ρ, lo) H → va_S (Az z) s.heap H locs → lv_has ls 5 [(0, .ref (b1 0 0)), (1, .int p1), (2, .int p2)] → jX6_instruct_118 p1 p2 p3 p4 post px a1 a2 → W p l e ({ frames := 9, cells := 21, slots := 275, locals := 221 } : Room) s m args below meth c H locs 4 24 (vx_MQ below (Qia z G (fun r S1 => ∃ (t : SG) (u : NU), S1.1 = (t, u, ρ, lo) ∧ Xt ad S1.2 ν u ∧ post r t u)) (XCs z G ad (fun E S1 => S1 = (σ, ν, ρ, lo) ∧ px E)) args s 21 275 (Az z)) (F0 m 118 ls []) := by
  obtain ⟨hx, hb, hr, hml, hown, hts, hlocks, hE, hz, htb, hlt⟩ := id X
  intro a1 a2 b1 H locs ls hX9 hW hS hl h
  unfold jX6_instruct_118 at h
  refine lv_aload_n hx hb dX6_instruct_118 rfl (lv_at hl 0 rfl) ?_
  refine lv_iload_n hx hb dX6_instruct_119 rfl (lv_at hl 1 rfl) ?_
  refine lv_iload_n hx hb dX6_instruct_120 rfl (lv_at hl 2 rfl) ?_
  refine kA_Vv (rest := []) (As := [.int p1, .int p2]) ⟨hx, hb, hml, hown, hts⟩ hE hz hS hW (mtX6_add l z G b1 a1 a2 ρ lo p1 p2 _ h) (cwV 2 hts gX6_instruct_X6_add rfl rfl rfl (by decide +kernel) ⟨Nat.le_of_ble_eq_true rfl, Nat.le_of_ble_eq_true rfl⟩) (r_recv hE hW 0 0 rfl (ci := 9) rfl rfl) rfl hl.1 rfl (Nat.le_of_ble_eq_true rfl) dX6_instruct_121 ⟨Nat.le_of_ble_eq_true rfl, Nat.le_of_ble_eq_true rfl⟩ (fun S1 ad13 H locs hp hW hS => ?_)
  obtain ⟨t11, vv12, rfl, q14, h⟩ := hp
  have z15 : ad13 0 0 = b1 0 0 := (q14 0 0 (by decide) rfl).2
  have hl : lv_has ls 5 [(0, .ref (ad13 0 0)), (1, .int p1), (2, .int p2)] := by rw [z15]; exact hl
  refine lv_aload_n hx hb dX6_instruct_124 rfl (lv_at hl 0 rfl) ?_
  refine r_get (C := RX6) (T := TX6) (N := 8) (ci := 9) (fs := fl_0 ad13 vv12 ρ 0 (t11 0 0)) hx hb hts hown hE hW 0 0 rfl rfl rfl (fun w h => List.mem_cons_of_mem _ (List.mem_append_left _ (List.mem_append_left _ (List.mem_append_left _ (List.mem_append_left _ (List.mem_append_left _ (List.mem_append_left _ (List.mem_append_left _ (List.mem_append_left _ (List.mem_append_left _ (List.mem_append_left _ (List.mem_append_right _ h)))))))))))) 1 (by decide) (List.mem_of_getElem? (i := 8) rfl) rfl (v := .ref (ad13 1 0)) rfl dX6_instruct_125 ?_
  refine lv_aload_n hx hb dX6_instruct_128 rfl (lv_at hl 0 rfl) ?_
  refine r_get (C := RX6) (T := TX6) (N := 8) (ci := 9) (fs := fl_0 ad13 vv12 ρ 0 (t11 0 0)) hx hb hts hown hE hW 0 0 rfl rfl rfl (fun w h => List.mem_cons_of_mem _ (List.mem_append_left _ (List.mem_append_left _ (List.mem_append_left _ (List.mem_append_left _ (List.mem_append_left _ (List.mem_append_left _ (List.mem_append_left _ (List.mem_append_left _ (List.mem_append_left _ (List.mem_append_left _ (List.mem_append_right _ h)))))))))))) 0 (by decide) (List.mem_of_getElem? (i := 9) rfl) rfl (v := .ref (ad13 7 0)) rfl dX6_instruct_129 ?_
  refine kA_Vv (rest := []) (As := [.ref (ad13 7 0)]) ⟨hx, hb, hml, hown, hts⟩ hE hz hS hW (mtX5_build l z G ad13 t11 vv12 ρ lo 0 0 _ h) (cwV 1 hts gX6_instruct_X5_build rfl rfl rfl (by decide +kernel) ⟨Nat.le_of_ble_eq_true rfl, Nat.le_of_ble_eq_true rfl⟩) (r_recv hE hW 1 0 (show 0 < 2 by decide) (ci := 8) rfl rfl) rfl hl.1 rfl (Nat.le_of_ble_eq_true rfl) dX6_instruct_132 ⟨Nat.le_of_ble_eq_true rfl, Nat.le_of_ble_eq_true rfl⟩ (fun S1 ad18 H locs hp hW hS => ?_)
  obtain ⟨t16, vv17, rfl, q19, h⟩ := hp
  have z20 : ad18 0 0 = ad13 0 0 := (q19 0 0 (by decide) rfl).2
  have hl : lv_has ls 5 [(0, .ref (ad18 0 0)), (1, .int p1), (2, .int p2)] := by rw [z20]; exact hl
  refine lv_aload_n hx hb dX6_instruct_135 rfl (lv_at hl 0 rfl) ?_
  refine r_get (C := RX6) (T := TX6) (N := 8) (ci := 9) (fs := fl_0 ad18 vv17 ρ 0 (t16 0 0)) hx hb hts hown hE hW 0 0 rfl rfl rfl (fun w h => List.mem_cons_of_mem _ (List.mem_append_left _ (List.mem_append_left _ (List.mem_append_left _ (List.mem_append_left _ (List.mem_append_left _ (List.mem_append_left _ (List.mem_append_left _ (List.mem_append_left _ (List.mem_append_left _ (List.mem_append_left _ (List.mem_append_right _ h)))))))))))) 0 (by decide) (List.mem_of_getElem? (i := 9) rfl) rfl (v := .ref (ad18 7 0)) rfl dX6_instruct_136 ?_
  refine k_Vi (rest := []) (As := []) ⟨hx, hb, hml, hown, hts⟩ hE hz hS hW (mtJx4a65c_size_8abf5 l z G ad18 t16 vv17 ρ lo 0 _ h) (cwV 0 hts gX6_instruct_Jx4a65c_size_8abf5 rfl rfl rfl (by decide +kernel) ⟨Nat.le_of_ble_eq_true rfl, Nat.le_of_ble_eq_true rfl⟩) (r_recv hE hW 7 0 (show 0 < 3 by decide) (ci := 2) rfl rfl) rfl hl.1 rfl (Nat.le_of_ble_eq_true rfl) dX6_instruct_139 ⟨Nat.le_of_ble_eq_true rfl, Nat.le_of_ble_eq_true rfl⟩ (fun r21 S1 H locs hp hW hS => ?_)
  obtain ⟨rfl, h⟩ := hp
  refine lv_iconst (v := (1 : Int32)) hx hb dX6_instruct_142 (by decide) ?_
  refine lv_isub hx hb dX6_instruct_143 ?_
  refine vx_ret ?_
  exact W.iret (v := r21 - ((1 : Int32))) hx hb hr (fun t ht _ => ⟨⟨_, ((t16, vv17, ρ, lo), ad18), rfl, ⟨_, _, rfl, (Xt.tr (Xt.tr hX9 q14) q19), h⟩, WP.at9 ht hW⟩, hS.F ht⟩) hS.2.2 dX6_instruct_144 (hlocks := hlocks)
set_option maxHeartbeats 4000000 in
set_option maxRecDepth 100000 in
theorem tX6_instruct_100 {p : Program} {l : Launch} {e : Env} {s : State} {m : MethodId} {args : Array Value} {below : List Frame} {meth : Method} {c : Code} {z : Nat} {G : Gl} {ad : Nat → Nat → Nat} {σ : SG} {ν : NU} {ρ : RH} {lo : Int64} (X : Cxx p l e s m args below meth c cX6_instruct (some .int) 5 RX6 wsX6_instruct z G) (p1 : Int32) (p2 : Int32) (p3 : Int32) (p4 : Int32)  (post : Int32 → SG → NU → Prop) (px : String → Prop) : ∀ (a1 : SG) (a2 : NU) (b1 : Nat → Nat → Nat) {H : Heap} {locs : List Loc} {ls : Array Slot}, Xt ad b1 ν a2 → WP z G b1 (a1, a2, ρ, lo) H → va_S (Az z) s.heap H locs → lv_has ls 5 [(0, .ref (b1 0 0)), (1, .int p1), (2, .int p2), (3, .int p3), (4, .int p4)] → jX6_instruct_100 p1 p2 p3 p4 post px a1 a2 → W p l e ({ frames := 9, cells := 21, slots := 275, locals := 221 } : Room) s m args below meth c H locs 4 24 (vx_MQ below (Qia z G (fun r S1 => ∃ (t : SG) (u : NU), S1.1 = (t, u, ρ, lo) ∧ Xt ad S1.2 ν u ∧ post r t u)) (XCs z G ad (fun E S1 => S1 = (σ, ν, ρ, lo) ∧ px E)) args s 21 275 (Az z)) (F0 m 100 ls []) := by
  obtain ⟨hx, hb, hr, hml, hown, hts, hlocks, hE, hz, htb, hlt⟩ := id X
  intro a1 a2 b1 H locs ls hX9 hW hS hl h
  unfold jX6_instruct_100 at h
  refine lv_iload_n hx hb dX6_instruct_100 rfl (lv_at hl 1 rfl) ?_
  refine lv_iconst (v := (4 : Int32)) hx hb dX6_instruct_101 (by decide) ?_
  refine r_icmp_ne hx hb rfl (show (4 : Int32).toInt = 4 by decide) (tgt := 118) dX6_instruct_102 (by decide) (fun c10 => ?_) (fun c10 => ?_)
  · have h := ite_f c10 h
    exact tX6_instruct_118 (σ := σ) (ρ := ρ) X p1 p2 p3 p4 post px  a1 a2 b1 hX9 hW hS (lv_sub hl [0, 1, 2] rfl) h
  · have h := ite_t c10 h
    refine lv_aload_n hx hb dX6_instruct_105 rfl (lv_at hl 0 rfl) ?_
    refine r_get (C := RX6) (T := TX6) (N := 8) (ci := 9) (fs := fl_0 b1 a2 ρ 0 (a1 0 0)) hx hb hts hown hE hW 0 0 rfl rfl rfl (fun w h => List.mem_cons_of_mem _ (List.mem_append_left _ (List.mem_append_left _ (List.mem_append_left _ (List.mem_append_left _ (List.mem_append_left _ (List.mem_append_left _ (List.mem_append_left _ (List.mem_append_left _ (List.mem_append_left _ (List.mem_append_left _ (List.mem_append_right _ h)))))))))))) 3 (by decide) (List.mem_of_getElem? (i := 5) rfl) rfl (v := .ref (b1 3 (a2 0 0 3))) rfl dX6_instruct_106 ?_
    refine lv_iload_n hx hb dX6_instruct_109 rfl (lv_at hl 3 rfl) ?_
    refine lv_iload hx hb dX6_instruct_110 (lv_at hl 4 rfl) ?_
    refine k_Si (rest := [.ref (b1 3 (a2 0 0 3))]) (As := [.int p3, .int p4]) ⟨hx, hb, hml, hown, hts⟩ hE hz hS hW (mtX6_joinLabel l z G b1 a1 a2 ρ lo p3 p4 _ h) (va_cwS 2 hts gX6_instruct_X6_joinLabel rfl rfl rfl (by decide +kernel) ⟨Nat.le_of_ble_eq_true rfl, Nat.le_of_ble_eq_true rfl⟩) rfl hl.1 rfl (Nat.le_of_ble_eq_true rfl) dX6_instruct_112 ⟨Nat.le_of_ble_eq_true rfl, Nat.le_of_ble_eq_true rfl⟩ (fun r22 S1 H locs hp hW hS => ?_)
    obtain ⟨rfl, h⟩ := hp
    obtain ⟨g23, h⟩ := h
    refine r_putC (C := RX0) (T := TX0) (N := 13) (ci := 3) (fl := fl_3 b1 a2 ρ (a2 0 0 3)) hx hb hts hown hE hW hS 3 (a2 0 0 3) g23 (fun _ => rfl) rfl (fun w h => List.mem_cons_of_mem _ (List.mem_append_left _ (List.mem_append_left _ (List.mem_append_left _ (List.mem_append_left _ (List.mem_append_left _ (List.mem_append_left _ (List.mem_append_left _ (List.mem_append_left _ (List.mem_append_left _ (List.mem_append_right _ h))))))))))) tyX0_ok nmX0 6 (by decide) (List.mem_of_getElem? (i := 7) rfl) rfl rfl rfl (Nat.le_of_ble_eq_true rfl) (x := r22) rfl dX6_instruct_115 (fun t24 e25 H locs hW hS => ?_)
    have h := h t24 e25
    exact tX6_instruct_118 (σ := σ) (ρ := ρ) X p1 p2 p3 p4 post px  t24 a2 b1 hX9 hW hS (lv_sub hl [0, 1, 2] rfl) h
set_option maxHeartbeats 4000000 in
set_option maxRecDepth 100000 in
theorem tX6_instruct_62 {p : Program} {l : Launch} {e : Env} {s : State} {m : MethodId} {args : Array Value} {below : List Frame} {meth : Method} {c : Code} {z : Nat} {G : Gl} {ad : Nat → Nat → Nat} {σ : SG} {ν : NU} {ρ : RH} {lo : Int64} (X : Cxx p l e s m args below meth c cX6_instruct (some .int) 5 RX6 wsX6_instruct z G) (p1 : Int32) (p2 : Int32) (p3 : Int32) (p4 : Int32)  (post : Int32 → SG → NU → Prop) (px : String → Prop) : ∀  {H : Heap} {locs : List Loc} {ls : Array Slot}, WP z G ad (σ, ν, ρ, lo) H → va_S (Az z) s.heap H locs → lv_has ls 5 [(0, .ref (ad 0 0)), (1, .int p1), (2, .int p2), (3, .int p3), (4, .int p4)] → jX6_instruct_62 p1 p2 p3 p4 post px σ ν → W p l e ({ frames := 9, cells := 21, slots := 275, locals := 221 } : Room) s m args below meth c H locs 3 18 (vx_MQ below (Qia z G (fun r S1 => ∃ (t : SG) (u : NU), S1.1 = (t, u, ρ, lo) ∧ Xt ad S1.2 ν u ∧ post r t u)) (XCs z G ad (fun E S1 => S1 = (σ, ν, ρ, lo) ∧ px E)) args s 21 275 (Az z)) (F0 m 62 ls []) := by
  obtain ⟨hx, hb, hr, hml, hown, hts, hlocks, hE, hz, htb, hlt⟩ := id X
  intro  H locs ls hW hS hl h
  unfold jX6_instruct_62 at h
  refine lv_aload_n hx hb dX6_instruct_62 rfl (lv_at hl 0 rfl) ?_
  refine x_Vv (rest := []) (As := []) ⟨hx, hb, hml, hown, hts⟩ hE hz hS hW (mtX6_needRoomInAct l hlt z G ad σ ν ρ lo  _ _ h) (cwV 0 hts gX6_instruct_X6_needRoomInAct rfl rfl rfl (by decide +kernel) ⟨Nat.le_of_ble_eq_true rfl, Nat.le_of_ble_eq_true rfl⟩) (r_recv hE hW 0 0 rfl (ci := 9) rfl rfl) rfl hl.1 rfl (Nat.le_of_ble_eq_true rfl) dX6_instruct_63 ⟨Nat.le_of_ble_eq_true rfl, Nat.le_of_ble_eq_true rfl⟩ hlocks htb (fun E S1 q => q) ⟨Nat.le_of_ble_eq_true rfl, Nat.le_of_ble_eq_true rfl⟩ (fun S1 H locs hp hW hS => ?_)
  obtain ⟨rfl, h⟩ := hp
  refine lv_aload_n hx hb dX6_instruct_66 rfl (lv_at hl 0 rfl) ?_
  refine r_get (C := RX6) (T := TX6) (N := 8) (ci := 9) (fs := fl_0 ad ν ρ 0 (σ 0 0)) hx hb hts hown hE hW 0 0 rfl rfl rfl (fun w h => List.mem_cons_of_mem _ (List.mem_append_left _ (List.mem_append_left _ (List.mem_append_left _ (List.mem_append_left _ (List.mem_append_left _ (List.mem_append_left _ (List.mem_append_left _ (List.mem_append_left _ (List.mem_append_left _ (List.mem_append_left _ (List.mem_append_right _ h)))))))))))) 3 (by decide) (List.mem_of_getElem? (i := 5) rfl) rfl (v := .ref (ad 3 (ν 0 0 3))) rfl dX6_instruct_67 ?_
  refine lv_iload_n hx hb dX6_instruct_70 rfl (lv_at hl 1 rfl) ?_
  obtain ⟨g6, h⟩ := h
  refine k_Vi (rest := []) (As := [.int p1]) ⟨hx, hb, hml, hown, hts⟩ hE hz hS hW (mtX0_hasWordsFor l z G ad σ ν ρ lo (ν 0 0 3) p1 _ h) (cwV 1 hts gX6_instruct_X0_hasWordsFor rfl rfl rfl (by decide +kernel) ⟨Nat.le_of_ble_eq_true rfl, Nat.le_of_ble_eq_true rfl⟩) (r_recv hE hW 3 (ν 0 0 3) g6 (ci := 3) rfl rfl) rfl hl.1 rfl (Nat.le_of_ble_eq_true rfl) dX6_instruct_71 ⟨Nat.le_of_ble_eq_true rfl, Nat.le_of_ble_eq_true rfl⟩ (fun r7 S1 H locs hp hW hS => ?_)
  obtain ⟨rfl, h⟩ := hp
  refine r_if_ne hx hb rfl (tgt := 87) dX6_instruct_74 (by decide) (fun c8 => ?_) (fun c8 => ?_)
  · have h := ite_f c8 h
    refine lv_iload_n hx hb dX6_instruct_87 rfl (lv_at hl 1 rfl) ?_
    refine lv_iconst (v := (5 : Int32)) hx hb dX6_instruct_88 (by decide) ?_
    refine r_icmp_ne hx hb rfl (show (5 : Int32).toInt = 5 by decide) (tgt := 100) dX6_instruct_89 (by decide) (fun c9 => ?_) (fun c9 => ?_)
    · have h := ite_f c9 h
      exact tX6_instruct_100 (σ := σ) (ρ := ρ) X p1 p2 p3 p4 post px  σ ν ad Xt.rf hW hS (lv_sub hl [0, 1, 2, 3, 4] rfl) h
    · have h := ite_t c9 h
      refine lv_aload_n hx hb dX6_instruct_92 rfl (lv_at hl 0 rfl) ?_
      refine r_get (C := RX6) (T := TX6) (N := 8) (ci := 9) (fs := fl_0 ad ν ρ 0 (σ 0 0)) hx hb hts hown hE hW 0 0 rfl rfl rfl (fun w h => List.mem_cons_of_mem _ (List.mem_append_left _ (List.mem_append_left _ (List.mem_append_left _ (List.mem_append_left _ (List.mem_append_left _ (List.mem_append_left _ (List.mem_append_left _ (List.mem_append_left _ (List.mem_append_left _ (List.mem_append_left _ (List.mem_append_right _ h)))))))))))) 3 (by decide) (List.mem_of_getElem? (i := 5) rfl) rfl (v := .ref (ad 3 (ν 0 0 3))) rfl dX6_instruct_93 ?_
      refine lv_iload_n hx hb dX6_instruct_96 rfl (lv_at hl 3 rfl) ?_
      refine r_putC (C := RX0) (T := TX0) (N := 13) (ci := 3) (fl := fl_3 ad ν ρ (ν 0 0 3)) hx hb hts hown hE hW hS 3 (ν 0 0 3) g6 (fun _ => rfl) rfl (fun w h => List.mem_cons_of_mem _ (List.mem_append_left _ (List.mem_append_left _ (List.mem_append_left _ (List.mem_append_left _ (List.mem_append_left _ (List.mem_append_left _ (List.mem_append_left _ (List.mem_append_left _ (List.mem_append_left _ (List.mem_append_right _ h))))))))))) tyX0_ok nmX0 5 (by decide) (List.mem_of_getElem? (i := 6) rfl) rfl rfl rfl (Nat.le_of_ble_eq_true rfl) (x := p3) rfl dX6_instruct_97 (fun t26 e27 H locs hW hS => ?_)
      have h := h t26 e27
      exact tX6_instruct_100 (σ := σ) (ρ := ρ) X p1 p2 p3 p4 post px  t26 ν ad Xt.rf hW hS (lv_sub hl [0, 1, 2, 3, 4] rfl) h
  · have h := ite_t c8 h
    exact r_throw (k := 10) (k2 := 3) (cls := "java/lang/IllegalStateException") (ik := 60) (is := 142) (ic := 64) (text := "the words are not those of the kind") hx hb hlt hts hown hml hlocks htb hE hW hS hl.1 (List.mem_of_getElem? (i := 3) rfl) (List.mem_of_getElem? (i := 4) rfl) (fun w h => List.mem_cons_of_mem _ (List.mem_append_left _ (List.mem_append_right _ h))) rfl rfl (by decide +kernel) (by decide +kernel) rfl dX6_instruct_77 dX6_instruct_80 dX6_instruct_81 dX6_instruct_83 dX6_instruct_86 (Nat.le_of_ble_eq_true rfl) (Nat.le_of_ble_eq_true rfl) (Nat.le_of_ble_eq_true rfl) (Nat.le_of_ble_eq_true rfl) (Nat.le_of_ble_eq_true rfl) (Nat.le_of_ble_eq_true rfl) ⟨rfl, h⟩
set_option maxHeartbeats 4000000 in
set_option maxRecDepth 100000 in
theorem tX6_instruct_30 {p : Program} {l : Launch} {e : Env} {s : State} {m : MethodId} {args : Array Value} {below : List Frame} {meth : Method} {c : Code} {z : Nat} {G : Gl} {ad : Nat → Nat → Nat} {σ : SG} {ν : NU} {ρ : RH} {lo : Int64} (X : Cxx p l e s m args below meth c cX6_instruct (some .int) 5 RX6 wsX6_instruct z G) (p1 : Int32) (p2 : Int32) (p3 : Int32) (p4 : Int32)  (post : Int32 → SG → NU → Prop) (px : String → Prop) : ∀  {H : Heap} {locs : List Loc} {ls : Array Slot}, WP z G ad (σ, ν, ρ, lo) H → va_S (Az z) s.heap H locs → lv_has ls 5 [(0, .ref (ad 0 0)), (1, .int p1), (2, .int p2), (3, .int p3), (4, .int p4)] → jX6_instruct_30 p1 p2 p3 p4 post px σ ν → W p l e ({ frames := 9, cells := 21, slots := 275, locals := 221 } : Room) s m args below meth c H locs 2 12 (vx_MQ below (Qia z G (fun r S1 => ∃ (t : SG) (u : NU), S1.1 = (t, u, ρ, lo) ∧ Xt ad S1.2 ν u ∧ post r t u)) (XCs z G ad (fun E S1 => S1 = (σ, ν, ρ, lo) ∧ px E)) args s 21 275 (Az z)) (F0 m 30 ls []) := by
  obtain ⟨hx, hb, hr, hml, hown, hts, hlocks, hE, hz, htb, hlt⟩ := id X
  intro  H locs ls hW hS hl h
  unfold jX6_instruct_30 at h
  refine lv_iload_n hx hb dX6_instruct_30 rfl (lv_at hl 1 rfl) ?_
  refine lv_iconst (v := (1 : Int32)) hx hb dX6_instruct_31 (by decide) ?_
  refine r_icmp_lt hx hb rfl (show (1 : Int32).toInt = 1 by decide) (tgt := 41) dX6_instruct_32 (by decide) (fun c3 => ?_) (fun c3 => ?_)
  · have h := ite_t c3 h
    exact r_throw (k := 9) (k2 := 2) (cls := "java/lang/IllegalArgumentException") (ik := 53) (is := 137) (ic := 57) (text := "kind is out of range") hx hb hlt hts hown hml hlocks htb hE hW hS hl.1 (List.mem_of_getElem? (i := 1) rfl) (List.mem_of_getElem? (i := 2) rfl) (fun w h => List.mem_cons_of_mem _ (List.mem_append_left _ (List.mem_append_left _ (List.mem_append_right _ h)))) rfl rfl (by decide +kernel) (by decide +kernel) rfl dX6_instruct_41 dX6_instruct_44 dX6_instruct_45 dX6_instruct_47 dX6_instruct_50 (Nat.le_of_ble_eq_true rfl) (Nat.le_of_ble_eq_true rfl) (Nat.le_of_ble_eq_true rfl) (Nat.le_of_ble_eq_true rfl) (Nat.le_of_ble_eq_true rfl) (Nat.le_of_ble_eq_true rfl) ⟨rfl, h⟩
  · have h := ite_f c3 h
    refine lv_iload_n hx hb dX6_instruct_35 rfl (lv_at hl 1 rfl) ?_
    refine lv_bipush (v := (7 : Int32)) hx hb dX6_instruct_36 (by decide) ?_
    refine r_icmp_le hx hb rfl (show (7 : Int32).toInt = 7 by decide) (tgt := 51) dX6_instruct_38 (by decide) (fun c4 => ?_) (fun c4 => ?_)
    · have h := ite_t c4 h
      refine lv_iload_n hx hb dX6_instruct_51 rfl (lv_at hl 1 rfl) ?_
      refine lv_iconst (v := (4 : Int32)) hx hb dX6_instruct_52 (by decide) ?_
      refine r_icmp_ne hx hb rfl (show (4 : Int32).toInt = 4 by decide) (tgt := 62) dX6_instruct_53 (by decide) (fun c5 => ?_) (fun c5 => ?_)
      · have h := ite_f c5 h
        refine W.widen (k := 3) (n := 18) (Nat.le_of_ble_eq_true rfl) (Nat.le_of_ble_eq_true rfl) ?_
        exact tX6_instruct_62 (σ := σ) (ρ := ρ) X p1 p2 p3 p4 post px   hW hS (lv_sub hl [0, 1, 2, 3, 4] rfl) h
      · have h := ite_t c5 h
        refine lv_iload_n hx hb dX6_instruct_56 rfl (lv_at hl 3 rfl) ?_
        refine lv_iload hx hb dX6_instruct_57 (lv_at hl 4 rfl) ?_
        refine x_Sv (rest := []) (As := [.int p3, .int p4]) ⟨hx, hb, hml, hown, hts⟩ hE hz hS hW (mtX6_needLabel l hlt z G ad σ ν ρ lo p3 p4 _ _ h) (va_cwS 2 hts gX6_instruct_X6_needLabel rfl rfl rfl (by decide +kernel) ⟨Nat.le_of_ble_eq_true rfl, Nat.le_of_ble_eq_true rfl⟩) rfl hl.1 rfl (Nat.le_of_ble_eq_true rfl) dX6_instruct_59 ⟨Nat.le_of_ble_eq_true rfl, Nat.le_of_ble_eq_true rfl⟩ hlocks htb (fun E S1 q => q) ⟨Nat.le_of_ble_eq_true rfl, Nat.le_of_ble_eq_true rfl⟩ (fun S1 H locs hp hW hS => ?_)
        obtain ⟨rfl, h⟩ := hp
        exact tX6_instruct_62 (σ := σ) (ρ := ρ) X p1 p2 p3 p4 post px   hW hS (lv_sub hl [0, 1, 2, 3, 4] rfl) h
    · have h := ite_f c4 h
      exact r_throw (k := 9) (k2 := 2) (cls := "java/lang/IllegalArgumentException") (ik := 53) (is := 137) (ic := 57) (text := "kind is out of range") hx hb hlt hts hown hml hlocks htb hE hW hS hl.1 (List.mem_of_getElem? (i := 1) rfl) (List.mem_of_getElem? (i := 2) rfl) (fun w h => List.mem_cons_of_mem _ (List.mem_append_left _ (List.mem_append_left _ (List.mem_append_right _ h)))) rfl rfl (by decide +kernel) (by decide +kernel) rfl dX6_instruct_41 dX6_instruct_44 dX6_instruct_45 dX6_instruct_47 dX6_instruct_50 (Nat.le_of_ble_eq_true rfl) (Nat.le_of_ble_eq_true rfl) (Nat.le_of_ble_eq_true rfl) (Nat.le_of_ble_eq_true rfl) (Nat.le_of_ble_eq_true rfl) (Nat.le_of_ble_eq_true rfl) ⟨rfl, h⟩
set_option maxHeartbeats 4000000 in
set_option maxRecDepth 100000 in
theorem tX6_instruct_20 {p : Program} {l : Launch} {e : Env} {s : State} {m : MethodId} {args : Array Value} {below : List Frame} {meth : Method} {c : Code} {z : Nat} {G : Gl} {ad : Nat → Nat → Nat} {σ : SG} {ν : NU} {ρ : RH} {lo : Int64} (X : Cxx p l e s m args below meth c cX6_instruct (some .int) 5 RX6 wsX6_instruct z G) (p1 : Int32) (p2 : Int32) (p3 : Int32) (p4 : Int32)  (post : Int32 → SG → NU → Prop) (px : String → Prop) : ∀  {H : Heap} {locs : List Loc} {ls : Array Slot}, WP z G ad (σ, ν, ρ, lo) H → va_S (Az z) s.heap H locs → lv_has ls 5 [(0, .ref (ad 0 0)), (1, .int p1), (2, .int p2), (3, .int p3), (4, .int p4)] → jX6_instruct_20 p1 p2 p3 p4 post px σ ν → W p l e ({ frames := 9, cells := 21, slots := 275, locals := 221 } : Room) s m args below meth c H locs 1 6 (vx_MQ below (Qia z G (fun r S1 => ∃ (t : SG) (u : NU), S1.1 = (t, u, ρ, lo) ∧ Xt ad S1.2 ν u ∧ post r t u)) (XCs z G ad (fun E S1 => S1 = (σ, ν, ρ, lo) ∧ px E)) args s 21 275 (Az z)) (F0 m 20 ls []) := by
  obtain ⟨hx, hb, hr, hml, hown, hts, hlocks, hE, hz, htb, hlt⟩ := id X
  intro  H locs ls hW hS hl h
  unfold jX6_instruct_20 at h
  refine lv_iload_n hx hb dX6_instruct_20 rfl (lv_at hl 1 rfl) ?_
  refine lv_iconst (v := (5 : Int32)) hx hb dX6_instruct_21 (by decide) ?_
  refine r_icmp_ne hx hb rfl (show (5 : Int32).toInt = 5 by decide) (tgt := 30) dX6_instruct_22 (by decide) (fun c2 => ?_) (fun c2 => ?_)
  · have h := ite_f c2 h
    refine W.widen (k := 2) (n := 12) (Nat.le_of_ble_eq_true rfl) (Nat.le_of_ble_eq_true rfl) ?_
    exact tX6_instruct_30 (σ := σ) (ρ := ρ) X p1 p2 p3 p4 post px   hW hS (lv_sub hl [0, 1, 2, 3, 4] rfl) h
  · have h := ite_t c2 h
    refine lv_aload_n hx hb dX6_instruct_25 rfl (lv_at hl 0 rfl) ?_
    refine lv_iload_n hx hb dX6_instruct_26 rfl (lv_at hl 3 rfl) ?_
    refine x_Vv (rest := []) (As := [.int p3]) ⟨hx, hb, hml, hown, hts⟩ hE hz hS hW (mtX6_needProvisionOrTop l hlt z G ad σ ν ρ lo p3 _ _ h) (cwV 1 hts gX6_instruct_X6_needProvisionOrTop rfl rfl rfl (by decide +kernel) ⟨Nat.le_of_ble_eq_true rfl, Nat.le_of_ble_eq_true rfl⟩) (r_recv hE hW 0 0 rfl (ci := 9) rfl rfl) rfl hl.1 rfl (Nat.le_of_ble_eq_true rfl) dX6_instruct_27 ⟨Nat.le_of_ble_eq_true rfl, Nat.le_of_ble_eq_true rfl⟩ hlocks htb (fun E S1 q => q) ⟨Nat.le_of_ble_eq_true rfl, Nat.le_of_ble_eq_true rfl⟩ (fun S1 H locs hp hW hS => ?_)
    obtain ⟨rfl, h⟩ := hp
    exact tX6_instruct_30 (σ := σ) (ρ := ρ) X p1 p2 p3 p4 post px   hW hS (lv_sub hl [0, 1, 2, 3, 4] rfl) h
set_option maxHeartbeats 4000000 in
set_option maxRecDepth 100000 in
theorem mtX6_instruct (l : Launch) (hlt : l.stackTraces = false) (z : Nat) (G : Gl) (ad : Nat → Nat → Nat) (σ : SG) (ν : NU) (ρ : RH) (lo : Int64) (p1 : Int32) (p2 : Int32) (p3 : Int32) (p4 : Int32) (post : Int32 → SG → NU → Prop) (px : String → Prop) (h : wpX6_instruct σ ν p1 p2 p3 p4 post px) : vx_Met l yX6_instruct wsX6_instruct ({ frames := 9, cells := 21, slots := 275, locals := 221 } : Room) (Pcs z G ad (σ, ν, ρ, lo) [.ref (ad 0 0), .int p1, .int p2, .int p3, .int p4]) (Qia z G (fun r S1 => ∃ (t : SG) (u : NU), S1.1 = (t, u, ρ, lo) ∧ Xt ad S1.2 ν u ∧ post r t u)) (XCs z G ad (fun E S1 => S1 = (σ, ν, ρ, lo) ∧ px E)) 21 275 (Az z) := by
  refine vx_ofW (cc := cX6_instruct) (maxL := 5) (ret := (some .int)) (by decide) rfl ?_
  intro p e s m args below meth c s₁ B hml htb hv
  obtain ⟨rfl, hz, hW, hE⟩ := hv
  have hx := B.exec
  have hb := B.bytes
  have hr := B.returns
  have hts := atoms_spec (ws := wsX6_instruct) B.pre
  have hown : s.vm.findClass RX6 = some m.cls := findClass_of_methodNamed B.named
  have hlocks := B.notSynchronized
  have X : Cxx p l e s m _ below meth c cX6_instruct (some .int) 5 RX6 wsX6_instruct z G := ⟨hx, hb, hr, hml, hown, hts, hlocks, hE, hz, htb, hlt⟩
  have hS : va_S (Az z) s.heap s.heap [] := va_S.rf
  have hl := lv_entry [.ref (ad 0 0), .int p1, .int p2, .int p3, .int p4] (n := 5) (Nat.le_of_ble_eq_true rfl)
  rw [lg_entry_eq]
  generalize (lg_sl [.ref (ad 0 0), .int p1, .int p2, .int p3, .int p4] ++ List.replicate (5 - (lg_sl [.ref (ad 0 0), .int p1, .int p2, .int p3, .int p4]).length) Slot.unset).toArray = ls at hl ⊢
  have hl : lv_has ls 5 [(0, .ref (ad 0 0)), (1, .int p1), (2, .int p2), (3, .int p3), (4, .int p4)] := hl
  unfold wpX6_instruct at h
  refine lv_iload_n hx hb dX6_instruct_0 rfl (lv_at hl 1 rfl) ?_
  refine lv_bipush (v := (7 : Int32)) hx hb dX6_instruct_1 (by decide) ?_
  refine r_icmp_ne hx hb rfl (show (7 : Int32).toInt = 7 by decide) (tgt := 15) dX6_instruct_3 (by decide) (fun c1 => ?_) (fun c1 => ?_)
  · have h := ite_f c1 h
    refine lv_aload_n hx hb dX6_instruct_15 rfl (lv_at hl 0 rfl) ?_
    refine lv_iload_n hx hb dX6_instruct_16 rfl (lv_at hl 2 rfl) ?_
    refine x_Vv (rest := []) (As := [.int p2]) ⟨hx, hb, hml, hown, hts⟩ hE hz hS hW (mtX6_needProvision l hlt z G ad σ ν ρ lo p2 _ _ h) (cwV 1 hts gX6_instruct_X6_needProvision rfl rfl rfl (by decide +kernel) ⟨Nat.le_of_ble_eq_true rfl, Nat.le_of_ble_eq_true rfl⟩) (r_recv hE hW 0 0 rfl (ci := 9) rfl rfl) rfl hl.1 rfl (Nat.le_of_ble_eq_true rfl) dX6_instruct_17 ⟨Nat.le_of_ble_eq_true rfl, Nat.le_of_ble_eq_true rfl⟩ hlocks htb (fun E S1 q => q) ⟨Nat.le_of_ble_eq_true rfl, Nat.le_of_ble_eq_true rfl⟩ (fun S1 H locs hp hW hS => ?_)
    obtain ⟨rfl, h⟩ := hp
    exact tX6_instruct_20 (σ := σ) (ρ := ρ) X p1 p2 p3 p4 post px   hW hS (lv_sub hl [0, 1, 2, 3, 4] rfl) h
  · have h := ite_t c1 h
    refine lv_aload_n hx hb dX6_instruct_6 rfl (lv_at hl 0 rfl) ?_
    refine lv_iload_n hx hb dX6_instruct_7 rfl (lv_at hl 2 rfl) ?_
    refine x_Vr (rest := []) (As := [.int p2]) ⟨hx, hb, hml, hown, hts⟩ hE hz hS hW (mtX6_needInstruction l hlt z G ad σ ν ρ lo p2 _ _ h) (cwV 1 hts gX6_instruct_X6_needInstruction rfl rfl rfl (by decide +kernel) ⟨Nat.le_of_ble_eq_true rfl, Nat.le_of_ble_eq_true rfl⟩) (r_recv hE hW 0 0 rfl (ci := 9) rfl rfl) rfl hl.1 rfl (Nat.le_of_ble_eq_true rfl) dX6_instruct_8 ⟨Nat.le_of_ble_eq_true rfl, Nat.le_of_ble_eq_true rfl⟩ hlocks htb (fun E S1 q => q) ⟨Nat.le_of_ble_eq_true rfl, Nat.le_of_ble_eq_true rfl⟩ (fun r28 S1 H locs hp hW hS => ?_)
    obtain ⟨rfl, h⟩ := hp
    refine lv_pop hx hb dX6_instruct_11 rfl ?_
    refine lv_goto (tgt := 20) hx hb dX6_instruct_12 (by decide) ?_
    exact tX6_instruct_20 (σ := σ) (ρ := ρ) X p1 p2 p3 p4 post px   hW hS (lv_sub hl [0, 1, 2, 3, 4] rfl) h
set_option maxHeartbeats 4000000 in
set_option maxRecDepth 100000 in
theorem mtX1_give (l : Launch) (z : Nat) (G : Gl) (ad : Nat → Nat → Nat) (σ : SG) (ν : NU) (ρ : RH) (lo : Int64) (o0 : Nat) (p1 : Int32) (p2 : Int32) (p3 : Int32) (post : SG → Prop) (h : wpX1_give σ ν o0 p1 p2 p3 post) : Met l yX1_give wsX1_give ({ frames := 0, cells := 0, slots := 0, locals := 0 } : Room) (Pcs z G ad (σ, ν, ρ, lo) [.ref (ad 6 o0), .int p1, .int p2, .int p3]) (Qvs z G ad (fun S1 => ∃ t : SG, S1 = (t, ν, ρ, lo) ∧ post t)) 0 0 (Az z) := by
  refine Met.ofW (cc := cX1_give) (maxL := 4) (ret := none) (by decide) rfl ?_
  intro p e s m args below meth c s₁ B hml hv
  obtain ⟨rfl, hz, hW, hE⟩ := hv
  have hx := B.exec
  have hb := B.bytes
  have hr := B.returns
  have hts := atoms_spec (ws := wsX1_give) B.pre
  have hown : s.vm.findClass RX1 = some m.cls := findClass_of_methodNamed B.named
  have hlocks := B.notSynchronized
  have X : Cx p l e s m _ below meth c cX1_give none 4 RX1 wsX1_give z G := ⟨hx, hb, hr, hml, hown, hts, hlocks, hE, hz⟩
  have hS : va_S (Az z) s.heap s.heap [] := va_S.rf
  have hl := lv_entry [.ref (ad 6 o0), .int p1, .int p2, .int p3] (n := 4) (Nat.le_of_ble_eq_true rfl)
  rw [lg_entry_eq]
  generalize (lg_sl [.ref (ad 6 o0), .int p1, .int p2, .int p3] ++ List.replicate (4 - (lg_sl [.ref (ad 6 o0), .int p1, .int p2, .int p3]).length) Slot.unset).toArray = ls at hl ⊢
  have hl : lv_has ls 4 [(0, .ref (ad 6 o0)), (1, .int p1), (2, .int p2), (3, .int p3)] := hl
  unfold wpX1_give at h
  refine lv_aload_n hx hb dX1_give_0 rfl (lv_at hl 0 rfl) ?_
  refine lv_iload_n hx hb dX1_give_1 rfl (lv_at hl 1 rfl) ?_
  obtain ⟨g1, h⟩ := h
  refine r_putC (C := RX1) (T := TX1) (N := 3) (ci := 4) (fl := fl_6 ad ν ρ o0) hx hb hts hown hE hW hS 6 o0 g1 (fun _ => rfl) rfl (fun w h => List.mem_cons_of_mem _ (List.mem_append_right _ h)) tyX1_ok nmX1 0 (by decide) (List.mem_of_getElem? (i := 1) rfl) rfl rfl rfl (Nat.le_of_ble_eq_true rfl) (x := p1) rfl dX1_give_2 (fun t2 e3 H locs hW hS => ?_)
  have h := h t2 e3
  refine lv_aload_n hx hb dX1_give_5 rfl (lv_at hl 0 rfl) ?_
  refine lv_iload_n hx hb dX1_give_6 rfl (lv_at hl 2 rfl) ?_
  refine r_putC (C := RX1) (T := TX1) (N := 3) (ci := 4) (fl := fl_6 ad ν ρ o0) hx hb hts hown hE hW hS 6 o0 g1 (fun _ => rfl) rfl (fun w h => List.mem_cons_of_mem _ (List.mem_append_right _ h)) tyX1_ok nmX1 1 (by decide) (List.mem_of_getElem? (i := 2) rfl) rfl rfl rfl (Nat.le_of_ble_eq_true rfl) (x := p2) rfl dX1_give_7 (fun t4 e5 H locs hW hS => ?_)
  have h := h t4 e5
  refine lv_aload_n hx hb dX1_give_10 rfl (lv_at hl 0 rfl) ?_
  refine lv_iload_n hx hb dX1_give_11 rfl (lv_at hl 3 rfl) ?_
  refine r_putC (C := RX1) (T := TX1) (N := 3) (ci := 4) (fl := fl_6 ad ν ρ o0) hx hb hts hown hE hW hS 6 o0 g1 (fun _ => rfl) rfl (fun w h => List.mem_cons_of_mem _ (List.mem_append_right _ h)) tyX1_ok nmX1 2 (by decide) (List.mem_of_getElem? (i := 3) rfl) rfl rfl rfl (Nat.le_of_ble_eq_true rfl) (x := p3) rfl dX1_give_12 (fun t6 e7 H locs hW hS => ?_)
  have h := h t6 e7
  exact W.vret hx hb hr (fun t ht _ => ⟨⟨(t6, ν, ρ, lo), rfl, ⟨_, rfl, h⟩, WP.at9 ht hW⟩, hS.F ht⟩) hS.2.2 dX1_give_15 (hlocks := hlocks)
set_option maxHeartbeats 4000000 in
set_option maxRecDepth 100000 in
theorem mtX6_order (l : Launch) (hlt : l.stackTraces = false) (z : Nat) (G : Gl) (ad : Nat → Nat → Nat) (σ : SG) (ν : NU) (ρ : RH) (lo : Int64) (p1 : Int32) (p2 : Int32) (post : SG → NU → Prop) (px : String → Prop) (h : wpX6_order σ ν p1 p2 post px) : vx_Met l yX6_order wsX6_order ({ frames := 9, cells := 10, slots := 169, locals := 221 } : Room) (Pcs z G ad (σ, ν, ρ, lo) [.ref (ad 0 0), .int p1, .int p2]) (Qva z G (fun S1 => ∃ (t : SG) (u : NU), S1.1 = (t, u, ρ, lo) ∧ Xt ad S1.2 ν u ∧ post t u)) (XCs z G ad (fun E S1 => S1 = (σ, ν, ρ, lo) ∧ px E)) 10 169 (Az z) := by
  refine vx_ofW (cc := cX6_order) (maxL := 4) (ret := none) (by decide) rfl ?_
  intro p e s m args below meth c s₁ B hml htb hv
  obtain ⟨rfl, hz, hW, hE⟩ := hv
  have hx := B.exec
  have hb := B.bytes
  have hr := B.returns
  have hts := atoms_spec (ws := wsX6_order) B.pre
  have hown : s.vm.findClass RX6 = some m.cls := findClass_of_methodNamed B.named
  have hlocks := B.notSynchronized
  have X : Cxx p l e s m _ below meth c cX6_order none 4 RX6 wsX6_order z G := ⟨hx, hb, hr, hml, hown, hts, hlocks, hE, hz, htb, hlt⟩
  have hS : va_S (Az z) s.heap s.heap [] := va_S.rf
  have hl := lv_entry [.ref (ad 0 0), .int p1, .int p2] (n := 4) (Nat.le_of_ble_eq_true rfl)
  rw [lg_entry_eq]
  generalize (lg_sl [.ref (ad 0 0), .int p1, .int p2] ++ List.replicate (4 - (lg_sl [.ref (ad 0 0), .int p1, .int p2]).length) Slot.unset).toArray = ls at hl ⊢
  have hl : lv_has ls 4 [(0, .ref (ad 0 0)), (1, .int p1), (2, .int p2)] := hl
  unfold wpX6_order at h
  refine lv_aload_n hx hb dX6_order_0 rfl (lv_at hl 0 rfl) ?_
  refine lv_iload_n hx hb dX6_order_1 rfl (lv_at hl 1 rfl) ?_
  refine x_Vr (rest := []) (As := [.int p1]) ⟨hx, hb, hml, hown, hts⟩ hE hz hS hW (mtX6_needInstruction l hlt z G ad σ ν ρ lo p1 _ _ h) (cwV 1 hts gX6_order_X6_needInstruction rfl rfl rfl (by decide +kernel) ⟨Nat.le_of_ble_eq_true rfl, Nat.le_of_ble_eq_true rfl⟩) (r_recv hE hW 0 0 rfl (ci := 9) rfl rfl) rfl hl.1 rfl (Nat.le_of_ble_eq_true rfl) dX6_order_2 ⟨Nat.le_of_ble_eq_true rfl, Nat.le_of_ble_eq_true rfl⟩ hlocks htb (fun E S1 q => q) ⟨Nat.le_of_ble_eq_true rfl, Nat.le_of_ble_eq_true rfl⟩ (fun r1 S1 H locs hp hW hS => ?_)
  obtain ⟨rfl, h⟩ := hp
  refine lv_astore_n (lv' := [(3, .ref (ad 3 r1)), (0, .ref (ad 0 0)), (1, .int p1), (2, .int p2)]) hx hb dX6_order_5 rfl hl (by decide) rfl (fun ls hl => ?_)
  refine lv_iload_n hx hb dX6_order_6 rfl (lv_at hl 3 rfl) ?_
  refine x_Sv (rest := []) (As := [.int p2]) ⟨hx, hb, hml, hown, hts⟩ hE hz hS hW (mtX6_needDay l hlt z G ad σ ν ρ lo p2 _ _ h) (va_cwS 1 hts gX6_order_X6_needDay rfl rfl rfl (by decide +kernel) ⟨Nat.le_of_ble_eq_true rfl, Nat.le_of_ble_eq_true rfl⟩) rfl hl.1 rfl (Nat.le_of_ble_eq_true rfl) dX6_order_7 ⟨Nat.le_of_ble_eq_true rfl, Nat.le_of_ble_eq_true rfl⟩ hlocks htb (fun E S1 q => q) ⟨Nat.le_of_ble_eq_true rfl, Nat.le_of_ble_eq_true rfl⟩ (fun S1 H locs hp hW hS => ?_)
  obtain ⟨rfl, h⟩ := hp
  refine lv_aload_n hx hb dX6_order_10 rfl (lv_at hl 0 rfl) ?_
  obtain ⟨g2, h⟩ := h
  refine r_get (C := RX0) (T := TX0) (N := 13) (ci := 3) (fs := fl_3 ad ν ρ r1 (σ 3 r1)) hx hb hts hown hE hW 3 r1 g2 rfl rfl (fun w h => List.mem_cons_of_mem _ (List.mem_append_left _ (List.mem_append_left _ (List.mem_append_left _ (List.mem_append_left _ (List.mem_append_left _ (List.mem_append_left _ (List.mem_append_left _ (List.mem_append_left _ (List.mem_append_left _ (List.mem_append_left _ (List.mem_append_right _ h)))))))))))) 7 (by decide) (List.mem_of_getElem? (i := 3) rfl) rfl (v := .ref (ad 5 (ν 3 r1 7))) rfl dX6_order_11 ?_
  obtain ⟨g3, h⟩ := h
  refine r_get (C := RX3) (T := TX3) (N := 4) (ci := 6) (fs := fl_5 ad ν ρ (ν 3 r1 7) (σ 5 (ν 3 r1 7))) hx hb hts hown hE hW 5 (ν 3 r1 7) g3 rfl rfl (fun w h => List.mem_cons_of_mem _ (List.mem_append_left _ (List.mem_append_left _ (List.mem_append_left _ (List.mem_append_left _ (List.mem_append_left _ (List.mem_append_left _ (List.mem_append_left _ (List.mem_append_left _ (List.mem_append_left _ (List.mem_append_right _ h))))))))))) 0 (by decide) (List.mem_of_getElem? (i := 4) rfl) rfl (v := .int (σ 5 (ν 3 r1 7) 0)) rfl dX6_order_14 ?_
  refine lv_iconst (v := (1 : Int32)) hx hb dX6_order_17 (by decide) ?_
  refine r_icmp_ne hx hb rfl (show (1 : Int32).toInt = 1 by decide) (tgt := 31) dX6_order_18 (by decide) (fun c4 => ?_) (fun c4 => ?_)
  · have h := ite_f c4 h
    exact r_throw (k := 11) (k2 := 3) (cls := "java/lang/IllegalStateException") (ik := 60) (is := 161) (ic := 64) (text := "it does not wait for an order") hx hb hlt hts hown hml hlocks htb hE hW hS hl.1 (List.mem_of_getElem? (i := 1) rfl) (List.mem_of_getElem? (i := 2) rfl) (fun w h => List.mem_cons_of_mem _ (List.mem_append_left _ (List.mem_append_left _ (List.mem_append_right _ h)))) rfl rfl (by decide +kernel) (by decide +kernel) rfl dX6_order_31 dX6_order_34 dX6_order_35 dX6_order_37 dX6_order_40 (Nat.le_of_ble_eq_true rfl) (Nat.le_of_ble_eq_true rfl) (Nat.le_of_ble_eq_true rfl) (Nat.le_of_ble_eq_true rfl) (Nat.le_of_ble_eq_true rfl) (Nat.le_of_ble_eq_true rfl) ⟨rfl, h⟩
  · have h := ite_t c4 h
    refine lv_aload_n hx hb dX6_order_21 rfl (lv_at hl 0 rfl) ?_
    refine r_get (C := RX0) (T := TX0) (N := 13) (ci := 3) (fs := fl_3 ad ν ρ r1 (σ 3 r1)) hx hb hts hown hE hW 3 r1 g2 rfl rfl (fun w h => List.mem_cons_of_mem _ (List.mem_append_left _ (List.mem_append_left _ (List.mem_append_left _ (List.mem_append_left _ (List.mem_append_left _ (List.mem_append_left _ (List.mem_append_left _ (List.mem_append_left _ (List.mem_append_left _ (List.mem_append_left _ (List.mem_append_right _ h)))))))))))) 10 (by decide) (List.mem_of_getElem? (i := 5) rfl) rfl (v := .ref (ad 6 (3 * r1))) rfl dX6_order_22 ?_
    refine k_Vi (rest := []) (As := []) ⟨hx, hb, hml, hown, hts⟩ hE hz hS hW (mtX1_isGiven l z G ad σ ν ρ lo (3 * r1) _ h) (cwV 0 hts gX6_order_X1_isGiven rfl rfl rfl (by decide +kernel) ⟨Nat.le_of_ble_eq_true rfl, Nat.le_of_ble_eq_true rfl⟩) (r_recv hE hW 6 (3 * r1) (show 3 * r1 < 3 * ν 99 0 0 by omega) (ci := 4) rfl rfl) rfl hl.1 rfl (Nat.le_of_ble_eq_true rfl) dX6_order_25 ⟨Nat.le_of_ble_eq_true rfl, Nat.le_of_ble_eq_true rfl⟩ (fun r5 S1 H locs hp hW hS => ?_)
    obtain ⟨rfl, h⟩ := hp
    refine r_if_eq hx hb rfl (tgt := 41) dX6_order_28 (by decide) (fun c6 => ?_) (fun c6 => ?_)
    · have h := ite_t c6 h
      refine lv_aload_n hx hb dX6_order_41 rfl (lv_at hl 0 rfl) ?_
      refine r_get (C := RX0) (T := TX0) (N := 13) (ci := 3) (fs := fl_3 ad ν ρ r1 (σ 3 r1)) hx hb hts hown hE hW 3 r1 g2 rfl rfl (fun w h => List.mem_cons_of_mem _ (List.mem_append_left _ (List.mem_append_left _ (List.mem_append_left _ (List.mem_append_left _ (List.mem_append_left _ (List.mem_append_left _ (List.mem_append_left _ (List.mem_append_left _ (List.mem_append_left _ (List.mem_append_left _ (List.mem_append_right _ h)))))))))))) 10 (by decide) (List.mem_of_getElem? (i := 5) rfl) rfl (v := .ref (ad 6 (3 * r1))) rfl dX6_order_42 ?_
      refine lv_aload_n hx hb dX6_order_45 rfl (lv_at hl 1 rfl) ?_
      refine r_get (C := RX6) (T := TX6) (N := 8) (ci := 9) (fs := fl_0 ad ν ρ 0 (σ 0 0)) hx hb hts hown hE hW 0 0 rfl rfl rfl (fun w h => List.mem_cons_of_mem _ (List.mem_append_left _ (List.mem_append_left _ (List.mem_append_left _ (List.mem_append_left _ (List.mem_append_left _ (List.mem_append_left _ (List.mem_append_left _ (List.mem_append_left _ (List.mem_append_right _ h)))))))))) 4 (by decide) (List.mem_of_getElem? (i := 6) rfl) rfl (v := .int (σ 0 0 4)) rfl dX6_order_46 ?_
      refine lv_iload_n hx hb dX6_order_49 rfl (lv_at hl 3 rfl) ?_
      refine lv_iload_n hx hb dX6_order_50 rfl (lv_at hl 3 rfl) ?_
      refine k_Vv (rest := []) (As := [.int (σ 0 0 4), .int p2, .int p2]) ⟨hx, hb, hml, hown, hts⟩ hE hz hS hW (mtX1_give l z G ad σ ν ρ lo (3 * r1) (σ 0 0 4) p2 p2 _ h) (cwV 3 hts gX6_order_X1_give rfl rfl rfl (by decide +kernel) ⟨Nat.le_of_ble_eq_true rfl, Nat.le_of_ble_eq_true rfl⟩) (r_recv hE hW 6 (3 * r1) (show 3 * r1 < 3 * ν 99 0 0 by omega) (ci := 4) rfl rfl) rfl hl.1 rfl (Nat.le_of_ble_eq_true rfl) dX6_order_51 ⟨Nat.le_of_ble_eq_true rfl, Nat.le_of_ble_eq_true rfl⟩ (fun S1 H locs hp hW hS => ?_)
      obtain ⟨t7, rfl, h⟩ := hp
      refine lv_aload_n hx hb dX6_order_54 rfl (lv_at hl 1 rfl) ?_
      refine r_get (C := RX6) (T := TX6) (N := 8) (ci := 9) (fs := fl_0 ad ν ρ 0 (t7 0 0)) hx hb hts hown hE hW 0 0 rfl rfl rfl (fun w h => List.mem_cons_of_mem _ (List.mem_append_left _ (List.mem_append_left _ (List.mem_append_left _ (List.mem_append_left _ (List.mem_append_left _ (List.mem_append_left _ (List.mem_append_left _ (List.mem_append_left _ (List.mem_append_right _ h)))))))))) 1 (by decide) (List.mem_of_getElem? (i := 7) rfl) rfl (v := .ref (ad 1 0)) rfl dX6_order_55 ?_
      refine lv_aload_n hx hb dX6_order_58 rfl (lv_at hl 1 rfl) ?_
      refine r_get (C := RX6) (T := TX6) (N := 8) (ci := 9) (fs := fl_0 ad ν ρ 0 (t7 0 0)) hx hb hts hown hE hW 0 0 rfl rfl rfl (fun w h => List.mem_cons_of_mem _ (List.mem_append_left _ (List.mem_append_left _ (List.mem_append_left _ (List.mem_append_left _ (List.mem_append_left _ (List.mem_append_left _ (List.mem_append_left _ (List.mem_append_left _ (List.mem_append_right _ h)))))))))) 0 (by decide) (List.mem_of_getElem? (i := 8) rfl) rfl (v := .ref (ad 7 0)) rfl dX6_order_59 ?_
      refine kA_Vv (rest := []) (As := [.ref (ad 7 0)]) ⟨hx, hb, hml, hown, hts⟩ hE hz hS hW (mtX5_build l z G ad t7 ν ρ lo 0 0 _ h) (cwV 1 hts gX6_order_X5_build rfl rfl rfl (by decide +kernel) ⟨Nat.le_of_ble_eq_true rfl, Nat.le_of_ble_eq_true rfl⟩) (r_recv hE hW 1 0 (show 0 < 2 by decide) (ci := 8) rfl rfl) rfl hl.1 rfl (Nat.le_of_ble_eq_true rfl) dX6_order_62 ⟨Nat.le_of_ble_eq_true rfl, Nat.le_of_ble_eq_true rfl⟩ (fun S1 ad10 H locs hp hW hS => ?_)
      obtain ⟨t8, vv9, rfl, q11, h⟩ := hp
      have z12 : ad10 3 r1 = ad 3 r1 := (q11 3 r1 (by decide) g2).2
      have z13 : ad10 0 0 = ad 0 0 := (q11 0 0 (by decide) rfl).2
      have hl : lv_has ls 4 [(3, .ref (ad10 3 r1)), (0, .ref (ad10 0 0)), (1, .int p1), (2, .int p2)] := by rw [z12, z13]; exact hl
      refine vx_ret ?_
      exact W.vret hx hb hr (fun t ht _ => ⟨⟨((t8, vv9, ρ, lo), ad10), rfl, ⟨_, _, rfl, (Xt.tr Xt.rf q11), h⟩, WP.at9 ht hW⟩, hS.F ht⟩) hS.2.2 dX6_order_65 (hlocks := hlocks)
    · have h := ite_f c6 h
      exact r_throw (k := 11) (k2 := 3) (cls := "java/lang/IllegalStateException") (ik := 60) (is := 161) (ic := 64) (text := "it does not wait for an order") hx hb hlt hts hown hml hlocks htb hE hW hS hl.1 (List.mem_of_getElem? (i := 1) rfl) (List.mem_of_getElem? (i := 2) rfl) (fun w h => List.mem_cons_of_mem _ (List.mem_append_left _ (List.mem_append_left _ (List.mem_append_right _ h)))) rfl rfl (by decide +kernel) (by decide +kernel) rfl dX6_order_31 dX6_order_34 dX6_order_35 dX6_order_37 dX6_order_40 (Nat.le_of_ble_eq_true rfl) (Nat.le_of_ble_eq_true rfl) (Nat.le_of_ble_eq_true rfl) (Nat.le_of_ble_eq_true rfl) (Nat.le_of_ble_eq_true rfl) (Nat.le_of_ble_eq_true rfl) ⟨rfl, h⟩
set_option maxHeartbeats 4000000 in
set_option maxRecDepth 100000 in
theorem mtX6_strike (l : Launch) (hlt : l.stackTraces = false) (z : Nat) (G : Gl) (ad : Nat → Nat → Nat) (σ : SG) (ν : NU) (ρ : RH) (lo : Int64) (p1 : Int32) (p2 : Int32) (post : SG → NU → Prop) (px : String → Prop) (h : wpX6_strike σ ν p1 p2 post px) : vx_Met l yX6_strike wsX6_strike ({ frames := 9, cells := 10, slots := 169, locals := 221 } : Room) (Pcs z G ad (σ, ν, ρ, lo) [.ref (ad 0 0), .int p1, .int p2]) (Qva z G (fun S1 => ∃ (t : SG) (u : NU), S1.1 = (t, u, ρ, lo) ∧ Xt ad S1.2 ν u ∧ post t u)) (XCs z G ad (fun E S1 => S1 = (σ, ν, ρ, lo) ∧ px E)) 10 169 (Az z) := by
  refine vx_ofW (cc := cX6_strike) (maxL := 4) (ret := none) (by decide) rfl ?_
  intro p e s m args below meth c s₁ B hml htb hv
  obtain ⟨rfl, hz, hW, hE⟩ := hv
  have hx := B.exec
  have hb := B.bytes
  have hr := B.returns
  have hts := atoms_spec (ws := wsX6_strike) B.pre
  have hown : s.vm.findClass RX6 = some m.cls := findClass_of_methodNamed B.named
  have hlocks := B.notSynchronized
  have X : Cxx p l e s m _ below meth c cX6_strike none 4 RX6 wsX6_strike z G := ⟨hx, hb, hr, hml, hown, hts, hlocks, hE, hz, htb, hlt⟩
  have hS : va_S (Az z) s.heap s.heap [] := va_S.rf
  have hl := lv_entry [.ref (ad 0 0), .int p1, .int p2] (n := 4) (Nat.le_of_ble_eq_true rfl)
  rw [lg_entry_eq]
  generalize (lg_sl [.ref (ad 0 0), .int p1, .int p2] ++ List.replicate (4 - (lg_sl [.ref (ad 0 0), .int p1, .int p2]).length) Slot.unset).toArray = ls at hl ⊢
  have hl : lv_has ls 4 [(0, .ref (ad 0 0)), (1, .int p1), (2, .int p2)] := hl
  unfold wpX6_strike at h
  refine lv_aload_n hx hb dX6_strike_0 rfl (lv_at hl 0 rfl) ?_
  refine lv_iload_n hx hb dX6_strike_1 rfl (lv_at hl 1 rfl) ?_
  refine x_Vr (rest := []) (As := [.int p1]) ⟨hx, hb, hml, hown, hts⟩ hE hz hS hW (mtX6_needInstruction l hlt z G ad σ ν ρ lo p1 _ _ h) (cwV 1 hts gX6_strike_X6_needInstruction rfl rfl rfl (by decide +kernel) ⟨Nat.le_of_ble_eq_true rfl, Nat.le_of_ble_eq_true rfl⟩) (r_recv hE hW 0 0 rfl (ci := 9) rfl rfl) rfl hl.1 rfl (Nat.le_of_ble_eq_true rfl) dX6_strike_2 ⟨Nat.le_of_ble_eq_true rfl, Nat.le_of_ble_eq_true rfl⟩ hlocks htb (fun E S1 q => q) ⟨Nat.le_of_ble_eq_true rfl, Nat.le_of_ble_eq_true rfl⟩ (fun r1 S1 H locs hp hW hS => ?_)
  obtain ⟨rfl, h⟩ := hp
  refine lv_astore_n (lv' := [(3, .ref (ad 3 r1)), (0, .ref (ad 0 0)), (1, .int p1), (2, .int p2)]) hx hb dX6_strike_5 rfl hl (by decide) rfl (fun ls hl => ?_)
  refine lv_iload_n hx hb dX6_strike_6 rfl (lv_at hl 3 rfl) ?_
  refine x_Sv (rest := []) (As := [.int p2]) ⟨hx, hb, hml, hown, hts⟩ hE hz hS hW (mtX6_needDay l hlt z G ad σ ν ρ lo p2 _ _ h) (va_cwS 1 hts gX6_strike_X6_needDay rfl rfl rfl (by decide +kernel) ⟨Nat.le_of_ble_eq_true rfl, Nat.le_of_ble_eq_true rfl⟩) rfl hl.1 rfl (Nat.le_of_ble_eq_true rfl) dX6_strike_7 ⟨Nat.le_of_ble_eq_true rfl, Nat.le_of_ble_eq_true rfl⟩ hlocks htb (fun E S1 q => q) ⟨Nat.le_of_ble_eq_true rfl, Nat.le_of_ble_eq_true rfl⟩ (fun S1 H locs hp hW hS => ?_)
  obtain ⟨rfl, h⟩ := hp
  refine lv_aload_n hx hb dX6_strike_10 rfl (lv_at hl 0 rfl) ?_
  obtain ⟨g2, h⟩ := h
  refine r_get (C := RX0) (T := TX0) (N := 13) (ci := 3) (fs := fl_3 ad ν ρ r1 (σ 3 r1)) hx hb hts hown hE hW 3 r1 g2 rfl rfl (fun w h => List.mem_cons_of_mem _ (List.mem_append_left _ (List.mem_append_left _ (List.mem_append_left _ (List.mem_append_left _ (List.mem_append_left _ (List.mem_append_left _ (List.mem_append_left _ (List.mem_append_left _ (List.mem_append_left _ (List.mem_append_left _ (List.mem_append_right _ h)))))))))))) 11 (by decide) (List.mem_of_getElem? (i := 3) rfl) rfl (v := .ref (ad 6 (3 * r1 + 1))) rfl dX6_strike_11 ?_
  refine k_Vi (rest := []) (As := []) ⟨hx, hb, hml, hown, hts⟩ hE hz hS hW (mtX1_isGiven l z G ad σ ν ρ lo (3 * r1 + 1) _ h) (cwV 0 hts gX6_strike_X1_isGiven rfl rfl rfl (by decide +kernel) ⟨Nat.le_of_ble_eq_true rfl, Nat.le_of_ble_eq_true rfl⟩) (r_recv hE hW 6 (3 * r1 + 1) (show 3 * r1 + 1 < 3 * ν 99 0 0 by omega) (ci := 4) rfl rfl) rfl hl.1 rfl (Nat.le_of_ble_eq_true rfl) dX6_strike_14 ⟨Nat.le_of_ble_eq_true rfl, Nat.le_of_ble_eq_true rfl⟩ (fun r3 S1 H locs hp hW hS => ?_)
  obtain ⟨rfl, h⟩ := hp
  refine r_if_eq hx hb rfl (tgt := 30) dX6_strike_17 (by decide) (fun c4 => ?_) (fun c4 => ?_)
  · have h := ite_t c4 h
    refine lv_aload_n hx hb dX6_strike_30 rfl (lv_at hl 0 rfl) ?_
    refine r_get (C := RX0) (T := TX0) (N := 13) (ci := 3) (fs := fl_3 ad ν ρ r1 (σ 3 r1)) hx hb hts hown hE hW 3 r1 g2 rfl rfl (fun w h => List.mem_cons_of_mem _ (List.mem_append_left _ (List.mem_append_left _ (List.mem_append_left _ (List.mem_append_left _ (List.mem_append_left _ (List.mem_append_left _ (List.mem_append_left _ (List.mem_append_left _ (List.mem_append_left _ (List.mem_append_left _ (List.mem_append_right _ h)))))))))))) 11 (by decide) (List.mem_of_getElem? (i := 3) rfl) rfl (v := .ref (ad 6 (3 * r1 + 1))) rfl dX6_strike_31 ?_
    refine lv_aload_n hx hb dX6_strike_34 rfl (lv_at hl 1 rfl) ?_
    refine r_get (C := RX6) (T := TX6) (N := 8) (ci := 9) (fs := fl_0 ad ν ρ 0 (σ 0 0)) hx hb hts hown hE hW 0 0 rfl rfl rfl (fun w h => List.mem_cons_of_mem _ (List.mem_append_left _ (List.mem_append_left _ (List.mem_append_left _ (List.mem_append_left _ (List.mem_append_left _ (List.mem_append_left _ (List.mem_append_left _ (List.mem_append_left _ (List.mem_append_left _ (List.mem_append_right _ h))))))))))) 4 (by decide) (List.mem_of_getElem? (i := 4) rfl) rfl (v := .int (σ 0 0 4)) rfl dX6_strike_35 ?_
    refine lv_iload_n hx hb dX6_strike_38 rfl (lv_at hl 3 rfl) ?_
    refine lv_sipush (v := (5000 : Int32)) hx hb dX6_strike_39 (by decide) ?_
    refine k_Vv (rest := []) (As := [.int (σ 0 0 4), .int p2, .int ((5000 : Int32))]) ⟨hx, hb, hml, hown, hts⟩ hE hz hS hW (mtX1_give l z G ad σ ν ρ lo (3 * r1 + 1) (σ 0 0 4) p2 ((5000 : Int32)) _ h) (cwV 3 hts gX6_strike_X1_give rfl rfl rfl (by decide +kernel) ⟨Nat.le_of_ble_eq_true rfl, Nat.le_of_ble_eq_true rfl⟩) (r_recv hE hW 6 (3 * r1 + 1) (show 3 * r1 + 1 < 3 * ν 99 0 0 by omega) (ci := 4) rfl rfl) rfl hl.1 rfl (Nat.le_of_ble_eq_true rfl) dX6_strike_42 ⟨Nat.le_of_ble_eq_true rfl, Nat.le_of_ble_eq_true rfl⟩ (fun S1 H locs hp hW hS => ?_)
    obtain ⟨t5, rfl, h⟩ := hp
    refine lv_aload_n hx hb dX6_strike_45 rfl (lv_at hl 1 rfl) ?_
    refine r_get (C := RX6) (T := TX6) (N := 8) (ci := 9) (fs := fl_0 ad ν ρ 0 (t5 0 0)) hx hb hts hown hE hW 0 0 rfl rfl rfl (fun w h => List.mem_cons_of_mem _ (List.mem_append_left _ (List.mem_append_left _ (List.mem_append_left _ (List.mem_append_left _ (List.mem_append_left _ (List.mem_append_left _ (List.mem_append_left _ (List.mem_append_left _ (List.mem_append_left _ (List.mem_append_right _ h))))))))))) 1 (by decide) (List.mem_of_getElem? (i := 5) rfl) rfl (v := .ref (ad 1 0)) rfl dX6_strike_46 ?_
    refine lv_aload_n hx hb dX6_strike_49 rfl (lv_at hl 1 rfl) ?_
    refine r_get (C := RX6) (T := TX6) (N := 8) (ci := 9) (fs := fl_0 ad ν ρ 0 (t5 0 0)) hx hb hts hown hE hW 0 0 rfl rfl rfl (fun w h => List.mem_cons_of_mem _ (List.mem_append_left _ (List.mem_append_left _ (List.mem_append_left _ (List.mem_append_left _ (List.mem_append_left _ (List.mem_append_left _ (List.mem_append_left _ (List.mem_append_left _ (List.mem_append_left _ (List.mem_append_right _ h))))))))))) 0 (by decide) (List.mem_of_getElem? (i := 6) rfl) rfl (v := .ref (ad 7 0)) rfl dX6_strike_50 ?_
    refine kA_Vv (rest := []) (As := [.ref (ad 7 0)]) ⟨hx, hb, hml, hown, hts⟩ hE hz hS hW (mtX5_build l z G ad t5 ν ρ lo 0 0 _ h) (cwV 1 hts gX6_strike_X5_build rfl rfl rfl (by decide +kernel) ⟨Nat.le_of_ble_eq_true rfl, Nat.le_of_ble_eq_true rfl⟩) (r_recv hE hW 1 0 (show 0 < 2 by decide) (ci := 8) rfl rfl) rfl hl.1 rfl (Nat.le_of_ble_eq_true rfl) dX6_strike_53 ⟨Nat.le_of_ble_eq_true rfl, Nat.le_of_ble_eq_true rfl⟩ (fun S1 ad8 H locs hp hW hS => ?_)
    obtain ⟨t6, vv7, rfl, q9, h⟩ := hp
    have z10 : ad8 3 r1 = ad 3 r1 := (q9 3 r1 (by decide) g2).2
    have z11 : ad8 0 0 = ad 0 0 := (q9 0 0 (by decide) rfl).2
    have hl : lv_has ls 4 [(3, .ref (ad8 3 r1)), (0, .ref (ad8 0 0)), (1, .int p1), (2, .int p2)] := by rw [z10, z11]; exact hl
    refine vx_ret ?_
    exact W.vret hx hb hr (fun t ht _ => ⟨⟨((t6, vv7, ρ, lo), ad8), rfl, ⟨_, _, rfl, (Xt.tr Xt.rf q9), h⟩, WP.at9 ht hW⟩, hS.F ht⟩) hS.2.2 dX6_strike_56 (hlocks := hlocks)
  · have h := ite_f c4 h
    exact r_throw (k := 12) (k2 := 3) (cls := "java/lang/IllegalStateException") (ik := 60) (is := 170) (ic := 64) (text := "it was struck down") hx hb hlt hts hown hml hlocks htb hE hW hS hl.1 (List.mem_of_getElem? (i := 1) rfl) (List.mem_of_getElem? (i := 2) rfl) (fun w h => List.mem_cons_of_mem _ (List.mem_append_left _ (List.mem_append_left _ (List.mem_append_right _ h)))) rfl rfl (by decide +kernel) (by decide +kernel) rfl dX6_strike_20 dX6_strike_23 dX6_strike_24 dX6_strike_26 dX6_strike_29 (Nat.le_of_ble_eq_true rfl) (Nat.le_of_ble_eq_true rfl) (Nat.le_of_ble_eq_true rfl) (Nat.le_of_ble_eq_true rfl) (Nat.le_of_ble_eq_true rfl) (Nat.le_of_ble_eq_true rfl) ⟨rfl, h⟩
set_option maxHeartbeats 4000000 in
set_option maxRecDepth 100000 in
theorem mtX6_suspend (l : Launch) (hlt : l.stackTraces = false) (z : Nat) (G : Gl) (ad : Nat → Nat → Nat) (σ : SG) (ν : NU) (ρ : RH) (lo : Int64) (p1 : Int32) (p2 : Int32) (p3 : Int32) (post : SG → NU → Prop) (px : String → Prop) (h : wpX6_suspend σ ν p1 p2 p3 post px) : vx_Met l yX6_suspend wsX6_suspend ({ frames := 9, cells := 11, slots := 175, locals := 221 } : Room) (Pcs z G ad (σ, ν, ρ, lo) [.ref (ad 0 0), .int p1, .int p2, .int p3]) (Qva z G (fun S1 => ∃ (t : SG) (u : NU), S1.1 = (t, u, ρ, lo) ∧ Xt ad S1.2 ν u ∧ post t u)) (XCs z G ad (fun E S1 => S1 = (σ, ν, ρ, lo) ∧ px E)) 11 175 (Az z) := by
  refine vx_ofW (cc := cX6_suspend) (maxL := 5) (ret := none) (by decide) rfl ?_
  intro p e s m args below meth c s₁ B hml htb hv
  obtain ⟨rfl, hz, hW, hE⟩ := hv
  have hx := B.exec
  have hb := B.bytes
  have hr := B.returns
  have hts := atoms_spec (ws := wsX6_suspend) B.pre
  have hown : s.vm.findClass RX6 = some m.cls := findClass_of_methodNamed B.named
  have hlocks := B.notSynchronized
  have X : Cxx p l e s m _ below meth c cX6_suspend none 5 RX6 wsX6_suspend z G := ⟨hx, hb, hr, hml, hown, hts, hlocks, hE, hz, htb, hlt⟩
  have hS : va_S (Az z) s.heap s.heap [] := va_S.rf
  have hl := lv_entry [.ref (ad 0 0), .int p1, .int p2, .int p3] (n := 5) (Nat.le_of_ble_eq_true rfl)
  rw [lg_entry_eq]
  generalize (lg_sl [.ref (ad 0 0), .int p1, .int p2, .int p3] ++ List.replicate (5 - (lg_sl [.ref (ad 0 0), .int p1, .int p2, .int p3]).length) Slot.unset).toArray = ls at hl ⊢
  have hl : lv_has ls 5 [(0, .ref (ad 0 0)), (1, .int p1), (2, .int p2), (3, .int p3)] := hl
  unfold wpX6_suspend at h
  refine lv_aload_n hx hb dX6_suspend_0 rfl (lv_at hl 0 rfl) ?_
  refine lv_iload_n hx hb dX6_suspend_1 rfl (lv_at hl 1 rfl) ?_
  refine x_Vr (rest := []) (As := [.int p1]) ⟨hx, hb, hml, hown, hts⟩ hE hz hS hW (mtX6_needInstruction l hlt z G ad σ ν ρ lo p1 _ _ h) (cwV 1 hts gX6_suspend_X6_needInstruction rfl rfl rfl (by decide +kernel) ⟨Nat.le_of_ble_eq_true rfl, Nat.le_of_ble_eq_true rfl⟩) (r_recv hE hW 0 0 rfl (ci := 9) rfl rfl) rfl hl.1 rfl (Nat.le_of_ble_eq_true rfl) dX6_suspend_2 ⟨Nat.le_of_ble_eq_true rfl, Nat.le_of_ble_eq_true rfl⟩ hlocks htb (fun E S1 q => q) ⟨Nat.le_of_ble_eq_true rfl, Nat.le_of_ble_eq_true rfl⟩ (fun r1 S1 H locs hp hW hS => ?_)
  obtain ⟨rfl, h⟩ := hp
  refine lv_astore (lv' := [(4, .ref (ad 3 r1)), (0, .ref (ad 0 0)), (1, .int p1), (2, .int p2), (3, .int p3)]) hx hb dX6_suspend_5 hl (by decide) rfl (fun ls hl => ?_)
  refine lv_iload_n hx hb dX6_suspend_7 rfl (lv_at hl 3 rfl) ?_
  refine x_Sv (rest := []) (As := [.int p2]) ⟨hx, hb, hml, hown, hts⟩ hE hz hS hW (mtX6_needDay l hlt z G ad σ ν ρ lo p2 _ _ h) (va_cwS 1 hts gX6_suspend_X6_needDay rfl rfl rfl (by decide +kernel) ⟨Nat.le_of_ble_eq_true rfl, Nat.le_of_ble_eq_true rfl⟩) rfl hl.1 rfl (Nat.le_of_ble_eq_true rfl) dX6_suspend_8 ⟨Nat.le_of_ble_eq_true rfl, Nat.le_of_ble_eq_true rfl⟩ hlocks htb (fun E S1 q => q) ⟨Nat.le_of_ble_eq_true rfl, Nat.le_of_ble_eq_true rfl⟩ (fun S1 H locs hp hW hS => ?_)
  obtain ⟨rfl, h⟩ := hp
  refine lv_iload_n hx hb dX6_suspend_11 rfl (lv_at hl 4 rfl) ?_
  refine x_Sv (rest := []) (As := [.int p3]) ⟨hx, hb, hml, hown, hts⟩ hE hz hS hW (mtX6_needDay l hlt z G ad σ ν ρ lo p3 _ _ h) (va_cwS 1 hts gX6_suspend_X6_needDay rfl rfl rfl (by decide +kernel) ⟨Nat.le_of_ble_eq_true rfl, Nat.le_of_ble_eq_true rfl⟩) rfl hl.1 rfl (Nat.le_of_ble_eq_true rfl) dX6_suspend_12 ⟨Nat.le_of_ble_eq_true rfl, Nat.le_of_ble_eq_true rfl⟩ hlocks htb (fun E S1 q => q) ⟨Nat.le_of_ble_eq_true rfl, Nat.le_of_ble_eq_true rfl⟩ (fun S1 H locs hp hW hS => ?_)
  obtain ⟨rfl, h⟩ := hp
  refine lv_iload_n hx hb dX6_suspend_15 rfl (lv_at hl 4 rfl) ?_
  refine lv_iload_n hx hb dX6_suspend_16 rfl (lv_at hl 3 rfl) ?_
  refine r_icmp_ge hx hb rfl rfl (tgt := 30) dX6_suspend_17 (by decide) (fun c2 => ?_) (fun c2 => ?_)
  · have h := ite_f c2 h
    refine lv_aload hx hb dX6_suspend_30 (lv_at hl 0 rfl) ?_
    obtain ⟨g3, h⟩ := h
    refine r_get (C := RX0) (T := TX0) (N := 13) (ci := 3) (fs := fl_3 ad ν ρ r1 (σ 3 r1)) hx hb hts hown hE hW 3 r1 g3 rfl rfl (fun w h => List.mem_cons_of_mem _ (List.mem_append_left _ (List.mem_append_left _ (List.mem_append_left _ (List.mem_append_left _ (List.mem_append_left _ (List.mem_append_left _ (List.mem_append_left _ (List.mem_append_left _ (List.mem_append_left _ (List.mem_append_left _ (List.mem_append_right _ h)))))))))))) 12 (by decide) (List.mem_of_getElem? (i := 5) rfl) rfl (v := .ref (ad 6 (3 * r1 + 2))) rfl dX6_suspend_32 ?_
    refine k_Vi (rest := []) (As := []) ⟨hx, hb, hml, hown, hts⟩ hE hz hS hW (mtX1_isGiven l z G ad σ ν ρ lo (3 * r1 + 2) _ h) (cwV 0 hts gX6_suspend_X1_isGiven rfl rfl rfl (by decide +kernel) ⟨Nat.le_of_ble_eq_true rfl, Nat.le_of_ble_eq_true rfl⟩) (r_recv hE hW 6 (3 * r1 + 2) (show 3 * r1 + 2 < 3 * ν 99 0 0 by omega) (ci := 4) rfl rfl) rfl hl.1 rfl (Nat.le_of_ble_eq_true rfl) dX6_suspend_35 ⟨Nat.le_of_ble_eq_true rfl, Nat.le_of_ble_eq_true rfl⟩ (fun r4 S1 H locs hp hW hS => ?_)
    obtain ⟨rfl, h⟩ := hp
    refine r_if_eq hx hb rfl (tgt := 51) dX6_suspend_38 (by decide) (fun c5 => ?_) (fun c5 => ?_)
    · have h := ite_t c5 h
      refine lv_aload hx hb dX6_suspend_51 (lv_at hl 0 rfl) ?_
      refine r_get (C := RX0) (T := TX0) (N := 13) (ci := 3) (fs := fl_3 ad ν ρ r1 (σ 3 r1)) hx hb hts hown hE hW 3 r1 g3 rfl rfl (fun w h => List.mem_cons_of_mem _ (List.mem_append_left _ (List.mem_append_left _ (List.mem_append_left _ (List.mem_append_left _ (List.mem_append_left _ (List.mem_append_left _ (List.mem_append_left _ (List.mem_append_left _ (List.mem_append_left _ (List.mem_append_left _ (List.mem_append_right _ h)))))))))))) 12 (by decide) (List.mem_of_getElem? (i := 5) rfl) rfl (v := .ref (ad 6 (3 * r1 + 2))) rfl dX6_suspend_53 ?_
      refine lv_aload_n hx hb dX6_suspend_56 rfl (lv_at hl 1 rfl) ?_
      refine r_get (C := RX6) (T := TX6) (N := 8) (ci := 9) (fs := fl_0 ad ν ρ 0 (σ 0 0)) hx hb hts hown hE hW 0 0 rfl rfl rfl (fun w h => List.mem_cons_of_mem _ (List.mem_append_left _ (List.mem_append_left _ (List.mem_append_left _ (List.mem_append_left _ (List.mem_append_left _ (List.mem_append_left _ (List.mem_append_left _ (List.mem_append_left _ (List.mem_append_left _ (List.mem_append_right _ h))))))))))) 4 (by decide) (List.mem_of_getElem? (i := 6) rfl) rfl (v := .int (σ 0 0 4)) rfl dX6_suspend_57 ?_
      refine lv_iload_n hx hb dX6_suspend_60 rfl (lv_at hl 3 rfl) ?_
      refine lv_iload_n hx hb dX6_suspend_61 rfl (lv_at hl 4 rfl) ?_
      refine k_Vv (rest := []) (As := [.int (σ 0 0 4), .int p2, .int p3]) ⟨hx, hb, hml, hown, hts⟩ hE hz hS hW (mtX1_give l z G ad σ ν ρ lo (3 * r1 + 2) (σ 0 0 4) p2 p3 _ h) (cwV 3 hts gX6_suspend_X1_give rfl rfl rfl (by decide +kernel) ⟨Nat.le_of_ble_eq_true rfl, Nat.le_of_ble_eq_true rfl⟩) (r_recv hE hW 6 (3 * r1 + 2) (show 3 * r1 + 2 < 3 * ν 99 0 0 by omega) (ci := 4) rfl rfl) rfl hl.1 rfl (Nat.le_of_ble_eq_true rfl) dX6_suspend_62 ⟨Nat.le_of_ble_eq_true rfl, Nat.le_of_ble_eq_true rfl⟩ (fun S1 H locs hp hW hS => ?_)
      obtain ⟨t6, rfl, h⟩ := hp
      refine lv_aload_n hx hb dX6_suspend_65 rfl (lv_at hl 1 rfl) ?_
      refine r_get (C := RX6) (T := TX6) (N := 8) (ci := 9) (fs := fl_0 ad ν ρ 0 (t6 0 0)) hx hb hts hown hE hW 0 0 rfl rfl rfl (fun w h => List.mem_cons_of_mem _ (List.mem_append_left _ (List.mem_append_left _ (List.mem_append_left _ (List.mem_append_left _ (List.mem_append_left _ (List.mem_append_left _ (List.mem_append_left _ (List.mem_append_left _ (List.mem_append_left _ (List.mem_append_right _ h))))))))))) 1 (by decide) (List.mem_of_getElem? (i := 7) rfl) rfl (v := .ref (ad 1 0)) rfl dX6_suspend_66 ?_
      refine lv_aload_n hx hb dX6_suspend_69 rfl (lv_at hl 1 rfl) ?_
      refine r_get (C := RX6) (T := TX6) (N := 8) (ci := 9) (fs := fl_0 ad ν ρ 0 (t6 0 0)) hx hb hts hown hE hW 0 0 rfl rfl rfl (fun w h => List.mem_cons_of_mem _ (List.mem_append_left _ (List.mem_append_left _ (List.mem_append_left _ (List.mem_append_left _ (List.mem_append_left _ (List.mem_append_left _ (List.mem_append_left _ (List.mem_append_left _ (List.mem_append_left _ (List.mem_append_right _ h))))))))))) 0 (by decide) (List.mem_of_getElem? (i := 8) rfl) rfl (v := .ref (ad 7 0)) rfl dX6_suspend_70 ?_
      refine kA_Vv (rest := []) (As := [.ref (ad 7 0)]) ⟨hx, hb, hml, hown, hts⟩ hE hz hS hW (mtX5_build l z G ad t6 ν ρ lo 0 0 _ h) (cwV 1 hts gX6_suspend_X5_build rfl rfl rfl (by decide +kernel) ⟨Nat.le_of_ble_eq_true rfl, Nat.le_of_ble_eq_true rfl⟩) (r_recv hE hW 1 0 (show 0 < 2 by decide) (ci := 8) rfl rfl) rfl hl.1 rfl (Nat.le_of_ble_eq_true rfl) dX6_suspend_73 ⟨Nat.le_of_ble_eq_true rfl, Nat.le_of_ble_eq_true rfl⟩ (fun S1 ad9 H locs hp hW hS => ?_)
      obtain ⟨t7, vv8, rfl, q10, h⟩ := hp
      have z11 : ad9 3 r1 = ad 3 r1 := (q10 3 r1 (by decide) g3).2
      have z12 : ad9 0 0 = ad 0 0 := (q10 0 0 (by decide) rfl).2
      have hl : lv_has ls 5 [(4, .ref (ad9 3 r1)), (0, .ref (ad9 0 0)), (1, .int p1), (2, .int p2), (3, .int p3)] := by rw [z11, z12]; exact hl
      refine vx_ret ?_
      exact W.vret hx hb hr (fun t ht _ => ⟨⟨((t7, vv8, ρ, lo), ad9), rfl, ⟨_, _, rfl, (Xt.tr Xt.rf q10), h⟩, WP.at9 ht hW⟩, hS.F ht⟩) hS.2.2 dX6_suspend_76 (hlocks := hlocks)
    · have h := ite_f c5 h
      exact r_throw (k := 14) (k2 := 3) (cls := "java/lang/IllegalStateException") (ik := 60) (is := 177) (ic := 64) (text := "it was suspended") hx hb hlt hts hown hml hlocks htb hE hW hS hl.1 (List.mem_of_getElem? (i := 3) rfl) (List.mem_of_getElem? (i := 4) rfl) (fun w h => List.mem_cons_of_mem _ (List.mem_append_left _ (List.mem_append_right _ h))) rfl rfl (by decide +kernel) (by decide +kernel) rfl dX6_suspend_41 dX6_suspend_44 dX6_suspend_45 dX6_suspend_47 dX6_suspend_50 (Nat.le_of_ble_eq_true rfl) (Nat.le_of_ble_eq_true rfl) (Nat.le_of_ble_eq_true rfl) (Nat.le_of_ble_eq_true rfl) (Nat.le_of_ble_eq_true rfl) (Nat.le_of_ble_eq_true rfl) ⟨rfl, h⟩
  · have h := ite_t c2 h
    exact r_throw (k := 13) (k2 := 2) (cls := "java/lang/IllegalArgumentException") (ik := 53) (is := 172) (ic := 57) (text := "to is ahead of from") hx hb hlt hts hown hml hlocks htb hE hW hS hl.1 (List.mem_of_getElem? (i := 1) rfl) (List.mem_of_getElem? (i := 2) rfl) (fun w h => List.mem_cons_of_mem _ (List.mem_append_left _ (List.mem_append_left _ (List.mem_append_right _ h)))) rfl rfl (by decide +kernel) (by decide +kernel) rfl dX6_suspend_20 dX6_suspend_23 dX6_suspend_24 dX6_suspend_26 dX6_suspend_29 (Nat.le_of_ble_eq_true rfl) (Nat.le_of_ble_eq_true rfl) (Nat.le_of_ble_eq_true rfl) (Nat.le_of_ble_eq_true rfl) (Nat.le_of_ble_eq_true rfl) (Nat.le_of_ble_eq_true rfl) ⟨rfl, h⟩
set_option maxHeartbeats 4000000 in
set_option maxRecDepth 100000 in
theorem mtX5_turnTo (l : Launch) (z : Nat) (G : Gl) (ad : Nat → Nat → Nat) (σ : SG) (ν : NU) (ρ : RH) (lo : Int64) (o0 : Nat) (p1 : Int32) (p2 : Int32) (p3 : Int32) (post : SG → Prop) (h : wpX5_turnTo σ ν o0 p1 p2 p3 post) : Met l yX5_turnTo wsX5_turnTo ({ frames := 0, cells := 0, slots := 0, locals := 0 } : Room) (Pcs z G ad (σ, ν, ρ, lo) [.ref (ad 1 o0), .int p1, .int p2, .int p3]) (Qvs z G ad (fun S1 => ∃ t : SG, S1 = (t, ν, ρ, lo) ∧ post t)) 0 0 (Az z) := by
  refine Met.ofW (cc := cX5_turnTo) (maxL := 4) (ret := none) (by decide) rfl ?_
  intro p e s m args below meth c s₁ B hml hv
  obtain ⟨rfl, hz, hW, hE⟩ := hv
  have hx := B.exec
  have hb := B.bytes
  have hr := B.returns
  have hts := atoms_spec (ws := wsX5_turnTo) B.pre
  have hown : s.vm.findClass RX5 = some m.cls := findClass_of_methodNamed B.named
  have hlocks := B.notSynchronized
  have X : Cx p l e s m _ below meth c cX5_turnTo none 4 RX5 wsX5_turnTo z G := ⟨hx, hb, hr, hml, hown, hts, hlocks, hE, hz⟩
  have hS : va_S (Az z) s.heap s.heap [] := va_S.rf
  have hl := lv_entry [.ref (ad 1 o0), .int p1, .int p2, .int p3] (n := 4) (Nat.le_of_ble_eq_true rfl)
  rw [lg_entry_eq]
  generalize (lg_sl [.ref (ad 1 o0), .int p1, .int p2, .int p3] ++ List.replicate (4 - (lg_sl [.ref (ad 1 o0), .int p1, .int p2, .int p3]).length) Slot.unset).toArray = ls at hl ⊢
  have hl : lv_has ls 4 [(0, .ref (ad 1 o0)), (1, .int p1), (2, .int p2), (3, .int p3)] := hl
  unfold wpX5_turnTo at h
  refine lv_aload_n hx hb dX5_turnTo_0 rfl (lv_at hl 0 rfl) ?_
  refine lv_iload_n hx hb dX5_turnTo_1 rfl (lv_at hl 1 rfl) ?_
  obtain ⟨g1, h⟩ := h
  refine r_putC (C := RX5) (T := TX5) (N := 13) (ci := 8) (fl := fl_1 ad ν ρ o0) hx hb hts hown hE hW hS 1 o0 g1 (fun _ => rfl) rfl (fun w h => List.mem_cons_of_mem _ (List.mem_append_right _ h)) tyX5_ok nmX5 10 (by decide) (List.mem_of_getElem? (i := 1) rfl) rfl rfl rfl (Nat.le_of_ble_eq_true rfl) (x := p1) rfl dX5_turnTo_2 (fun t2 e3 H locs hW hS => ?_)
  have h := h t2 e3
  refine lv_aload_n hx hb dX5_turnTo_5 rfl (lv_at hl 0 rfl) ?_
  refine lv_iload_n hx hb dX5_turnTo_6 rfl (lv_at hl 2 rfl) ?_
  refine r_putC (C := RX5) (T := TX5) (N := 13) (ci := 8) (fl := fl_1 ad ν ρ o0) hx hb hts hown hE hW hS 1 o0 g1 (fun _ => rfl) rfl (fun w h => List.mem_cons_of_mem _ (List.mem_append_right _ h)) tyX5_ok nmX5 11 (by decide) (List.mem_of_getElem? (i := 2) rfl) rfl rfl rfl (Nat.le_of_ble_eq_true rfl) (x := p2) rfl dX5_turnTo_7 (fun t4 e5 H locs hW hS => ?_)
  have h := h t4 e5
  refine lv_aload_n hx hb dX5_turnTo_10 rfl (lv_at hl 0 rfl) ?_
  refine lv_iload_n hx hb dX5_turnTo_11 rfl (lv_at hl 3 rfl) ?_
  refine r_putC (C := RX5) (T := TX5) (N := 13) (ci := 8) (fl := fl_1 ad ν ρ o0) hx hb hts hown hE hW hS 1 o0 g1 (fun _ => rfl) rfl (fun w h => List.mem_cons_of_mem _ (List.mem_append_right _ h)) tyX5_ok nmX5 12 (by decide) (List.mem_of_getElem? (i := 3) rfl) rfl rfl rfl (Nat.le_of_ble_eq_true rfl) (x := p3) rfl dX5_turnTo_12 (fun t6 e7 H locs hW hS => ?_)
  have h := h t6 e7
  exact W.vret hx hb hr (fun t ht _ => ⟨⟨(t6, ν, ρ, lo), rfl, ⟨_, rfl, h⟩, WP.at9 ht hW⟩, hS.F ht⟩) hS.2.2 dX5_turnTo_15 (hlocks := hlocks)
set_option maxHeartbeats 4000000 in
set_option maxRecDepth 100000 in
theorem mtX6_look (l : Launch) (hlt : l.stackTraces = false) (z : Nat) (G : Gl) (ad : Nat → Nat → Nat) (σ : SG) (ν : NU) (ρ : RH) (lo : Int64) (p1 : Int32) (p2 : Int32) (p3 : Int32) (post : Int32 → SG → NU → Prop) (px : String → Prop) (h : wpX6_look σ ν p1 p2 p3 post px) : vx_Met l yX6_look wsX6_look ({ frames := 9, cells := 9, slots := 163, locals := 221 } : Room) (Pcs z G ad (σ, ν, ρ, lo) [.ref (ad 0 0), .int p1, .int p2, .int p3]) (Qia z G (fun r S1 => ∃ (t : SG) (u : NU), S1.1 = (t, u, ρ, lo) ∧ Xt ad S1.2 ν u ∧ post r t u)) (XCs z G ad (fun E S1 => S1 = (σ, ν, ρ, lo) ∧ px E)) 9 163 (Az z) := by
  refine vx_ofW (cc := cX6_look) (maxL := 4) (ret := (some .int)) (by decide) rfl ?_
  intro p e s m args below meth c s₁ B hml htb hv
  obtain ⟨rfl, hz, hW, hE⟩ := hv
  have hx := B.exec
  have hb := B.bytes
  have hr := B.returns
  have hts := atoms_spec (ws := wsX6_look) B.pre
  have hown : s.vm.findClass RX6 = some m.cls := findClass_of_methodNamed B.named
  have hlocks := B.notSynchronized
  have X : Cxx p l e s m _ below meth c cX6_look (some .int) 4 RX6 wsX6_look z G := ⟨hx, hb, hr, hml, hown, hts, hlocks, hE, hz, htb, hlt⟩
  have hS : va_S (Az z) s.heap s.heap [] := va_S.rf
  have hl := lv_entry [.ref (ad 0 0), .int p1, .int p2, .int p3] (n := 4) (Nat.le_of_ble_eq_true rfl)
  rw [lg_entry_eq]
  generalize (lg_sl [.ref (ad 0 0), .int p1, .int p2, .int p3] ++ List.replicate (4 - (lg_sl [.ref (ad 0 0), .int p1, .int p2, .int p3]).length) Slot.unset).toArray = ls at hl ⊢
  have hl : lv_has ls 4 [(0, .ref (ad 0 0)), (1, .int p1), (2, .int p2), (3, .int p3)] := hl
  unfold wpX6_look at h
  refine lv_iload_n hx hb dX6_look_0 rfl (lv_at hl 1 rfl) ?_
  refine x_Sv (rest := []) (As := [.int p1]) ⟨hx, hb, hml, hown, hts⟩ hE hz hS hW (mtX6_needDay l hlt z G ad σ ν ρ lo p1 _ _ h) (va_cwS 1 hts gX6_look_X6_needDay rfl rfl rfl (by decide +kernel) ⟨Nat.le_of_ble_eq_true rfl, Nat.le_of_ble_eq_true rfl⟩) rfl hl.1 rfl (Nat.le_of_ble_eq_true rfl) dX6_look_1 ⟨Nat.le_of_ble_eq_true rfl, Nat.le_of_ble_eq_true rfl⟩ hlocks htb (fun E S1 q => q) ⟨Nat.le_of_ble_eq_true rfl, Nat.le_of_ble_eq_true rfl⟩ (fun S1 H locs hp hW hS => ?_)
  obtain ⟨rfl, h⟩ := hp
  refine lv_iload_n hx hb dX6_look_4 rfl (lv_at hl 2 rfl) ?_
  refine r_if_lt hx hb rfl (tgt := 16) dX6_look_5 (by decide) (fun c1 => ?_) (fun c1 => ?_)
  · have h := ite_t c1 h
    exact r_throw (k := 15) (k2 := 2) (cls := "java/lang/IllegalArgumentException") (ik := 53) (is := 179) (ic := 57) (text := "known is out of range") hx hb hlt hts hown hml hlocks htb hE hW hS hl.1 (List.mem_of_getElem? (i := 1) rfl) (List.mem_of_getElem? (i := 2) rfl) (fun w h => List.mem_cons_of_mem _ (List.mem_append_right _ h)) rfl rfl (by decide +kernel) (by decide +kernel) rfl dX6_look_16 dX6_look_19 dX6_look_20 dX6_look_22 dX6_look_25 (Nat.le_of_ble_eq_true rfl) (Nat.le_of_ble_eq_true rfl) (Nat.le_of_ble_eq_true rfl) (Nat.le_of_ble_eq_true rfl) (Nat.le_of_ble_eq_true rfl) (Nat.le_of_ble_eq_true rfl) ⟨rfl, h⟩
  · have h := ite_f c1 h
    refine lv_iload_n hx hb dX6_look_8 rfl (lv_at hl 2 rfl) ?_
    refine lv_aload_n hx hb dX6_look_9 rfl (lv_at hl 0 rfl) ?_
    refine r_get (C := RX6) (T := TX6) (N := 8) (ci := 9) (fs := fl_0 ad ν ρ 0 (σ 0 0)) hx hb hts hown hE hW 0 0 rfl rfl rfl (fun w h => List.mem_cons_of_mem _ (List.mem_append_left _ (List.mem_append_left _ (List.mem_append_left _ (List.mem_append_left _ (List.mem_append_left _ (List.mem_append_left _ (List.mem_append_left _ (List.mem_append_left _ (List.mem_append_right _ h)))))))))) 4 (by decide) (List.mem_of_getElem? (i := 3) rfl) rfl (v := .int (σ 0 0 4)) rfl dX6_look_10 ?_
    refine r_icmp_le hx hb rfl rfl (tgt := 26) dX6_look_13 (by decide) (fun c2 => ?_) (fun c2 => ?_)
    · have h := ite_t c2 h
      refine lv_iload_n hx hb dX6_look_26 rfl (lv_at hl 3 rfl) ?_
      refine r_if_lt hx hb rfl (tgt := 35) dX6_look_27 (by decide) (fun c3 => ?_) (fun c3 => ?_)
      · have h := ite_t c3 h
        exact r_throw (k := 16) (k2 := 2) (cls := "java/lang/IllegalArgumentException") (ik := 53) (is := 181) (ic := 57) (text := "territory is out of range") hx hb hlt hts hown hml hlocks htb hE hW hS hl.1 (List.mem_of_getElem? (i := 1) rfl) (List.mem_of_getElem? (i := 2) rfl) (fun w h => List.mem_cons_of_mem _ (List.mem_append_right _ h)) rfl rfl (by decide +kernel) (by decide +kernel) rfl dX6_look_35 dX6_look_38 dX6_look_39 dX6_look_41 dX6_look_44 (Nat.le_of_ble_eq_true rfl) (Nat.le_of_ble_eq_true rfl) (Nat.le_of_ble_eq_true rfl) (Nat.le_of_ble_eq_true rfl) (Nat.le_of_ble_eq_true rfl) (Nat.le_of_ble_eq_true rfl) ⟨rfl, h⟩
      · have h := ite_f c3 h
        refine lv_iload_n hx hb dX6_look_30 rfl (lv_at hl 3 rfl) ?_
        refine lv_iconst (v := (2 : Int32)) hx hb dX6_look_31 (by decide) ?_
        refine r_icmp_le hx hb rfl (show (2 : Int32).toInt = 2 by decide) (tgt := 45) dX6_look_32 (by decide) (fun c4 => ?_) (fun c4 => ?_)
        · have h := ite_t c4 h
          refine lv_aload_n hx hb dX6_look_45 rfl (lv_at hl 0 rfl) ?_
          refine r_get (C := RX6) (T := TX6) (N := 8) (ci := 9) (fs := fl_0 ad ν ρ 0 (σ 0 0)) hx hb hts hown hE hW 0 0 rfl rfl rfl (fun w h => List.mem_cons_of_mem _ (List.mem_append_left _ (List.mem_append_left _ (List.mem_append_left _ (List.mem_append_left _ (List.mem_append_left _ (List.mem_append_left _ (List.mem_append_left _ (List.mem_append_left _ (List.mem_append_right _ h)))))))))) 1 (by decide) (List.mem_of_getElem? (i := 4) rfl) rfl (v := .ref (ad 1 0)) rfl dX6_look_46 ?_
          refine lv_iload_n hx hb dX6_look_49 rfl (lv_at hl 1 rfl) ?_
          refine lv_iload_n hx hb dX6_look_50 rfl (lv_at hl 2 rfl) ?_
          refine lv_iload_n hx hb dX6_look_51 rfl (lv_at hl 3 rfl) ?_
          refine k_Vv (rest := []) (As := [.int p1, .int p2, .int p3]) ⟨hx, hb, hml, hown, hts⟩ hE hz hS hW (mtX5_turnTo l z G ad σ ν ρ lo 0 p1 p2 p3 _ h) (cwV 3 hts gX6_look_X5_turnTo rfl rfl rfl (by decide +kernel) ⟨Nat.le_of_ble_eq_true rfl, Nat.le_of_ble_eq_true rfl⟩) (r_recv hE hW 1 0 (show 0 < 2 by decide) (ci := 8) rfl rfl) rfl hl.1 rfl (Nat.le_of_ble_eq_true rfl) dX6_look_52 ⟨Nat.le_of_ble_eq_true rfl, Nat.le_of_ble_eq_true rfl⟩ (fun S1 H locs hp hW hS => ?_)
          obtain ⟨t5, rfl, h⟩ := hp
          refine lv_aload_n hx hb dX6_look_55 rfl (lv_at hl 0 rfl) ?_
          refine r_get (C := RX6) (T := TX6) (N := 8) (ci := 9) (fs := fl_0 ad ν ρ 0 (t5 0 0)) hx hb hts hown hE hW 0 0 rfl rfl rfl (fun w h => List.mem_cons_of_mem _ (List.mem_append_left _ (List.mem_append_left _ (List.mem_append_left _ (List.mem_append_left _ (List.mem_append_left _ (List.mem_append_left _ (List.mem_append_left _ (List.mem_append_left _ (List.mem_append_right _ h)))))))))) 1 (by decide) (List.mem_of_getElem? (i := 4) rfl) rfl (v := .ref (ad 1 0)) rfl dX6_look_56 ?_
          refine lv_aload_n hx hb dX6_look_59 rfl (lv_at hl 0 rfl) ?_
          refine r_get (C := RX6) (T := TX6) (N := 8) (ci := 9) (fs := fl_0 ad ν ρ 0 (t5 0 0)) hx hb hts hown hE hW 0 0 rfl rfl rfl (fun w h => List.mem_cons_of_mem _ (List.mem_append_left _ (List.mem_append_left _ (List.mem_append_left _ (List.mem_append_left _ (List.mem_append_left _ (List.mem_append_left _ (List.mem_append_left _ (List.mem_append_left _ (List.mem_append_right _ h)))))))))) 0 (by decide) (List.mem_of_getElem? (i := 5) rfl) rfl (v := .ref (ad 7 0)) rfl dX6_look_60 ?_
          refine kA_Vv (rest := []) (As := [.ref (ad 7 0)]) ⟨hx, hb, hml, hown, hts⟩ hE hz hS hW (mtX5_build l z G ad t5 ν ρ lo 0 0 _ h) (cwV 1 hts gX6_look_X5_build rfl rfl rfl (by decide +kernel) ⟨Nat.le_of_ble_eq_true rfl, Nat.le_of_ble_eq_true rfl⟩) (r_recv hE hW 1 0 (show 0 < 2 by decide) (ci := 8) rfl rfl) rfl hl.1 rfl (Nat.le_of_ble_eq_true rfl) dX6_look_63 ⟨Nat.le_of_ble_eq_true rfl, Nat.le_of_ble_eq_true rfl⟩ (fun S1 ad8 H locs hp hW hS => ?_)
          obtain ⟨t6, vv7, rfl, q9, h⟩ := hp
          have z10 : ad8 0 0 = ad 0 0 := (q9 0 0 (by decide) rfl).2
          have hl : lv_has ls 4 [(0, .ref (ad8 0 0)), (1, .int p1), (2, .int p2), (3, .int p3)] := by rw [z10]; exact hl
          refine lv_aload_n hx hb dX6_look_66 rfl (lv_at hl 0 rfl) ?_
          refine r_get (C := RX6) (T := TX6) (N := 8) (ci := 9) (fs := fl_0 ad8 vv7 ρ 0 (t6 0 0)) hx hb hts hown hE hW 0 0 rfl rfl rfl (fun w h => List.mem_cons_of_mem _ (List.mem_append_left _ (List.mem_append_left _ (List.mem_append_left _ (List.mem_append_left _ (List.mem_append_left _ (List.mem_append_left _ (List.mem_append_left _ (List.mem_append_left _ (List.mem_append_right _ h)))))))))) 1 (by decide) (List.mem_of_getElem? (i := 4) rfl) rfl (v := .ref (ad8 1 0)) rfl dX6_look_67 ?_
          refine r_getN (C := RX5) (T := TX5) (N := 13) (ci := 8) (fs := fl_1 ad8 vv7 ρ 0 (t6 1 0)) (own := RX6) hx hb hts hown hE hW 1 0 (show 0 < 2 by decide) rfl rfl (fun w h => List.mem_cons_of_mem _ (List.mem_append_left _ (List.mem_append_left _ (List.mem_append_left _ (List.mem_append_left _ (List.mem_append_left _ (List.mem_append_left _ (List.mem_append_left _ (List.mem_append_right _ h))))))))) 9 (by decide) (host := "Amendmark") (List.mem_of_getElem? (i := 0) rfl) rfl (v := .int (t6 1 0 9)) rfl dX6_look_70 ?_
          refine vx_ret ?_
          exact W.iret (v := t6 1 0 9) hx hb hr (fun t ht _ => ⟨⟨_, ((t6, vv7, ρ, lo), ad8), rfl, ⟨_, _, rfl, (Xt.tr Xt.rf q9), h⟩, WP.at9 ht hW⟩, hS.F ht⟩) hS.2.2 dX6_look_73 (hlocks := hlocks)
        · have h := ite_f c4 h
          exact r_throw (k := 16) (k2 := 2) (cls := "java/lang/IllegalArgumentException") (ik := 53) (is := 181) (ic := 57) (text := "territory is out of range") hx hb hlt hts hown hml hlocks htb hE hW hS hl.1 (List.mem_of_getElem? (i := 1) rfl) (List.mem_of_getElem? (i := 2) rfl) (fun w h => List.mem_cons_of_mem _ (List.mem_append_right _ h)) rfl rfl (by decide +kernel) (by decide +kernel) rfl dX6_look_35 dX6_look_38 dX6_look_39 dX6_look_41 dX6_look_44 (Nat.le_of_ble_eq_true rfl) (Nat.le_of_ble_eq_true rfl) (Nat.le_of_ble_eq_true rfl) (Nat.le_of_ble_eq_true rfl) (Nat.le_of_ble_eq_true rfl) (Nat.le_of_ble_eq_true rfl) ⟨rfl, h⟩
    · have h := ite_f c2 h
      exact r_throw (k := 15) (k2 := 2) (cls := "java/lang/IllegalArgumentException") (ik := 53) (is := 179) (ic := 57) (text := "known is out of range") hx hb hlt hts hown hml hlocks htb hE hW hS hl.1 (List.mem_of_getElem? (i := 1) rfl) (List.mem_of_getElem? (i := 2) rfl) (fun w h => List.mem_cons_of_mem _ (List.mem_append_right _ h)) rfl rfl (by decide +kernel) (by decide +kernel) rfl dX6_look_16 dX6_look_19 dX6_look_20 dX6_look_22 dX6_look_25 (Nat.le_of_ble_eq_true rfl) (Nat.le_of_ble_eq_true rfl) (Nat.le_of_ble_eq_true rfl) (Nat.le_of_ble_eq_true rfl) (Nat.le_of_ble_eq_true rfl) (Nat.le_of_ble_eq_true rfl) ⟨rfl, h⟩
set_option maxHeartbeats 4000000 in
set_option maxRecDepth 100000 in
theorem mtX5_listedAt (l : Launch) (z : Nat) (G : Gl) (ad : Nat → Nat → Nat) (σ : SG) (ν : NU) (ρ : RH) (lo : Int64) (o0 : Nat) (p1 : Int32) (post : Int32 → Prop) (h : wpX5_listedAt σ ν o0 p1 post) : Met l yX5_listedAt wsX5_listedAt ({ frames := 0, cells := 0, slots := 0, locals := 0 } : Room) (Pcs z G ad (σ, ν, ρ, lo) [.ref (ad 1 o0), .int p1]) (Qis z G ad (fun r S1 => S1 = (σ, ν, ρ, lo) ∧ post r)) 0 0 (Az z) := by
  refine Met.ofW (cc := cX5_listedAt) (maxL := 2) (ret := (some .int)) (by decide) rfl ?_
  intro p e s m args below meth c s₁ B hml hv
  obtain ⟨rfl, hz, hW, hE⟩ := hv
  have hx := B.exec
  have hb := B.bytes
  have hr := B.returns
  have hts := atoms_spec (ws := wsX5_listedAt) B.pre
  have hown : s.vm.findClass RX5 = some m.cls := findClass_of_methodNamed B.named
  have hlocks := B.notSynchronized
  have X : Cx p l e s m _ below meth c cX5_listedAt (some .int) 2 RX5 wsX5_listedAt z G := ⟨hx, hb, hr, hml, hown, hts, hlocks, hE, hz⟩
  have hS : va_S (Az z) s.heap s.heap [] := va_S.rf
  have hl := lv_entry [.ref (ad 1 o0), .int p1] (n := 2) (Nat.le_of_ble_eq_true rfl)
  rw [lg_entry_eq]
  generalize (lg_sl [.ref (ad 1 o0), .int p1] ++ List.replicate (2 - (lg_sl [.ref (ad 1 o0), .int p1]).length) Slot.unset).toArray = ls at hl ⊢
  have hl : lv_has ls 2 [(0, .ref (ad 1 o0)), (1, .int p1)] := hl
  unfold wpX5_listedAt at h
  refine lv_iload_n hx hb dX5_listedAt_0 rfl (lv_at hl 1 rfl) ?_
  refine r_if_lt hx hb rfl (tgt := 30) dX5_listedAt_1 (by decide) (fun c1 => ?_) (fun c1 => ?_)
  · have h := ite_t c1 h
    refine lv_iconst (v := (-1 : Int32)) hx hb dX5_listedAt_30 (by decide) ?_
    exact W.iret (v := (-1 : Int32)) hx hb hr (fun t ht _ => ⟨⟨_, (σ, ν, ρ, lo), rfl, ⟨rfl, h⟩, WP.at9 ht hW⟩, hS.F ht⟩) hS.2.2 dX5_listedAt_31 (hlocks := hlocks)
  · have h := ite_f c1 h
    refine lv_iload_n hx hb dX5_listedAt_4 rfl (lv_at hl 1 rfl) ?_
    refine lv_aload_n hx hb dX5_listedAt_5 rfl (lv_at hl 0 rfl) ?_
    obtain ⟨g2, h⟩ := h
    refine r_get (C := RX5) (T := TX5) (N := 13) (ci := 8) (fs := fl_1 ad ν ρ o0 (σ 1 o0)) hx hb hts hown hE hW 1 o0 g2 rfl rfl (fun w h => List.mem_cons_of_mem _ (List.mem_append_right _ h)) 9 (by decide) (List.mem_of_getElem? (i := 1) rfl) rfl (v := .int (σ 1 o0 9)) rfl dX5_listedAt_6 ?_
    refine r_icmp_ge hx hb rfl rfl (tgt := 30) dX5_listedAt_9 (by decide) (fun c3 => ?_) (fun c3 => ?_)
    · have h := ite_f c3 h
      refine lv_iconst (v := (-1 : Int32)) hx hb dX5_listedAt_30 (by decide) ?_
      exact W.iret (v := (-1 : Int32)) hx hb hr (fun t ht _ => ⟨⟨_, (σ, ν, ρ, lo), rfl, ⟨rfl, h⟩, WP.at9 ht hW⟩, hS.F ht⟩) hS.2.2 dX5_listedAt_31 (hlocks := hlocks)
    · have h := ite_t c3 h
      refine lv_iload_n hx hb dX5_listedAt_12 rfl (lv_at hl 1 rfl) ?_
      refine lv_aload_n hx hb dX5_listedAt_13 rfl (lv_at hl 0 rfl) ?_
      refine r_get (C := RX5) (T := TX5) (N := 13) (ci := 8) (fs := fl_1 ad ν ρ o0 (σ 1 o0)) hx hb hts hown hE hW 1 o0 g2 rfl rfl (fun w h => List.mem_cons_of_mem _ (List.mem_append_right _ h)) 8 (by decide) (List.mem_of_getElem? (i := 2) rfl) rfl (v := .ref (ad 18 o0)) rfl dX5_listedAt_14 ?_
      refine r_alen hx hb hE hW 18 o0 g2 rfl 0 rfl (v := (20 : Int32)) rfl dX5_listedAt_17 ?_
      refine r_icmp_ge hx hb rfl (show (20 : Int32).toInt = 20 by decide) (tgt := 30) dX5_listedAt_18 (by decide) (fun c4 => ?_) (fun c4 => ?_)
      · have h := ite_f c4 h
        refine lv_iconst (v := (-1 : Int32)) hx hb dX5_listedAt_30 (by decide) ?_
        exact W.iret (v := (-1 : Int32)) hx hb hr (fun t ht _ => ⟨⟨_, (σ, ν, ρ, lo), rfl, ⟨rfl, h⟩, WP.at9 ht hW⟩, hS.F ht⟩) hS.2.2 dX5_listedAt_31 (hlocks := hlocks)
      · have h := ite_t c4 h
        refine lv_aload_n hx hb dX5_listedAt_21 rfl (lv_at hl 0 rfl) ?_
        refine r_get (C := RX5) (T := TX5) (N := 13) (ci := 8) (fs := fl_1 ad ν ρ o0 (σ 1 o0)) hx hb hts hown hE hW 1 o0 g2 rfl rfl (fun w h => List.mem_cons_of_mem _ (List.mem_append_right _ h)) 8 (by decide) (List.mem_of_getElem? (i := 2) rfl) rfl (v := .ref (ad 18 o0)) rfl dX5_listedAt_22 ?_
        refine lv_iload_n hx hb dX5_listedAt_25 rfl (lv_at hl 1 rfl) ?_
        obtain ⟨b5, h⟩ := h
        refine r_iald hx hb hE hW 18 o0 g2 (n := 20) (f := σ 18 o0) rfl b5 (v := σ 18 o0 p1.toNatClampNeg) rfl dX5_listedAt_26 ?_
        refine lv_goto (tgt := 31) hx hb dX5_listedAt_27 (by decide) ?_
        exact W.iret (v := σ 18 o0 p1.toNatClampNeg) hx hb hr (fun t ht _ => ⟨⟨_, (σ, ν, ρ, lo), rfl, ⟨rfl, h⟩, WP.at9 ht hW⟩, hS.F ht⟩) hS.2.2 dX5_listedAt_31 (hlocks := hlocks)
set_option maxHeartbeats 4000000 in
set_option maxRecDepth 100000 in
theorem mtX6_provisionAt (l : Launch) (hlt : l.stackTraces = false) (z : Nat) (G : Gl) (ad : Nat → Nat → Nat) (σ : SG) (ν : NU) (ρ : RH) (lo : Int64) (p1 : Int32) (post : Int32 → Prop) (px : String → Prop) (h : wpX6_provisionAt σ ν p1 post px) : vx_Met l yX6_provisionAt wsX6_provisionAt ({ frames := 6, cells := 1, slots := 6, locals := 82 } : Room) (Pcs z G ad (σ, ν, ρ, lo) [.ref (ad 0 0), .int p1]) (Qis z G ad (fun r S1 => S1 = (σ, ν, ρ, lo) ∧ post r)) (XCs z G ad (fun E S1 => S1 = (σ, ν, ρ, lo) ∧ px E)) 1 6 (Az z) := by
  refine vx_ofW (cc := cX6_provisionAt) (maxL := 2) (ret := (some .int)) (by decide) rfl ?_
  intro p e s m args below meth c s₁ B hml htb hv
  obtain ⟨rfl, hz, hW, hE⟩ := hv
  have hx := B.exec
  have hb := B.bytes
  have hr := B.returns
  have hts := atoms_spec (ws := wsX6_provisionAt) B.pre
  have hown : s.vm.findClass RX6 = some m.cls := findClass_of_methodNamed B.named
  have hlocks := B.notSynchronized
  have X : Cxx p l e s m _ below meth c cX6_provisionAt (some .int) 2 RX6 wsX6_provisionAt z G := ⟨hx, hb, hr, hml, hown, hts, hlocks, hE, hz, htb, hlt⟩
  have hS : va_S (Az z) s.heap s.heap [] := va_S.rf
  have hl := lv_entry [.ref (ad 0 0), .int p1] (n := 2) (Nat.le_of_ble_eq_true rfl)
  rw [lg_entry_eq]
  generalize (lg_sl [.ref (ad 0 0), .int p1] ++ List.replicate (2 - (lg_sl [.ref (ad 0 0), .int p1]).length) Slot.unset).toArray = ls at hl ⊢
  have hl : lv_has ls 2 [(0, .ref (ad 0 0)), (1, .int p1)] := hl
  unfold wpX6_provisionAt at h
  refine lv_iload_n hx hb dX6_provisionAt_0 rfl (lv_at hl 1 rfl) ?_
  refine r_if_ge hx hb rfl (tgt := 14) dX6_provisionAt_1 (by decide) (fun c1 => ?_) (fun c1 => ?_)
  · have h := ite_f c1 h
    refine lv_aload_n hx hb dX6_provisionAt_14 rfl (lv_at hl 0 rfl) ?_
    refine r_get (C := RX6) (T := TX6) (N := 8) (ci := 9) (fs := fl_0 ad ν ρ 0 (σ 0 0)) hx hb hts hown hE hW 0 0 rfl rfl rfl (fun w h => List.mem_cons_of_mem _ (List.mem_append_left _ (List.mem_append_left _ (List.mem_append_right _ h)))) 1 (by decide) (List.mem_of_getElem? (i := 3) rfl) rfl (v := .ref (ad 1 0)) rfl dX6_provisionAt_15 ?_
    refine lv_iload_n hx hb dX6_provisionAt_18 rfl (lv_at hl 1 rfl) ?_
    refine k_Vi (rest := []) (As := [.int p1]) ⟨hx, hb, hml, hown, hts⟩ hE hz hS hW (mtX5_listedAt l z G ad σ ν ρ lo 0 p1 _ h) (cwV 1 hts gX6_provisionAt_X5_listedAt rfl rfl rfl (by decide +kernel) ⟨Nat.le_of_ble_eq_true rfl, Nat.le_of_ble_eq_true rfl⟩) (r_recv hE hW 1 0 (show 0 < 2 by decide) (ci := 8) rfl rfl) rfl hl.1 rfl (Nat.le_of_ble_eq_true rfl) dX6_provisionAt_19 ⟨Nat.le_of_ble_eq_true rfl, Nat.le_of_ble_eq_true rfl⟩ (fun r2 S1 H locs hp hW hS => ?_)
    obtain ⟨rfl, h⟩ := hp
    refine W.widen (k := 1) (n := 6) (Nat.le_of_ble_eq_true rfl) (Nat.le_of_ble_eq_true rfl) ?_
    refine vx_ret ?_
    exact W.iret (v := r2) hx hb hr (fun t ht _ => ⟨⟨_, (σ, ν, ρ, lo), rfl, ⟨rfl, h⟩, WP.at9 ht hW⟩, hS.F ht⟩) hS.2.2 dX6_provisionAt_22 (hlocks := hlocks)
  · have h := ite_t c1 h
    exact r_throw (k := 17) (k2 := 4) (cls := "java/lang/IndexOutOfBoundsException") (ik := 189) (is := 191) (ic := 193) (text := "there is no such place") hx hb hlt hts hown hml hlocks htb hE hW hS hl.1 (List.mem_of_getElem? (i := 1) rfl) (List.mem_of_getElem? (i := 2) rfl) (fun w h => List.mem_cons_of_mem _ (List.mem_append_right _ h)) rfl rfl (by decide +kernel) (by decide +kernel) rfl dX6_provisionAt_4 dX6_provisionAt_7 dX6_provisionAt_8 dX6_provisionAt_10 dX6_provisionAt_13 (Nat.le_of_ble_eq_true rfl) (Nat.le_of_ble_eq_true rfl) (Nat.le_of_ble_eq_true rfl) (Nat.le_of_ble_eq_true rfl) (Nat.le_of_ble_eq_true rfl) (Nat.le_of_ble_eq_true rfl) ⟨rfl, h⟩
set_option maxHeartbeats 4000000 in
set_option maxRecDepth 100000 in
theorem mtX6_label (l : Launch) (hlt : l.stackTraces = false) (z : Nat) (G : Gl) (ad : Nat → Nat → Nat) (σ : SG) (ν : NU) (ρ : RH) (lo : Int64) (p1 : Int32) (post : Int32 → Prop) (px : String → Prop) (h : wpX6_label σ ν p1 post px) : vx_Met l yX6_label wsX6_label ({ frames := 7, cells := 1, slots := 6, locals := 103 } : Room) (Pcs z G ad (σ, ν, ρ, lo) [.ref (ad 0 0), .int p1]) (Qis z G ad (fun r S1 => S1 = (σ, ν, ρ, lo) ∧ post r)) (XCs z G ad (fun E S1 => S1 = (σ, ν, ρ, lo) ∧ px E)) 1 6 (Az z) := by
  refine vx_ofW (cc := cX6_label) (maxL := 2) (ret := (some .int)) (by decide) rfl ?_
  intro p e s m args below meth c s₁ B hml htb hv
  obtain ⟨rfl, hz, hW, hE⟩ := hv
  have hx := B.exec
  have hb := B.bytes
  have hr := B.returns
  have hts := atoms_spec (ws := wsX6_label) B.pre
  have hown : s.vm.findClass RX6 = some m.cls := findClass_of_methodNamed B.named
  have hlocks := B.notSynchronized
  have X : Cxx p l e s m _ below meth c cX6_label (some .int) 2 RX6 wsX6_label z G := ⟨hx, hb, hr, hml, hown, hts, hlocks, hE, hz, htb, hlt⟩
  have hS : va_S (Az z) s.heap s.heap [] := va_S.rf
  have hl := lv_entry [.ref (ad 0 0), .int p1] (n := 2) (Nat.le_of_ble_eq_true rfl)
  rw [lg_entry_eq]
  generalize (lg_sl [.ref (ad 0 0), .int p1] ++ List.replicate (2 - (lg_sl [.ref (ad 0 0), .int p1]).length) Slot.unset).toArray = ls at hl ⊢
  have hl : lv_has ls 2 [(0, .ref (ad 0 0)), (1, .int p1)] := hl
  unfold wpX6_label at h
  refine lv_aload_n hx hb dX6_label_0 rfl (lv_at hl 0 rfl) ?_
  refine lv_iload_n hx hb dX6_label_1 rfl (lv_at hl 1 rfl) ?_
  refine x_Vv (rest := []) (As := [.int p1]) ⟨hx, hb, hml, hown, hts⟩ hE hz hS hW (mtX6_needProvision l hlt z G ad σ ν ρ lo p1 _ _ h) (cwV 1 hts gX6_label_X6_needProvision rfl rfl rfl (by decide +kernel) ⟨Nat.le_of_ble_eq_true rfl, Nat.le_of_ble_eq_true rfl⟩) (r_recv hE hW 0 0 rfl (ci := 9) rfl rfl) rfl hl.1 rfl (Nat.le_of_ble_eq_true rfl) dX6_label_2 ⟨Nat.le_of_ble_eq_true rfl, Nat.le_of_ble_eq_true rfl⟩ hlocks htb (fun E S1 q => q) ⟨Nat.le_of_ble_eq_true rfl, Nat.le_of_ble_eq_true rfl⟩ (fun S1 H locs hp hW hS => ?_)
  obtain ⟨rfl, h⟩ := hp
  refine lv_aload_n hx hb dX6_label_5 rfl (lv_at hl 0 rfl) ?_
  refine r_get (C := RX6) (T := TX6) (N := 8) (ci := 9) (fs := fl_0 ad ν ρ 0 (σ 0 0)) hx hb hts hown hE hW 0 0 rfl rfl rfl (fun w h => List.mem_cons_of_mem _ (List.mem_append_left _ (List.mem_append_left _ (List.mem_append_right _ h)))) 1 (by decide) (List.mem_of_getElem? (i := 1) rfl) rfl (v := .ref (ad 1 0)) rfl dX6_label_6 ?_
  refine lv_iload_n hx hb dX6_label_9 rfl (lv_at hl 1 rfl) ?_
  refine k_Vi (rest := []) (As := [.int p1]) ⟨hx, hb, hml, hown, hts⟩ hE hz hS hW (mtX5_labelOf l z G ad σ ν ρ lo 0 p1 _ h) (cwV 1 hts gX6_label_X5_labelOf rfl rfl rfl (by decide +kernel) ⟨Nat.le_of_ble_eq_true rfl, Nat.le_of_ble_eq_true rfl⟩) (r_recv hE hW 1 0 (show 0 < 2 by decide) (ci := 8) rfl rfl) rfl hl.1 rfl (Nat.le_of_ble_eq_true rfl) dX6_label_10 ⟨Nat.le_of_ble_eq_true rfl, Nat.le_of_ble_eq_true rfl⟩ (fun r1 S1 H locs hp hW hS => ?_)
  obtain ⟨rfl, h⟩ := hp
  refine vx_ret ?_
  exact W.iret (v := r1) hx hb hr (fun t ht _ => ⟨⟨_, (σ, ν, ρ, lo), rfl, ⟨rfl, h⟩, WP.at9 ht hW⟩, hS.F ht⟩) hS.2.2 dX6_label_13 (hlocks := hlocks)
set_option maxHeartbeats 4000000 in
set_option maxRecDepth 100000 in
theorem mtX6_parent (l : Launch) (hlt : l.stackTraces = false) (z : Nat) (G : Gl) (ad : Nat → Nat → Nat) (σ : SG) (ν : NU) (ρ : RH) (lo : Int64) (p1 : Int32) (post : Int32 → Prop) (px : String → Prop) (h : wpX6_parent σ ν p1 post px) : vx_Met l yX6_parent wsX6_parent ({ frames := 7, cells := 1, slots := 6, locals := 103 } : Room) (Pcs z G ad (σ, ν, ρ, lo) [.ref (ad 0 0), .int p1]) (Qis z G ad (fun r S1 => S1 = (σ, ν, ρ, lo) ∧ post r)) (XCs z G ad (fun E S1 => S1 = (σ, ν, ρ, lo) ∧ px E)) 1 6 (Az z) := by
  refine vx_ofW (cc := cX6_parent) (maxL := 2) (ret := (some .int)) (by decide) rfl ?_
  intro p e s m args below meth c s₁ B hml htb hv
  obtain ⟨rfl, hz, hW, hE⟩ := hv
  have hx := B.exec
  have hb := B.bytes
  have hr := B.returns
  have hts := atoms_spec (ws := wsX6_parent) B.pre
  have hown : s.vm.findClass RX6 = some m.cls := findClass_of_methodNamed B.named
  have hlocks := B.notSynchronized
  have X : Cxx p l e s m _ below meth c cX6_parent (some .int) 2 RX6 wsX6_parent z G := ⟨hx, hb, hr, hml, hown, hts, hlocks, hE, hz, htb, hlt⟩
  have hS : va_S (Az z) s.heap s.heap [] := va_S.rf
  have hl := lv_entry [.ref (ad 0 0), .int p1] (n := 2) (Nat.le_of_ble_eq_true rfl)
  rw [lg_entry_eq]
  generalize (lg_sl [.ref (ad 0 0), .int p1] ++ List.replicate (2 - (lg_sl [.ref (ad 0 0), .int p1]).length) Slot.unset).toArray = ls at hl ⊢
  have hl : lv_has ls 2 [(0, .ref (ad 0 0)), (1, .int p1)] := hl
  unfold wpX6_parent at h
  refine lv_aload_n hx hb dX6_parent_0 rfl (lv_at hl 0 rfl) ?_
  refine lv_iload_n hx hb dX6_parent_1 rfl (lv_at hl 1 rfl) ?_
  refine x_Vv (rest := []) (As := [.int p1]) ⟨hx, hb, hml, hown, hts⟩ hE hz hS hW (mtX6_needProvision l hlt z G ad σ ν ρ lo p1 _ _ h) (cwV 1 hts gX6_parent_X6_needProvision rfl rfl rfl (by decide +kernel) ⟨Nat.le_of_ble_eq_true rfl, Nat.le_of_ble_eq_true rfl⟩) (r_recv hE hW 0 0 rfl (ci := 9) rfl rfl) rfl hl.1 rfl (Nat.le_of_ble_eq_true rfl) dX6_parent_2 ⟨Nat.le_of_ble_eq_true rfl, Nat.le_of_ble_eq_true rfl⟩ hlocks htb (fun E S1 q => q) ⟨Nat.le_of_ble_eq_true rfl, Nat.le_of_ble_eq_true rfl⟩ (fun S1 H locs hp hW hS => ?_)
  obtain ⟨rfl, h⟩ := hp
  refine lv_aload_n hx hb dX6_parent_5 rfl (lv_at hl 0 rfl) ?_
  refine r_get (C := RX6) (T := TX6) (N := 8) (ci := 9) (fs := fl_0 ad ν ρ 0 (σ 0 0)) hx hb hts hown hE hW 0 0 rfl rfl rfl (fun w h => List.mem_cons_of_mem _ (List.mem_append_left _ (List.mem_append_left _ (List.mem_append_right _ h)))) 1 (by decide) (List.mem_of_getElem? (i := 1) rfl) rfl (v := .ref (ad 1 0)) rfl dX6_parent_6 ?_
  refine lv_iload_n hx hb dX6_parent_9 rfl (lv_at hl 1 rfl) ?_
  refine k_Vi (rest := []) (As := [.int p1]) ⟨hx, hb, hml, hown, hts⟩ hE hz hS hW (mtX5_isThere l z G ad σ ν ρ lo 0 p1 _ h) (cwV 1 hts gX6_parent_X5_isThere rfl rfl rfl (by decide +kernel) ⟨Nat.le_of_ble_eq_true rfl, Nat.le_of_ble_eq_true rfl⟩) (r_recv hE hW 1 0 (show 0 < 2 by decide) (ci := 8) rfl rfl) rfl hl.1 rfl (Nat.le_of_ble_eq_true rfl) dX6_parent_10 ⟨Nat.le_of_ble_eq_true rfl, Nat.le_of_ble_eq_true rfl⟩ (fun r1 S1 H locs hp hW hS => ?_)
  obtain ⟨rfl, h⟩ := hp
  refine r_if_eq hx hb rfl (tgt := 27) dX6_parent_13 (by decide) (fun c2 => ?_) (fun c2 => ?_)
  · have h := ite_t c2 h
    refine lv_iconst (v := (-1 : Int32)) hx hb dX6_parent_27 (by decide) ?_
    refine vx_ret ?_
    exact W.iret (v := (-1 : Int32)) hx hb hr (fun t ht _ => ⟨⟨_, (σ, ν, ρ, lo), rfl, ⟨rfl, h⟩, WP.at9 ht hW⟩, hS.F ht⟩) hS.2.2 dX6_parent_28 (hlocks := hlocks)
  · have h := ite_f c2 h
    refine lv_aload_n hx hb dX6_parent_16 rfl (lv_at hl 0 rfl) ?_
    refine r_get (C := RX6) (T := TX6) (N := 8) (ci := 9) (fs := fl_0 ad ν ρ 0 (σ 0 0)) hx hb hts hown hE hW 0 0 rfl rfl rfl (fun w h => List.mem_cons_of_mem _ (List.mem_append_left _ (List.mem_append_left _ (List.mem_append_right _ h)))) 1 (by decide) (List.mem_of_getElem? (i := 1) rfl) rfl (v := .ref (ad 1 0)) rfl dX6_parent_17 ?_
    refine lv_iload_n hx hb dX6_parent_20 rfl (lv_at hl 1 rfl) ?_
    refine k_Vi (rest := []) (As := [.int p1]) ⟨hx, hb, hml, hown, hts⟩ hE hz hS hW (mtX5_outerOf l z G ad σ ν ρ lo 0 p1 _ h) (cwV 1 hts gX6_parent_X5_outerOf rfl rfl rfl (by decide +kernel) ⟨Nat.le_of_ble_eq_true rfl, Nat.le_of_ble_eq_true rfl⟩) (r_recv hE hW 1 0 (show 0 < 2 by decide) (ci := 8) rfl rfl) rfl hl.1 rfl (Nat.le_of_ble_eq_true rfl) dX6_parent_21 ⟨Nat.le_of_ble_eq_true rfl, Nat.le_of_ble_eq_true rfl⟩ (fun r3 S1 H locs hp hW hS => ?_)
    obtain ⟨rfl, h⟩ := hp
    refine lv_goto (tgt := 28) hx hb dX6_parent_24 (by decide) ?_
    refine vx_ret ?_
    exact W.iret (v := r3) hx hb hr (fun t ht _ => ⟨⟨_, (σ, ν, ρ, lo), rfl, ⟨rfl, h⟩, WP.at9 ht hW⟩, hS.F ht⟩) hS.2.2 dX6_parent_28 (hlocks := hlocks)
set_option maxHeartbeats 4000000 in
set_option maxRecDepth 100000 in
theorem mtX5_countOf (l : Launch) (z : Nat) (G : Gl) (ad : Nat → Nat → Nat) (σ : SG) (ν : NU) (ρ : RH) (lo : Int64) (o0 : Nat) (p1 : Int32) (post : Int32 → Prop) (h : wpX5_countOf σ ν o0 p1 post) : Met l yX5_countOf wsX5_countOf ({ frames := 2, cells := 0, slots := 0, locals := 42 } : Room) (Pcs z G ad (σ, ν, ρ, lo) [.ref (ad 1 o0), .int p1]) (Qis z G ad (fun r S1 => S1 = (σ, ν, ρ, lo) ∧ post r)) 0 0 (Az z) := by
  refine Met.ofW (cc := cX5_countOf) (maxL := 2) (ret := (some .int)) (by decide) rfl ?_
  intro p e s m args below meth c s₁ B hml hv
  obtain ⟨rfl, hz, hW, hE⟩ := hv
  have hx := B.exec
  have hb := B.bytes
  have hr := B.returns
  have hts := atoms_spec (ws := wsX5_countOf) B.pre
  have hown : s.vm.findClass RX5 = some m.cls := findClass_of_methodNamed B.named
  have hlocks := B.notSynchronized
  have X : Cx p l e s m _ below meth c cX5_countOf (some .int) 2 RX5 wsX5_countOf z G := ⟨hx, hb, hr, hml, hown, hts, hlocks, hE, hz⟩
  have hS : va_S (Az z) s.heap s.heap [] := va_S.rf
  have hl := lv_entry [.ref (ad 1 o0), .int p1] (n := 2) (Nat.le_of_ble_eq_true rfl)
  rw [lg_entry_eq]
  generalize (lg_sl [.ref (ad 1 o0), .int p1] ++ List.replicate (2 - (lg_sl [.ref (ad 1 o0), .int p1]).length) Slot.unset).toArray = ls at hl ⊢
  have hl : lv_has ls 2 [(0, .ref (ad 1 o0)), (1, .int p1)] := hl
  unfold wpX5_countOf at h
  refine lv_aload_n hx hb dX5_countOf_0 rfl (lv_at hl 0 rfl) ?_
  refine lv_iload_n hx hb dX5_countOf_1 rfl (lv_at hl 1 rfl) ?_
  obtain ⟨g1, h⟩ := h
  refine k_Vi (rest := []) (As := [.int p1]) ⟨hx, hb, hml, hown, hts⟩ hE hz hS hW (mtX5_isThere l z G ad σ ν ρ lo o0 p1 _ h) (cwV 1 hts gX5_countOf_X5_isThere rfl rfl rfl (by decide +kernel) ⟨Nat.le_of_ble_eq_true rfl, Nat.le_of_ble_eq_true rfl⟩) (r_recv hE hW 1 o0 g1 (ci := 8) rfl rfl) rfl hl.1 rfl (Nat.le_of_ble_eq_true rfl) dX5_countOf_2 ⟨Nat.le_of_ble_eq_true rfl, Nat.le_of_ble_eq_true rfl⟩ (fun r2 S1 H locs hp hW hS => ?_)
  obtain ⟨rfl, h⟩ := hp
  refine r_if_eq hx hb rfl (tgt := 20) dX5_countOf_5 (by decide) (fun c3 => ?_) (fun c3 => ?_)
  · have h := ite_t c3 h
    refine lv_iconst (v := (-1 : Int32)) hx hb dX5_countOf_20 (by decide) ?_
    exact W.iret (v := (-1 : Int32)) hx hb hr (fun t ht _ => ⟨⟨_, (σ, ν, ρ, lo), rfl, ⟨rfl, h⟩, WP.at9 ht hW⟩, hS.F ht⟩) hS.2.2 dX5_countOf_21 (hlocks := hlocks)
  · have h := ite_f c3 h
    refine lv_aload_n hx hb dX5_countOf_8 rfl (lv_at hl 0 rfl) ?_
    refine r_get (C := RX5) (T := TX5) (N := 13) (ci := 8) (fs := fl_1 ad ν ρ o0 (σ 1 o0)) hx hb hts hown hE hW 1 o0 g1 rfl rfl (fun w h => List.mem_cons_of_mem _ (List.mem_append_left _ (List.mem_append_right _ h))) 6 (by decide) (List.mem_of_getElem? (i := 1) rfl) rfl (v := .ref (ad 16 o0)) rfl dX5_countOf_9 ?_
    refine lv_iload_n hx hb dX5_countOf_12 rfl (lv_at hl 1 rfl) ?_
    obtain ⟨b4, h⟩ := h
    have b5 := vp_lt b4
    refine r_aldq hx hb hE hW 16 o0 g1 (n := 20) (f := fun i => some (ad 2 (21 * o0 + 1 + i))) rfl 3 rfl b4 (v := .ref (ad 2 (21 * o0 + 1 + p1.toNatClampNeg))) rfl dX5_countOf_13 ?_
    refine r_getN (C := RX4) (T := TX4) (N := 3) (ci := 7) (fs := fl_2 ad ν ρ (21 * o0 + 1 + p1.toNatClampNeg) (σ 2 (21 * o0 + 1 + p1.toNatClampNeg))) (own := RX5) hx hb hts hown hE hW 2 (21 * o0 + 1 + p1.toNatClampNeg) (show 21 * o0 + 1 + p1.toNatClampNeg < 42 by omega) rfl rfl (fun w h => List.mem_cons_of_mem _ (List.mem_append_right _ h)) 2 (by decide) (host := "Amendmark") (List.mem_of_getElem? (i := 3) rfl) rfl (v := .int (σ 2 (21 * o0 + 1 + p1.toNatClampNeg) 2)) rfl dX5_countOf_14 ?_
    refine lv_goto (tgt := 21) hx hb dX5_countOf_17 (by decide) ?_
    exact W.iret (v := σ 2 (21 * o0 + 1 + p1.toNatClampNeg) 2) hx hb hr (fun t ht _ => ⟨⟨_, (σ, ν, ρ, lo), rfl, ⟨rfl, h⟩, WP.at9 ht hW⟩, hS.F ht⟩) hS.2.2 dX5_countOf_21 (hlocks := hlocks)
set_option maxHeartbeats 4000000 in
set_option maxRecDepth 100000 in
theorem mtX6_words (l : Launch) (hlt : l.stackTraces = false) (z : Nat) (G : Gl) (ad : Nat → Nat → Nat) (σ : SG) (ν : NU) (ρ : RH) (lo : Int64) (p1 : Int32) (post : Int32 → Prop) (px : String → Prop) (h : wpX6_words σ ν p1 post px) : vx_Met l yX6_words wsX6_words ({ frames := 7, cells := 1, slots := 6, locals := 103 } : Room) (Pcs z G ad (σ, ν, ρ, lo) [.ref (ad 0 0), .int p1]) (Qis z G ad (fun r S1 => S1 = (σ, ν, ρ, lo) ∧ post r)) (XCs z G ad (fun E S1 => S1 = (σ, ν, ρ, lo) ∧ px E)) 1 6 (Az z) := by
  refine vx_ofW (cc := cX6_words) (maxL := 2) (ret := (some .int)) (by decide) rfl ?_
  intro p e s m args below meth c s₁ B hml htb hv
  obtain ⟨rfl, hz, hW, hE⟩ := hv
  have hx := B.exec
  have hb := B.bytes
  have hr := B.returns
  have hts := atoms_spec (ws := wsX6_words) B.pre
  have hown : s.vm.findClass RX6 = some m.cls := findClass_of_methodNamed B.named
  have hlocks := B.notSynchronized
  have X : Cxx p l e s m _ below meth c cX6_words (some .int) 2 RX6 wsX6_words z G := ⟨hx, hb, hr, hml, hown, hts, hlocks, hE, hz, htb, hlt⟩
  have hS : va_S (Az z) s.heap s.heap [] := va_S.rf
  have hl := lv_entry [.ref (ad 0 0), .int p1] (n := 2) (Nat.le_of_ble_eq_true rfl)
  rw [lg_entry_eq]
  generalize (lg_sl [.ref (ad 0 0), .int p1] ++ List.replicate (2 - (lg_sl [.ref (ad 0 0), .int p1]).length) Slot.unset).toArray = ls at hl ⊢
  have hl : lv_has ls 2 [(0, .ref (ad 0 0)), (1, .int p1)] := hl
  unfold wpX6_words at h
  refine lv_aload_n hx hb dX6_words_0 rfl (lv_at hl 0 rfl) ?_
  refine lv_iload_n hx hb dX6_words_1 rfl (lv_at hl 1 rfl) ?_
  refine x_Vv (rest := []) (As := [.int p1]) ⟨hx, hb, hml, hown, hts⟩ hE hz hS hW (mtX6_needProvision l hlt z G ad σ ν ρ lo p1 _ _ h) (cwV 1 hts gX6_words_X6_needProvision rfl rfl rfl (by decide +kernel) ⟨Nat.le_of_ble_eq_true rfl, Nat.le_of_ble_eq_true rfl⟩) (r_recv hE hW 0 0 rfl (ci := 9) rfl rfl) rfl hl.1 rfl (Nat.le_of_ble_eq_true rfl) dX6_words_2 ⟨Nat.le_of_ble_eq_true rfl, Nat.le_of_ble_eq_true rfl⟩ hlocks htb (fun E S1 q => q) ⟨Nat.le_of_ble_eq_true rfl, Nat.le_of_ble_eq_true rfl⟩ (fun S1 H locs hp hW hS => ?_)
  obtain ⟨rfl, h⟩ := hp
  refine lv_aload_n hx hb dX6_words_5 rfl (lv_at hl 0 rfl) ?_
  refine r_get (C := RX6) (T := TX6) (N := 8) (ci := 9) (fs := fl_0 ad ν ρ 0 (σ 0 0)) hx hb hts hown hE hW 0 0 rfl rfl rfl (fun w h => List.mem_cons_of_mem _ (List.mem_append_left _ (List.mem_append_left _ (List.mem_append_left _ (List.mem_append_right _ h))))) 1 (by decide) (List.mem_of_getElem? (i := 1) rfl) rfl (v := .ref (ad 1 0)) rfl dX6_words_6 ?_
  refine lv_iload_n hx hb dX6_words_9 rfl (lv_at hl 1 rfl) ?_
  refine k_Vi (rest := []) (As := [.int p1]) ⟨hx, hb, hml, hown, hts⟩ hE hz hS hW (mtX5_countOf l z G ad σ ν ρ lo 0 p1 _ h) (cwV 1 hts gX6_words_X5_countOf rfl rfl rfl (by decide +kernel) ⟨Nat.le_of_ble_eq_true rfl, Nat.le_of_ble_eq_true rfl⟩) (r_recv hE hW 1 0 (show 0 < 2 by decide) (ci := 8) rfl rfl) rfl hl.1 rfl (Nat.le_of_ble_eq_true rfl) dX6_words_10 ⟨Nat.le_of_ble_eq_true rfl, Nat.le_of_ble_eq_true rfl⟩ (fun r1 S1 H locs hp hW hS => ?_)
  obtain ⟨rfl, h⟩ := hp
  refine vx_ret ?_
  exact W.iret (v := r1) hx hb hr (fun t ht _ => ⟨⟨_, (σ, ν, ρ, lo), rfl, ⟨rfl, h⟩, WP.at9 ht hW⟩, hS.F ht⟩) hS.2.2 dX6_words_13 (hlocks := hlocks)
set_option maxHeartbeats 4000000 in
set_option maxRecDepth 100000 in
theorem mtX6_needWord (l : Launch) (hlt : l.stackTraces = false) (z : Nat) (G : Gl) (ad : Nat → Nat → Nat) (σ : SG) (ν : NU) (ρ : RH) (lo : Int64) (p1 : Int32) (p2 : Int32) (post : Prop) (px : String → Prop) (h : wpX6_needWord σ ν p1 p2 post px) : vx_Met l yX6_needWord wsX6_needWord ({ frames := 7, cells := 2, slots := 12, locals := 103 } : Room) (Pcs z G ad (σ, ν, ρ, lo) [.ref (ad 0 0), .int p1, .int p2]) (Qvs z G ad (fun S1 => S1 = (σ, ν, ρ, lo) ∧ post)) (XCs z G ad (fun E S1 => S1 = (σ, ν, ρ, lo) ∧ px E)) 2 12 (Az z) := by
  refine vx_ofW (cc := cX6_needWord) (maxL := 3) (ret := none) (by decide) rfl ?_
  intro p e s m args below meth c s₁ B hml htb hv
  obtain ⟨rfl, hz, hW, hE⟩ := hv
  have hx := B.exec
  have hb := B.bytes
  have hr := B.returns
  have hts := atoms_spec (ws := wsX6_needWord) B.pre
  have hown : s.vm.findClass RX6 = some m.cls := findClass_of_methodNamed B.named
  have hlocks := B.notSynchronized
  have X : Cxx p l e s m _ below meth c cX6_needWord none 3 RX6 wsX6_needWord z G := ⟨hx, hb, hr, hml, hown, hts, hlocks, hE, hz, htb, hlt⟩
  have hS : va_S (Az z) s.heap s.heap [] := va_S.rf
  have hl := lv_entry [.ref (ad 0 0), .int p1, .int p2] (n := 3) (Nat.le_of_ble_eq_true rfl)
  rw [lg_entry_eq]
  generalize (lg_sl [.ref (ad 0 0), .int p1, .int p2] ++ List.replicate (3 - (lg_sl [.ref (ad 0 0), .int p1, .int p2]).length) Slot.unset).toArray = ls at hl ⊢
  have hl : lv_has ls 3 [(0, .ref (ad 0 0)), (1, .int p1), (2, .int p2)] := hl
  unfold wpX6_needWord at h
  refine lv_aload_n hx hb dX6_needWord_0 rfl (lv_at hl 0 rfl) ?_
  refine lv_iload_n hx hb dX6_needWord_1 rfl (lv_at hl 1 rfl) ?_
  refine x_Vv (rest := []) (As := [.int p1]) ⟨hx, hb, hml, hown, hts⟩ hE hz hS hW (mtX6_needProvision l hlt z G ad σ ν ρ lo p1 _ _ h) (cwV 1 hts gX6_needWord_X6_needProvision rfl rfl rfl (by decide +kernel) ⟨Nat.le_of_ble_eq_true rfl, Nat.le_of_ble_eq_true rfl⟩) (r_recv hE hW 0 0 rfl (ci := 9) rfl rfl) rfl hl.1 rfl (Nat.le_of_ble_eq_true rfl) dX6_needWord_2 ⟨Nat.le_of_ble_eq_true rfl, Nat.le_of_ble_eq_true rfl⟩ hlocks htb (fun E S1 q => q) ⟨Nat.le_of_ble_eq_true rfl, Nat.le_of_ble_eq_true rfl⟩ (fun S1 H locs hp hW hS => ?_)
  obtain ⟨rfl, h⟩ := hp
  refine lv_iload_n hx hb dX6_needWord_5 rfl (lv_at hl 2 rfl) ?_
  refine r_if_lt hx hb rfl (tgt := 21) dX6_needWord_6 (by decide) (fun c1 => ?_) (fun c1 => ?_)
  · have h := ite_t c1 h
    exact r_throw (k := 17) (k2 := 4) (cls := "java/lang/IndexOutOfBoundsException") (ik := 189) (is := 191) (ic := 193) (text := "there is no such place") hx hb hlt hts hown hml hlocks htb hE hW hS hl.1 (List.mem_of_getElem? (i := 1) rfl) (List.mem_of_getElem? (i := 2) rfl) (fun w h => List.mem_cons_of_mem _ (List.mem_append_right _ h)) rfl rfl (by decide +kernel) (by decide +kernel) rfl dX6_needWord_21 dX6_needWord_24 dX6_needWord_25 dX6_needWord_27 dX6_needWord_30 (Nat.le_of_ble_eq_true rfl) (Nat.le_of_ble_eq_true rfl) (Nat.le_of_ble_eq_true rfl) (Nat.le_of_ble_eq_true rfl) (Nat.le_of_ble_eq_true rfl) (Nat.le_of_ble_eq_true rfl) ⟨rfl, h⟩
  · have h := ite_f c1 h
    refine lv_iload_n hx hb dX6_needWord_9 rfl (lv_at hl 2 rfl) ?_
    refine lv_aload_n hx hb dX6_needWord_10 rfl (lv_at hl 0 rfl) ?_
    refine r_get (C := RX6) (T := TX6) (N := 8) (ci := 9) (fs := fl_0 ad ν ρ 0 (σ 0 0)) hx hb hts hown hE hW 0 0 rfl rfl rfl (fun w h => List.mem_cons_of_mem _ (List.mem_append_left _ (List.mem_append_left _ (List.mem_append_left _ (List.mem_append_right _ h))))) 1 (by decide) (List.mem_of_getElem? (i := 3) rfl) rfl (v := .ref (ad 1 0)) rfl dX6_needWord_11 ?_
    refine lv_iload_n hx hb dX6_needWord_14 rfl (lv_at hl 1 rfl) ?_
    refine k_Vi (rest := [.int p2]) (As := [.int p1]) ⟨hx, hb, hml, hown, hts⟩ hE hz hS hW (mtX5_countOf l z G ad σ ν ρ lo 0 p1 _ h) (cwV 1 hts gX6_needWord_X5_countOf rfl rfl rfl (by decide +kernel) ⟨Nat.le_of_ble_eq_true rfl, Nat.le_of_ble_eq_true rfl⟩) (r_recv hE hW 1 0 (show 0 < 2 by decide) (ci := 8) rfl rfl) rfl hl.1 rfl (Nat.le_of_ble_eq_true rfl) dX6_needWord_15 ⟨Nat.le_of_ble_eq_true rfl, Nat.le_of_ble_eq_true rfl⟩ (fun r2 S1 H locs hp hW hS => ?_)
    obtain ⟨rfl, h⟩ := hp
    refine r_icmp_lt hx hb rfl rfl (tgt := 31) dX6_needWord_18 (by decide) (fun c3 => ?_) (fun c3 => ?_)
    · have h := ite_t c3 h
      refine W.widen (k := 2) (n := 12) (Nat.le_of_ble_eq_true rfl) (Nat.le_of_ble_eq_true rfl) ?_
      refine vx_ret ?_
      exact W.vret hx hb hr (fun t ht _ => ⟨⟨(σ, ν, ρ, lo), rfl, ⟨rfl, h⟩, WP.at9 ht hW⟩, hS.F ht⟩) hS.2.2 dX6_needWord_31 (hlocks := hlocks)
    · have h := ite_f c3 h
      exact r_throw (k := 17) (k2 := 4) (cls := "java/lang/IndexOutOfBoundsException") (ik := 189) (is := 191) (ic := 193) (text := "there is no such place") hx hb hlt hts hown hml hlocks htb hE hW hS hl.1 (List.mem_of_getElem? (i := 1) rfl) (List.mem_of_getElem? (i := 2) rfl) (fun w h => List.mem_cons_of_mem _ (List.mem_append_right _ h)) rfl rfl (by decide +kernel) (by decide +kernel) rfl dX6_needWord_21 dX6_needWord_24 dX6_needWord_25 dX6_needWord_27 dX6_needWord_30 (Nat.le_of_ble_eq_true rfl) (Nat.le_of_ble_eq_true rfl) (Nat.le_of_ble_eq_true rfl) (Nat.le_of_ble_eq_true rfl) (Nat.le_of_ble_eq_true rfl) (Nat.le_of_ble_eq_true rfl) ⟨rfl, h⟩
set_option maxHeartbeats 4000000 in
set_option maxRecDepth 100000 in
theorem mtX4_readAt (l : Launch) (z : Nat) (G : Gl) (ad : Nat → Nat → Nat) (σ : SG) (ν : NU) (ρ : RH) (lo : Int64) (o0 : Nat) (p1 : Int32) (post : Int32 → Prop) (h : wpX4_readAt σ ν o0 p1 post) : Met l yX4_readAt wsX4_readAt ({ frames := 0, cells := 0, slots := 0, locals := 0 } : Room) (Pcs z G ad (σ, ν, ρ, lo) [.ref (ad 2 o0), .int p1]) (Qis z G ad (fun r S1 => S1 = (σ, ν, ρ, lo) ∧ post r)) 0 0 (Az z) := by
  refine Met.ofW (cc := cX4_readAt) (maxL := 2) (ret := (some .int)) (by decide) rfl ?_
  intro p e s m args below meth c s₁ B hml hv
  obtain ⟨rfl, hz, hW, hE⟩ := hv
  have hx := B.exec
  have hb := B.bytes
  have hr := B.returns
  have hts := atoms_spec (ws := wsX4_readAt) B.pre
  have hown : s.vm.findClass RX4 = some m.cls := findClass_of_methodNamed B.named
  have hlocks := B.notSynchronized
  have X : Cx p l e s m _ below meth c cX4_readAt (some .int) 2 RX4 wsX4_readAt z G := ⟨hx, hb, hr, hml, hown, hts, hlocks, hE, hz⟩
  have hS : va_S (Az z) s.heap s.heap [] := va_S.rf
  have hl := lv_entry [.ref (ad 2 o0), .int p1] (n := 2) (Nat.le_of_ble_eq_true rfl)
  rw [lg_entry_eq]
  generalize (lg_sl [.ref (ad 2 o0), .int p1] ++ List.replicate (2 - (lg_sl [.ref (ad 2 o0), .int p1]).length) Slot.unset).toArray = ls at hl ⊢
  have hl : lv_has ls 2 [(0, .ref (ad 2 o0)), (1, .int p1)] := hl
  unfold wpX4_readAt at h
  refine lv_iload_n hx hb dX4_readAt_0 rfl (lv_at hl 1 rfl) ?_
  refine r_if_lt hx hb rfl (tgt := 30) dX4_readAt_1 (by decide) (fun c1 => ?_) (fun c1 => ?_)
  · have h := ite_t c1 h
    refine lv_iconst (v := (-1 : Int32)) hx hb dX4_readAt_30 (by decide) ?_
    exact W.iret (v := (-1 : Int32)) hx hb hr (fun t ht _ => ⟨⟨_, (σ, ν, ρ, lo), rfl, ⟨rfl, h⟩, WP.at9 ht hW⟩, hS.F ht⟩) hS.2.2 dX4_readAt_31 (hlocks := hlocks)
  · have h := ite_f c1 h
    refine lv_iload_n hx hb dX4_readAt_4 rfl (lv_at hl 1 rfl) ?_
    refine lv_aload_n hx hb dX4_readAt_5 rfl (lv_at hl 0 rfl) ?_
    obtain ⟨g2, h⟩ := h
    refine r_get (C := RX4) (T := TX4) (N := 3) (ci := 7) (fs := fl_2 ad ν ρ o0 (σ 2 o0)) hx hb hts hown hE hW 2 o0 g2 rfl rfl (fun w h => List.mem_cons_of_mem _ (List.mem_append_right _ h)) 2 (by decide) (List.mem_of_getElem? (i := 1) rfl) rfl (v := .int (σ 2 o0 2)) rfl dX4_readAt_6 ?_
    refine r_icmp_ge hx hb rfl rfl (tgt := 30) dX4_readAt_9 (by decide) (fun c3 => ?_) (fun c3 => ?_)
    · have h := ite_f c3 h
      refine lv_iconst (v := (-1 : Int32)) hx hb dX4_readAt_30 (by decide) ?_
      exact W.iret (v := (-1 : Int32)) hx hb hr (fun t ht _ => ⟨⟨_, (σ, ν, ρ, lo), rfl, ⟨rfl, h⟩, WP.at9 ht hW⟩, hS.F ht⟩) hS.2.2 dX4_readAt_31 (hlocks := hlocks)
    · have h := ite_t c3 h
      refine lv_iload_n hx hb dX4_readAt_12 rfl (lv_at hl 1 rfl) ?_
      refine lv_aload_n hx hb dX4_readAt_13 rfl (lv_at hl 0 rfl) ?_
      refine r_get (C := RX4) (T := TX4) (N := 3) (ci := 7) (fs := fl_2 ad ν ρ o0 (σ 2 o0)) hx hb hts hown hE hW 2 o0 g2 rfl rfl (fun w h => List.mem_cons_of_mem _ (List.mem_append_right _ h)) 0 (by decide) (List.mem_of_getElem? (i := 2) rfl) rfl (v := .ref (ad 20 o0)) rfl dX4_readAt_14 ?_
      refine r_alen hx hb hE hW 20 o0 g2 rfl 0 rfl (v := (12 : Int32)) rfl dX4_readAt_17 ?_
      refine r_icmp_ge hx hb rfl (show (12 : Int32).toInt = 12 by decide) (tgt := 30) dX4_readAt_18 (by decide) (fun c4 => ?_) (fun c4 => ?_)
      · have h := ite_f c4 h
        refine lv_iconst (v := (-1 : Int32)) hx hb dX4_readAt_30 (by decide) ?_
        exact W.iret (v := (-1 : Int32)) hx hb hr (fun t ht _ => ⟨⟨_, (σ, ν, ρ, lo), rfl, ⟨rfl, h⟩, WP.at9 ht hW⟩, hS.F ht⟩) hS.2.2 dX4_readAt_31 (hlocks := hlocks)
      · have h := ite_t c4 h
        refine lv_aload_n hx hb dX4_readAt_21 rfl (lv_at hl 0 rfl) ?_
        refine r_get (C := RX4) (T := TX4) (N := 3) (ci := 7) (fs := fl_2 ad ν ρ o0 (σ 2 o0)) hx hb hts hown hE hW 2 o0 g2 rfl rfl (fun w h => List.mem_cons_of_mem _ (List.mem_append_right _ h)) 0 (by decide) (List.mem_of_getElem? (i := 2) rfl) rfl (v := .ref (ad 20 o0)) rfl dX4_readAt_22 ?_
        refine lv_iload_n hx hb dX4_readAt_25 rfl (lv_at hl 1 rfl) ?_
        obtain ⟨b5, h⟩ := h
        refine r_iald hx hb hE hW 20 o0 g2 (n := 12) (f := σ 20 o0) rfl b5 (v := σ 20 o0 p1.toNatClampNeg) rfl dX4_readAt_26 ?_
        refine lv_goto (tgt := 31) hx hb dX4_readAt_27 (by decide) ?_
        exact W.iret (v := σ 20 o0 p1.toNatClampNeg) hx hb hr (fun t ht _ => ⟨⟨_, (σ, ν, ρ, lo), rfl, ⟨rfl, h⟩, WP.at9 ht hW⟩, hS.F ht⟩) hS.2.2 dX4_readAt_31 (hlocks := hlocks)
set_option maxHeartbeats 4000000 in
set_option maxRecDepth 100000 in
theorem mtX5_readAt (l : Launch) (z : Nat) (G : Gl) (ad : Nat → Nat → Nat) (σ : SG) (ν : NU) (ρ : RH) (lo : Int64) (o0 : Nat) (p1 : Int32) (p2 : Int32) (post : Int32 → Prop) (h : wpX5_readAt σ ν o0 p1 p2 post) : Met l yX5_readAt wsX5_readAt ({ frames := 2, cells := 0, slots := 0, locals := 42 } : Room) (Pcs z G ad (σ, ν, ρ, lo) [.ref (ad 1 o0), .int p1, .int p2]) (Qis z G ad (fun r S1 => S1 = (σ, ν, ρ, lo) ∧ post r)) 0 0 (Az z) := by
  refine Met.ofW (cc := cX5_readAt) (maxL := 3) (ret := (some .int)) (by decide) rfl ?_
  intro p e s m args below meth c s₁ B hml hv
  obtain ⟨rfl, hz, hW, hE⟩ := hv
  have hx := B.exec
  have hb := B.bytes
  have hr := B.returns
  have hts := atoms_spec (ws := wsX5_readAt) B.pre
  have hown : s.vm.findClass RX5 = some m.cls := findClass_of_methodNamed B.named
  have hlocks := B.notSynchronized
  have X : Cx p l e s m _ below meth c cX5_readAt (some .int) 3 RX5 wsX5_readAt z G := ⟨hx, hb, hr, hml, hown, hts, hlocks, hE, hz⟩
  have hS : va_S (Az z) s.heap s.heap [] := va_S.rf
  have hl := lv_entry [.ref (ad 1 o0), .int p1, .int p2] (n := 3) (Nat.le_of_ble_eq_true rfl)
  rw [lg_entry_eq]
  generalize (lg_sl [.ref (ad 1 o0), .int p1, .int p2] ++ List.replicate (3 - (lg_sl [.ref (ad 1 o0), .int p1, .int p2]).length) Slot.unset).toArray = ls at hl ⊢
  have hl : lv_has ls 3 [(0, .ref (ad 1 o0)), (1, .int p1), (2, .int p2)] := hl
  unfold wpX5_readAt at h
  refine lv_aload_n hx hb dX5_readAt_0 rfl (lv_at hl 0 rfl) ?_
  refine lv_iload_n hx hb dX5_readAt_1 rfl (lv_at hl 1 rfl) ?_
  obtain ⟨g1, h⟩ := h
  refine k_Vi (rest := []) (As := [.int p1]) ⟨hx, hb, hml, hown, hts⟩ hE hz hS hW (mtX5_isThere l z G ad σ ν ρ lo o0 p1 _ h) (cwV 1 hts gX5_readAt_X5_isThere rfl rfl rfl (by decide +kernel) ⟨Nat.le_of_ble_eq_true rfl, Nat.le_of_ble_eq_true rfl⟩) (r_recv hE hW 1 o0 g1 (ci := 8) rfl rfl) rfl hl.1 rfl (Nat.le_of_ble_eq_true rfl) dX5_readAt_2 ⟨Nat.le_of_ble_eq_true rfl, Nat.le_of_ble_eq_true rfl⟩ (fun r2 S1 H locs hp hW hS => ?_)
  obtain ⟨rfl, h⟩ := hp
  refine r_if_eq hx hb rfl (tgt := 21) dX5_readAt_5 (by decide) (fun c3 => ?_) (fun c3 => ?_)
  · have h := ite_t c3 h
    refine lv_iconst (v := (-1 : Int32)) hx hb dX5_readAt_21 (by decide) ?_
    exact W.iret (v := (-1 : Int32)) hx hb hr (fun t ht _ => ⟨⟨_, (σ, ν, ρ, lo), rfl, ⟨rfl, h⟩, WP.at9 ht hW⟩, hS.F ht⟩) hS.2.2 dX5_readAt_22 (hlocks := hlocks)
  · have h := ite_f c3 h
    refine lv_aload_n hx hb dX5_readAt_8 rfl (lv_at hl 0 rfl) ?_
    refine r_get (C := RX5) (T := TX5) (N := 13) (ci := 8) (fs := fl_1 ad ν ρ o0 (σ 1 o0)) hx hb hts hown hE hW 1 o0 g1 rfl rfl (fun w h => List.mem_cons_of_mem _ (List.mem_append_left _ (List.mem_append_right _ h))) 6 (by decide) (List.mem_of_getElem? (i := 1) rfl) rfl (v := .ref (ad 16 o0)) rfl dX5_readAt_9 ?_
    refine lv_iload_n hx hb dX5_readAt_12 rfl (lv_at hl 1 rfl) ?_
    obtain ⟨b4, h⟩ := h
    have b5 := vp_lt b4
    refine r_aldq hx hb hE hW 16 o0 g1 (n := 20) (f := fun i => some (ad 2 (21 * o0 + 1 + i))) rfl 3 rfl b4 (v := .ref (ad 2 (21 * o0 + 1 + p1.toNatClampNeg))) rfl dX5_readAt_13 ?_
    refine lv_iload_n hx hb dX5_readAt_14 rfl (lv_at hl 2 rfl) ?_
    refine k_Vi (rest := []) (As := [.int p2]) ⟨hx, hb, hml, hown, hts⟩ hE hz hS hW (mtX4_readAt l z G ad σ ν ρ lo (21 * o0 + 1 + p1.toNatClampNeg) p2 _ h) (cwV 1 hts gX5_readAt_X4_readAt rfl rfl rfl (by decide +kernel) ⟨Nat.le_of_ble_eq_true rfl, Nat.le_of_ble_eq_true rfl⟩) (r_recv hE hW 2 (21 * o0 + 1 + p1.toNatClampNeg) (show 21 * o0 + 1 + p1.toNatClampNeg < 42 by omega) (ci := 7) rfl rfl) rfl hl.1 rfl (Nat.le_of_ble_eq_true rfl) dX5_readAt_15 ⟨Nat.le_of_ble_eq_true rfl, Nat.le_of_ble_eq_true rfl⟩ (fun r6 S1 H locs hp hW hS => ?_)
    obtain ⟨rfl, h⟩ := hp
    refine lv_goto (tgt := 22) hx hb dX5_readAt_18 (by decide) ?_
    exact W.iret (v := r6) hx hb hr (fun t ht _ => ⟨⟨_, (σ, ν, ρ, lo), rfl, ⟨rfl, h⟩, WP.at9 ht hW⟩, hS.F ht⟩) hS.2.2 dX5_readAt_22 (hlocks := hlocks)
set_option maxHeartbeats 4000000 in
set_option maxRecDepth 100000 in
theorem mtX6_wordAt (l : Launch) (hlt : l.stackTraces = false) (z : Nat) (G : Gl) (ad : Nat → Nat → Nat) (σ : SG) (ν : NU) (ρ : RH) (lo : Int64) (p1 : Int32) (p2 : Int32) (post : Int32 → Prop) (px : String → Prop) (h : wpX6_wordAt σ ν p1 p2 post px) : vx_Met l yX6_wordAt wsX6_wordAt ({ frames := 8, cells := 2, slots := 12, locals := 125 } : Room) (Pcs z G ad (σ, ν, ρ, lo) [.ref (ad 0 0), .int p1, .int p2]) (Qis z G ad (fun r S1 => S1 = (σ, ν, ρ, lo) ∧ post r)) (XCs z G ad (fun E S1 => S1 = (σ, ν, ρ, lo) ∧ px E)) 2 12 (Az z) := by
  refine vx_ofW (cc := cX6_wordAt) (maxL := 3) (ret := (some .int)) (by decide) rfl ?_
  intro p e s m args below meth c s₁ B hml htb hv
  obtain ⟨rfl, hz, hW, hE⟩ := hv
  have hx := B.exec
  have hb := B.bytes
  have hr := B.returns
  have hts := atoms_spec (ws := wsX6_wordAt) B.pre
  have hown : s.vm.findClass RX6 = some m.cls := findClass_of_methodNamed B.named
  have hlocks := B.notSynchronized
  have X : Cxx p l e s m _ below meth c cX6_wordAt (some .int) 3 RX6 wsX6_wordAt z G := ⟨hx, hb, hr, hml, hown, hts, hlocks, hE, hz, htb, hlt⟩
  have hS : va_S (Az z) s.heap s.heap [] := va_S.rf
  have hl := lv_entry [.ref (ad 0 0), .int p1, .int p2] (n := 3) (Nat.le_of_ble_eq_true rfl)
  rw [lg_entry_eq]
  generalize (lg_sl [.ref (ad 0 0), .int p1, .int p2] ++ List.replicate (3 - (lg_sl [.ref (ad 0 0), .int p1, .int p2]).length) Slot.unset).toArray = ls at hl ⊢
  have hl : lv_has ls 3 [(0, .ref (ad 0 0)), (1, .int p1), (2, .int p2)] := hl
  unfold wpX6_wordAt at h
  refine lv_aload_n hx hb dX6_wordAt_0 rfl (lv_at hl 0 rfl) ?_
  refine lv_iload_n hx hb dX6_wordAt_1 rfl (lv_at hl 1 rfl) ?_
  refine lv_iload_n hx hb dX6_wordAt_2 rfl (lv_at hl 2 rfl) ?_
  refine x_Vv (rest := []) (As := [.int p1, .int p2]) ⟨hx, hb, hml, hown, hts⟩ hE hz hS hW (mtX6_needWord l hlt z G ad σ ν ρ lo p1 p2 _ _ h) (cwV 2 hts gX6_wordAt_X6_needWord rfl rfl rfl (by decide +kernel) ⟨Nat.le_of_ble_eq_true rfl, Nat.le_of_ble_eq_true rfl⟩) (r_recv hE hW 0 0 rfl (ci := 9) rfl rfl) rfl hl.1 rfl (Nat.le_of_ble_eq_true rfl) dX6_wordAt_3 ⟨Nat.le_of_ble_eq_true rfl, Nat.le_of_ble_eq_true rfl⟩ hlocks htb (fun E S1 q => q) ⟨Nat.le_of_ble_eq_true rfl, Nat.le_of_ble_eq_true rfl⟩ (fun S1 H locs hp hW hS => ?_)
  obtain ⟨rfl, h⟩ := hp
  refine lv_aload_n hx hb dX6_wordAt_6 rfl (lv_at hl 0 rfl) ?_
  refine r_get (C := RX6) (T := TX6) (N := 8) (ci := 9) (fs := fl_0 ad ν ρ 0 (σ 0 0)) hx hb hts hown hE hW 0 0 rfl rfl rfl (fun w h => List.mem_cons_of_mem _ (List.mem_append_left _ (List.mem_append_left _ (List.mem_append_left _ (List.mem_append_right _ h))))) 1 (by decide) (List.mem_of_getElem? (i := 1) rfl) rfl (v := .ref (ad 1 0)) rfl dX6_wordAt_7 ?_
  refine lv_iload_n hx hb dX6_wordAt_10 rfl (lv_at hl 1 rfl) ?_
  refine lv_iload_n hx hb dX6_wordAt_11 rfl (lv_at hl 2 rfl) ?_
  refine k_Vi (rest := []) (As := [.int p1, .int p2]) ⟨hx, hb, hml, hown, hts⟩ hE hz hS hW (mtX5_readAt l z G ad σ ν ρ lo 0 p1 p2 _ h) (cwV 2 hts gX6_wordAt_X5_readAt rfl rfl rfl (by decide +kernel) ⟨Nat.le_of_ble_eq_true rfl, Nat.le_of_ble_eq_true rfl⟩) (r_recv hE hW 1 0 (show 0 < 2 by decide) (ci := 8) rfl rfl) rfl hl.1 rfl (Nat.le_of_ble_eq_true rfl) dX6_wordAt_12 ⟨Nat.le_of_ble_eq_true rfl, Nat.le_of_ble_eq_true rfl⟩ (fun r1 S1 H locs hp hW hS => ?_)
  obtain ⟨rfl, h⟩ := hp
  refine vx_ret ?_
  exact W.iret (v := r1) hx hb hr (fun t ht _ => ⟨⟨_, (σ, ν, ρ, lo), rfl, ⟨rfl, h⟩, WP.at9 ht hW⟩, hS.F ht⟩) hS.2.2 dX6_wordAt_15 (hlocks := hlocks)
set_option maxHeartbeats 4000000 in
set_option maxRecDepth 100000 in
theorem mtX0_isOf (l : Launch) (z : Nat) (G : Gl) (ad : Nat → Nat → Nat) (σ : SG) (ν : NU) (ρ : RH) (lo : Int64) (o0 : Nat) (p1 : Int32) (post : Int32 → Prop) (h : wpX0_isOf σ ν o0 p1 post) : Met l yX0_isOf wsX0_isOf ({ frames := 0, cells := 0, slots := 0, locals := 0 } : Room) (Pcs z G ad (σ, ν, ρ, lo) [.ref (ad 3 o0), .int p1]) (Qis z G ad (fun r S1 => S1 = (σ, ν, ρ, lo) ∧ post r)) 0 0 (Az z) := by
  refine Met.ofW (cc := cX0_isOf) (maxL := 2) (ret := (some .boolean)) (by decide) rfl ?_
  intro p e s m args below meth c s₁ B hml hv
  obtain ⟨rfl, hz, hW, hE⟩ := hv
  have hx := B.exec
  have hb := B.bytes
  have hr := B.returns
  have hts := atoms_spec (ws := wsX0_isOf) B.pre
  have hown : s.vm.findClass RX0 = some m.cls := findClass_of_methodNamed B.named
  have hlocks := B.notSynchronized
  have X : Cx p l e s m _ below meth c cX0_isOf (some .boolean) 2 RX0 wsX0_isOf z G := ⟨hx, hb, hr, hml, hown, hts, hlocks, hE, hz⟩
  have hS : va_S (Az z) s.heap s.heap [] := va_S.rf
  have hl := lv_entry [.ref (ad 3 o0), .int p1] (n := 2) (Nat.le_of_ble_eq_true rfl)
  rw [lg_entry_eq]
  generalize (lg_sl [.ref (ad 3 o0), .int p1] ++ List.replicate (2 - (lg_sl [.ref (ad 3 o0), .int p1]).length) Slot.unset).toArray = ls at hl ⊢
  have hl : lv_has ls 2 [(0, .ref (ad 3 o0)), (1, .int p1)] := hl
  unfold wpX0_isOf at h
  refine lv_aload_n hx hb dX0_isOf_0 rfl (lv_at hl 0 rfl) ?_
  obtain ⟨g1, h⟩ := h
  refine r_get (C := RX0) (T := TX0) (N := 13) (ci := 3) (fs := fl_3 ad ν ρ o0 (σ 3 o0)) hx hb hts hown hE hW 3 o0 g1 rfl rfl (fun w h => List.mem_cons_of_mem _ (List.mem_append_right _ h)) 3 (by decide) (List.mem_of_getElem? (i := 1) rfl) rfl (v := .int (σ 3 o0 3)) rfl dX0_isOf_1 ?_
  refine lv_bipush (v := (7 : Int32)) hx hb dX0_isOf_4 (by decide) ?_
  refine r_icmp_eq hx hb rfl (show (7 : Int32).toInt = 7 by decide) (tgt := 21) dX0_isOf_6 (by decide) (fun c2 => ?_) (fun c2 => ?_)
  · have h := ite_t c2 h
    refine lv_iconst (v := (0 : Int32)) hx hb dX0_isOf_21 (by decide) ?_
    exact W.zret (v := (0 : Int32)) (ty := .boolean) hx hb hr rfl (fun t ht _ => ⟨⟨_, (σ, ν, ρ, lo), rfl, ⟨rfl, h⟩, WP.at9 ht hW⟩, hS.F ht⟩) hS.2.2 dX0_isOf_22 (hlocks := hlocks)
  · have h := ite_f c2 h
    refine lv_aload_n hx hb dX0_isOf_9 rfl (lv_at hl 0 rfl) ?_
    refine r_get (C := RX0) (T := TX0) (N := 13) (ci := 3) (fs := fl_3 ad ν ρ o0 (σ 3 o0)) hx hb hts hown hE hW 3 o0 g1 rfl rfl (fun w h => List.mem_cons_of_mem _ (List.mem_append_right _ h)) 4 (by decide) (List.mem_of_getElem? (i := 2) rfl) rfl (v := .int (σ 3 o0 4)) rfl dX0_isOf_10 ?_
    refine lv_iload_n hx hb dX0_isOf_13 rfl (lv_at hl 1 rfl) ?_
    refine r_icmp_ne hx hb rfl rfl (tgt := 21) dX0_isOf_14 (by decide) (fun c3 => ?_) (fun c3 => ?_)
    · have h := ite_f c3 h
      refine lv_iconst (v := (0 : Int32)) hx hb dX0_isOf_21 (by decide) ?_
      exact W.zret (v := (0 : Int32)) (ty := .boolean) hx hb hr rfl (fun t ht _ => ⟨⟨_, (σ, ν, ρ, lo), rfl, ⟨rfl, h⟩, WP.at9 ht hW⟩, hS.F ht⟩) hS.2.2 dX0_isOf_22 (hlocks := hlocks)
    · have h := ite_t c3 h
      refine lv_iconst (v := (1 : Int32)) hx hb dX0_isOf_17 (by decide) ?_
      refine lv_goto (tgt := 22) hx hb dX0_isOf_18 (by decide) ?_
      exact W.zret (v := (1 : Int32)) (ty := .boolean) hx hb hr rfl (fun t ht _ => ⟨⟨_, (σ, ν, ρ, lo), rfl, ⟨rfl, h⟩, WP.at9 ht hW⟩, hS.F ht⟩) hS.2.2 dX0_isOf_22 (hlocks := hlocks)
set_option maxHeartbeats 4000000 in
set_option maxRecDepth 100000 in
theorem mtX5_stateOf (l : Launch) (z : Nat) (G : Gl) (ad : Nat → Nat → Nat) (σ : SG) (ν : NU) (ρ : RH) (lo : Int64) (o0 : Nat) (p1 : Int32) (post : Int32 → Prop) (h : wpX5_stateOf σ ν o0 p1 post) : Met l yX5_stateOf wsX5_stateOf ({ frames := 0, cells := 0, slots := 0, locals := 0 } : Room) (Pcs z G ad (σ, ν, ρ, lo) [.ref (ad 1 o0), .int p1]) (Qis z G ad (fun r S1 => S1 = (σ, ν, ρ, lo) ∧ post r)) 0 0 (Az z) := by
  refine Met.ofW (cc := cX5_stateOf) (maxL := 2) (ret := (some .int)) (by decide) rfl ?_
  intro p e s m args below meth c s₁ B hml hv
  obtain ⟨rfl, hz, hW, hE⟩ := hv
  have hx := B.exec
  have hb := B.bytes
  have hr := B.returns
  have hts := atoms_spec (ws := wsX5_stateOf) B.pre
  have hown : s.vm.findClass RX5 = some m.cls := findClass_of_methodNamed B.named
  have hlocks := B.notSynchronized
  have X : Cx p l e s m _ below meth c cX5_stateOf (some .int) 2 RX5 wsX5_stateOf z G := ⟨hx, hb, hr, hml, hown, hts, hlocks, hE, hz⟩
  have hS : va_S (Az z) s.heap s.heap [] := va_S.rf
  have hl := lv_entry [.ref (ad 1 o0), .int p1] (n := 2) (Nat.le_of_ble_eq_true rfl)
  rw [lg_entry_eq]
  generalize (lg_sl [.ref (ad 1 o0), .int p1] ++ List.replicate (2 - (lg_sl [.ref (ad 1 o0), .int p1]).length) Slot.unset).toArray = ls at hl ⊢
  have hl : lv_has ls 2 [(0, .ref (ad 1 o0)), (1, .int p1)] := hl
  unfold wpX5_stateOf at h
  refine lv_iload_n hx hb dX5_stateOf_0 rfl (lv_at hl 1 rfl) ?_
  refine r_if_lt hx hb rfl (tgt := 22) dX5_stateOf_1 (by decide) (fun c1 => ?_) (fun c1 => ?_)
  · have h := ite_t c1 h
    refine lv_iconst (v := (0 : Int32)) hx hb dX5_stateOf_22 (by decide) ?_
    exact W.iret (v := (0 : Int32)) hx hb hr (fun t ht _ => ⟨⟨_, (σ, ν, ρ, lo), rfl, ⟨rfl, h⟩, WP.at9 ht hW⟩, hS.F ht⟩) hS.2.2 dX5_stateOf_23 (hlocks := hlocks)
  · have h := ite_f c1 h
    refine lv_iload_n hx hb dX5_stateOf_4 rfl (lv_at hl 1 rfl) ?_
    refine lv_aload_n hx hb dX5_stateOf_5 rfl (lv_at hl 0 rfl) ?_
    obtain ⟨g2, h⟩ := h
    refine r_get (C := RX5) (T := TX5) (N := 13) (ci := 8) (fs := fl_1 ad ν ρ o0 (σ 1 o0)) hx hb hts hown hE hW 1 o0 g2 rfl rfl (fun w h => List.mem_cons_of_mem _ (List.mem_append_right _ h)) 2 (by decide) (List.mem_of_getElem? (i := 1) rfl) rfl (v := .ref (ad 12 o0)) rfl dX5_stateOf_6 ?_
    refine r_alen hx hb hE hW 12 o0 g2 rfl 0 rfl (v := (40 : Int32)) rfl dX5_stateOf_9 ?_
    refine r_icmp_ge hx hb rfl (show (40 : Int32).toInt = 40 by decide) (tgt := 22) dX5_stateOf_10 (by decide) (fun c3 => ?_) (fun c3 => ?_)
    · have h := ite_f c3 h
      refine lv_iconst (v := (0 : Int32)) hx hb dX5_stateOf_22 (by decide) ?_
      exact W.iret (v := (0 : Int32)) hx hb hr (fun t ht _ => ⟨⟨_, (σ, ν, ρ, lo), rfl, ⟨rfl, h⟩, WP.at9 ht hW⟩, hS.F ht⟩) hS.2.2 dX5_stateOf_23 (hlocks := hlocks)
    · have h := ite_t c3 h
      refine lv_aload_n hx hb dX5_stateOf_13 rfl (lv_at hl 0 rfl) ?_
      refine r_get (C := RX5) (T := TX5) (N := 13) (ci := 8) (fs := fl_1 ad ν ρ o0 (σ 1 o0)) hx hb hts hown hE hW 1 o0 g2 rfl rfl (fun w h => List.mem_cons_of_mem _ (List.mem_append_right _ h)) 2 (by decide) (List.mem_of_getElem? (i := 1) rfl) rfl (v := .ref (ad 12 o0)) rfl dX5_stateOf_14 ?_
      refine lv_iload_n hx hb dX5_stateOf_17 rfl (lv_at hl 1 rfl) ?_
      obtain ⟨b4, h⟩ := h
      refine r_iald hx hb hE hW 12 o0 g2 (n := 40) (f := σ 12 o0) rfl b4 (v := σ 12 o0 p1.toNatClampNeg) rfl dX5_stateOf_18 ?_
      refine lv_goto (tgt := 23) hx hb dX5_stateOf_19 (by decide) ?_
      exact W.iret (v := σ 12 o0 p1.toNatClampNeg) hx hb hr (fun t ht _ => ⟨⟨_, (σ, ν, ρ, lo), rfl, ⟨rfl, h⟩, WP.at9 ht hW⟩, hS.F ht⟩) hS.2.2 dX5_stateOf_23 (hlocks := hlocks)
