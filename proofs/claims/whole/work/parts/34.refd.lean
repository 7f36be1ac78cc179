/-! method by method: what it asks of the state (wp), and its walk. Written by wip/gen/gen.py -/
set_option maxHeartbeats 4000000 in
set_option maxRecDepth 100000 in
theorem tX7_refers_87 {p : Program} {l : Launch} {e : Env} {s : State} {m : MethodId} {args : Array Value} {below : List Frame} {meth : Method} {c : Code} {z : Nat} {G : Gl} {ad : Nat → Nat → Nat} {σ : SG} {ν : NU} {ρ : RH} {lo : Int64} (X : Cx p l e s m args below meth c cX7_refers (some .int) 5 RX7 wsX7_refers z G) (p1 : Int32) (p2 : Int32)  (post : Int32 → RH → Prop) : ∀ (a3 : RH) (x4 : Int32) {H : Heap} {locs : List Loc} {ls : Array Slot}, WP z G ad (σ, ν, a3, lo) H → va_S (Az z) s.heap H locs → lv_has ls 5 [(0, .ref (ad 30 0)), (4, .int x4)] → jX7_refers_87 p1 p2 post a3 x4 → W p l e ({ frames := 7, cells := 0, slots := 0, locals := 172 } : Room) s m args below meth c H locs 0 0 (MQ below (Qis z G ad (fun r S1 => ∃ t : RH, S1 = (σ, ν, t, lo) ∧ post r t)) args s 0 0 (Az z)) (F0 m 87 ls []) := by
  obtain ⟨hx, hb, hr, hml, hown, hts, hlocks, hE, hz⟩ := id X
  intro a3 x4 H locs ls hW hS hl h
  unfold jX7_refers_87 at h
  refine lv_iload hx hb dX7_refers_87 (lv_at hl 1 rfl) ?_
  refine lv_aload_n hx hb dX7_refers_89 rfl (lv_at hl 0 rfl) ?_
  refine r_get (C := RX7) (T := TX7) (N := 49) (ci := 10) (fs := fl_30 ad ν a3 0 (σ 30 0)) hx hb hts hown hE hW 30 0 rfl rfl rfl (fun w h => List.mem_cons_of_mem _ (List.mem_append_right _ h)) 12 (by decide) (List.mem_of_getElem? (i := 5) rfl) rfl (v := .int (a3 12 0)) rfl dX7_refers_90 ?_
  refine r_icmp_ge hx hb rfl rfl (tgt := 116) dX7_refers_93 (by decide) (fun c8 => ?_) (fun c8 => ?_)
  · have h := ite_f c8 h
    refine lv_iconst (v := (-1 : Int32)) hx hb dX7_refers_116 (by decide) ?_
    exact W.iret (v := (-1 : Int32)) hx hb hr (fun t ht _ => ⟨⟨_, (σ, ν, a3, lo), rfl, ⟨_, rfl, h⟩, WP.at9 ht hW⟩, hS.F ht⟩) hS.2.2 dX7_refers_117 (hlocks := hlocks)
  · have h := ite_t c8 h
    refine lv_aload_n hx hb dX7_refers_96 rfl (lv_at hl 0 rfl) ?_
    refine r_get (C := RX7) (T := TX7) (N := 49) (ci := 10) (fs := fl_30 ad ν a3 0 (σ 30 0)) hx hb hts hown hE hW 30 0 rfl rfl rfl (fun w h => List.mem_cons_of_mem _ (List.mem_append_right _ h)) 37 (by decide) (List.mem_of_getElem? (i := 6) rfl) rfl (v := .ref (ad 137 0)) rfl dX7_refers_97 ?_
    refine lv_iload hx hb dX7_refers_100 (lv_at hl 1 rfl) ?_
    obtain ⟨b9, h⟩ := h
    refine r_zald hx hb hE hW 137 0 ⟨rfl, by decide, by decide⟩ (n := 20) (f := a3 37) rfl b9 (v := a3 37 x4.toNatClampNeg) rfl dX7_refers_102 ?_
    refine r_if_eq hx hb rfl (tgt := 116) dX7_refers_103 (by decide) (fun c10 => ?_) (fun c10 => ?_)
    · have h := ite_t c10 h
      refine lv_iconst (v := (-1 : Int32)) hx hb dX7_refers_116 (by decide) ?_
      exact W.iret (v := (-1 : Int32)) hx hb hr (fun t ht _ => ⟨⟨_, (σ, ν, a3, lo), rfl, ⟨_, rfl, h⟩, WP.at9 ht hW⟩, hS.F ht⟩) hS.2.2 dX7_refers_117 (hlocks := hlocks)
    · have h := ite_f c10 h
      refine lv_aload_n hx hb dX7_refers_106 rfl (lv_at hl 0 rfl) ?_
      refine r_get (C := RX7) (T := TX7) (N := 49) (ci := 10) (fs := fl_30 ad ν a3 0 (σ 30 0)) hx hb hts hown hE hW 30 0 rfl rfl rfl (fun w h => List.mem_cons_of_mem _ (List.mem_append_right _ h)) 38 (by decide) (List.mem_of_getElem? (i := 7) rfl) rfl (v := .ref (ad 138 0)) rfl dX7_refers_107 ?_
      refine lv_iload hx hb dX7_refers_110 (lv_at hl 1 rfl) ?_
      obtain ⟨b11, h⟩ := h
      refine r_iald hx hb hE hW 138 0 ⟨rfl, by decide, by decide⟩ (n := 20) (f := a3 38) rfl b11 (v := a3 38 x4.toNatClampNeg) rfl dX7_refers_112 ?_
      refine lv_goto (tgt := 117) hx hb dX7_refers_113 (by decide) ?_
      exact W.iret (v := a3 38 x4.toNatClampNeg) hx hb hr (fun t ht _ => ⟨⟨_, (σ, ν, a3, lo), rfl, ⟨_, rfl, h⟩, WP.at9 ht hW⟩, hS.F ht⟩) hS.2.2 dX7_refers_117 (hlocks := hlocks)
set_option maxHeartbeats 4000000 in
set_option maxRecDepth 100000 in
theorem tX7_refers_48 {p : Program} {l : Launch} {e : Env} {s : State} {m : MethodId} {args : Array Value} {below : List Frame} {meth : Method} {c : Code} {z : Nat} {G : Gl} {ad : Nat → Nat → Nat} {σ : SG} {ν : NU} {ρ : RH} {lo : Int64} (X : Cx p l e s m args below meth c cX7_refers (some .int) 5 RX7 wsX7_refers z G) (p1 : Int32) (p2 : Int32)  (post : Int32 → RH → Prop) : ∀ (a3 : RH) (x3 : Int32) (y0 : Int32) {H : Heap} {locs : List Loc} {ls : Array Slot}, WP z G ad (σ, ν, a3, lo) H → va_S (Az z) s.heap H locs → lv_has ls 5 [(0, .ref (ad 30 0)), (1, .int p1), (2, .int p2), (3, .int x3)] → jX7_refers_48 p1 p2 post a3 x3 y0 → W p l e ({ frames := 7, cells := 0, slots := 0, locals := 172 } : Room) s m args below meth c H locs 0 0 (MQ below (Qis z G ad (fun r S1 => ∃ t : RH, S1 = (σ, ν, t, lo) ∧ post r t)) args s 0 0 (Az z)) (F0 m 48 ls [.int y0]) := by
  obtain ⟨hx, hb, hr, hml, hown, hts, hlocks, hE, hz⟩ := id X
  intro a3 x3 y0 H locs ls hW hS hl h
  unfold jX7_refers_48 at h
  refine lv_istore (lv' := [(4, .int y0), (0, .ref (ad 30 0)), (1, .int p1), (2, .int p2), (3, .int x3)]) hx hb dX7_refers_48 hl (by decide) rfl (fun ls hl => ?_)
  refine lv_iload_n hx hb dX7_refers_50 rfl (lv_at hl 4 rfl) ?_
  refine lv_bipush (v := (119 : Int32)) hx hb dX7_refers_51 (by decide) ?_
  refine r_icmp_le hx hb rfl (show (119 : Int32).toInt = 119 by decide) (tgt := 87) dX7_refers_53 (by decide) (fun c7 => ?_) (fun c7 => ?_)
  · have h := ite_t c7 h
    exact tX7_refers_87 (σ := σ) (ρ := ρ) X p1 p2 post  a3 y0 hW hS (lv_sub hl [1, 0] rfl) h
  · have h := ite_f c7 h
    refine lv_aload_n hx hb dX7_refers_56 rfl (lv_at hl 1 rfl) ?_
    refine lv_aload_n hx hb dX7_refers_57 rfl (lv_at hl 1 rfl) ?_
    refine lv_aload_n hx hb dX7_refers_58 rfl (lv_at hl 1 rfl) ?_
    refine r_get (C := RX7) (T := TX7) (N := 49) (ci := 10) (fs := fl_30 ad ν a3 0 (σ 30 0)) hx hb hts hown hE hW 30 0 rfl rfl rfl (fun w h => List.mem_cons_of_mem _ (List.mem_append_right _ h)) 42 (by decide) (List.mem_of_getElem? (i := 2) rfl) rfl (v := .ref (ad 142 0)) rfl dX7_refers_59 ?_
    refine lv_bipush (v := (12 : Int32)) hx hb dX7_refers_62 (by decide) ?_
    refine lv_iload_n hx hb dX7_refers_64 rfl (lv_at hl 2 rfl) ?_
    refine lv_imul hx hb dX7_refers_65 ?_
    refine lv_iload_n hx hb dX7_refers_66 rfl (lv_at hl 3 rfl) ?_
    refine lv_iadd hx hb dX7_refers_67 ?_
    obtain ⟨b12, h⟩ := h
    refine r_iald hx hb hE hW 142 0 ⟨rfl, by decide, by decide⟩ (n := 240) (f := a3 42) rfl b12 (v := a3 42 ((((12 : Int32)) * p1) + p2).toNatClampNeg) rfl dX7_refers_68 ?_
    refine lv_aload_n hx hb dX7_refers_69 rfl (lv_at hl 1 rfl) ?_
    refine r_get (C := RX7) (T := TX7) (N := 49) (ci := 10) (fs := fl_30 ad ν a3 0 (σ 30 0)) hx hb hts hown hE hW 30 0 rfl rfl rfl (fun w h => List.mem_cons_of_mem _ (List.mem_append_right _ h)) 34 (by decide) (List.mem_of_getElem? (i := 3) rfl) rfl (v := .int (a3 34 0)) rfl dX7_refers_70 ?_
    refine k_Vi (rest := [.ref (ad 30 0)]) (As := [.int (a3 42 ((((12 : Int32)) * p1) + p2).toNatClampNeg), .int (a3 34 0)]) ⟨hx, hb, hml, hown, hts⟩ hE hz hS hW (mtX7_commencesBy l z G ad σ ν a3 lo (a3 42 ((((12 : Int32)) * p1) + p2).toNatClampNeg) (a3 34 0) _ h) (cwV 2 hts gX7_refers_X7_commencesBy rfl rfl rfl (by decide +kernel) ⟨Nat.le_of_ble_eq_true rfl, Nat.le_of_ble_eq_true rfl⟩) (r_recv hE hW 30 0 rfl (ci := 10) rfl rfl) rfl hl.1 rfl (Nat.le_of_ble_eq_true rfl) dX7_refers_73 ⟨Nat.le_of_ble_eq_true rfl, Nat.le_of_ble_eq_true rfl⟩ (fun r13 S1 H locs hp hW hS => ?_)
    obtain ⟨rfl, h⟩ := hp
    refine lv_aload_n hx hb dX7_refers_76 rfl (lv_at hl 1 rfl) ?_
    refine r_get (C := RX7) (T := TX7) (N := 49) (ci := 10) (fs := fl_30 ad ν a3 0 (σ 30 0)) hx hb hts hown hE hW 30 0 rfl rfl rfl (fun w h => List.mem_cons_of_mem _ (List.mem_append_right _ h)) 34 (by decide) (List.mem_of_getElem? (i := 3) rfl) rfl (v := .int (a3 34 0)) rfl dX7_refers_77 ?_
    refine lv_aload_n hx hb dX7_refers_80 rfl (lv_at hl 1 rfl) ?_
    refine r_get (C := RX7) (T := TX7) (N := 49) (ci := 10) (fs := fl_30 ad ν a3 0 (σ 30 0)) hx hb hts hown hE hW 30 0 rfl rfl rfl (fun w h => List.mem_cons_of_mem _ (List.mem_append_right _ h)) 35 (by decide) (List.mem_of_getElem? (i := 4) rfl) rfl (v := .int (a3 35 0)) rfl dX7_refers_81 ?_
    refine k_Vv (rest := []) (As := [.int r13, .int (a3 34 0), .int (a3 35 0)]) ⟨hx, hb, hml, hown, hts⟩ hE hz hS hW (mtX7_views l z G ad σ ν a3 lo r13 (a3 34 0) (a3 35 0) _ h) (cwV 3 hts gX7_refers_X7_views rfl rfl rfl (by decide +kernel) ⟨Nat.le_of_ble_eq_true rfl, Nat.le_of_ble_eq_true rfl⟩) (r_recv hE hW 30 0 rfl (ci := 10) rfl rfl) rfl hl.1 rfl (Nat.le_of_ble_eq_true rfl) dX7_refers_84 ⟨Nat.le_of_ble_eq_true rfl, Nat.le_of_ble_eq_true rfl⟩ (fun S1 H locs hp hW hS => ?_)
    obtain ⟨t14, rfl, h⟩ := hp
    exact tX7_refers_87 (σ := σ) (ρ := ρ) X p1 p2 post  t14 y0 hW hS (lv_sub hl [1, 0] rfl) h
set_option maxHeartbeats 4000000 in
set_option maxRecDepth 100000 in
theorem mtX7_refers (l : Launch) (z : Nat) (G : Gl) (ad : Nat → Nat → Nat) (σ : SG) (ν : NU) (ρ : RH) (lo : Int64) (p1 : Int32) (p2 : Int32) (post : Int32 → RH → Prop) (h : wpX7_refers ρ p1 p2 post) : Met l yX7_refers wsX7_refers ({ frames := 7, cells := 0, slots := 0, locals := 172 } : Room) (Pcs z G ad (σ, ν, ρ, lo) [.ref (ad 30 0), .int p1, .int p2]) (Qis z G ad (fun r S1 => ∃ t : RH, S1 = (σ, ν, t, lo) ∧ post r t)) 0 0 (Az z) := by
  refine Met.ofW (cc := cX7_refers) (maxL := 5) (ret := (some .int)) (by decide) rfl ?_
  intro p e s m args below meth c s₁ B hml hv
  obtain ⟨rfl, hz, hW, hE⟩ := hv
  have hx := B.exec
  have hb := B.bytes
  have hr := B.returns
  have hts := atoms_spec (ws := wsX7_refers) B.pre
  have hown : s.vm.findClass RX7 = some m.cls := findClass_of_methodNamed B.named
  have hlocks := B.notSynchronized
  have X : Cx p l e s m _ below meth c cX7_refers (some .int) 5 RX7 wsX7_refers z G := ⟨hx, hb, hr, hml, hown, hts, hlocks, hE, hz⟩
  have hS : va_S (Az z) s.heap s.heap [] := va_S.rf
  have hl := lv_entry [.ref (ad 30 0), .int p1, .int p2] (n := 5) (Nat.le_of_ble_eq_true rfl)
  rw [lg_entry_eq]
  generalize (lg_sl [.ref (ad 30 0), .int p1, .int p2] ++ List.replicate (5 - (lg_sl [.ref (ad 30 0), .int p1, .int p2]).length) Slot.unset).toArray = ls at hl ⊢
  have hl : lv_has ls 5 [(0, .ref (ad 30 0)), (1, .int p1), (2, .int p2)] := hl
  unfold wpX7_refers at h
  refine lv_aload_n hx hb dX7_refers_0 rfl (lv_at hl 0 rfl) ?_
  refine lv_iload_n hx hb dX7_refers_1 rfl (lv_at hl 1 rfl) ?_
  refine lv_iload_n hx hb dX7_refers_2 rfl (lv_at hl 2 rfl) ?_
  refine k_Vi (rest := []) (As := [.int p1, .int p2]) ⟨hx, hb, hml, hown, hts⟩ hE hz hS hW (mtX7_asksPlace l z G ad σ ν ρ lo p1 p2 _ h) (cwV 2 hts gX7_refers_X7_asksPlace rfl rfl rfl (by decide +kernel) ⟨Nat.le_of_ble_eq_true rfl, Nat.le_of_ble_eq_true rfl⟩) (r_recv hE hW 30 0 rfl (ci := 10) rfl rfl) rfl hl.1 rfl (Nat.le_of_ble_eq_true rfl) dX7_refers_3 ⟨Nat.le_of_ble_eq_true rfl, Nat.le_of_ble_eq_true rfl⟩ (fun r1 S1 H locs hp hW hS => ?_)
  obtain ⟨t2, rfl, h⟩ := hp
  refine r_if_ne hx hb rfl (tgt := 11) dX7_refers_6 (by decide) (fun c3 => ?_) (fun c3 => ?_)
  · have h := ite_f c3 h
    refine lv_aload_n hx hb dX7_refers_11 rfl (lv_at hl 0 rfl) ?_
    refine r_get (C := RX7) (T := TX7) (N := 49) (ci := 10) (fs := fl_30 ad ν t2 0 (σ 30 0)) hx hb hts hown hE hW 30 0 rfl rfl rfl (fun w h => List.mem_cons_of_mem _ (List.mem_append_right _ h)) 41 (by decide) (List.mem_of_getElem? (i := 1) rfl) rfl (v := .ref (ad 141 0)) rfl dX7_refers_12 ?_
    refine lv_bipush (v := (12 : Int32)) hx hb dX7_refers_15 (by decide) ?_
    refine lv_iload_n hx hb dX7_refers_17 rfl (lv_at hl 1 rfl) ?_
    refine lv_imul hx hb dX7_refers_18 ?_
    refine lv_iload_n hx hb dX7_refers_19 rfl (lv_at hl 2 rfl) ?_
    refine lv_iadd hx hb dX7_refers_20 ?_
    obtain ⟨b4, h⟩ := h
    refine r_iald hx hb hE hW 141 0 ⟨rfl, by decide, by decide⟩ (n := 240) (f := t2 41) rfl b4 (v := t2 41 ((((12 : Int32)) * p1) + p2).toNatClampNeg) rfl dX7_refers_21 ?_
    refine lv_istore_n (lv' := [(3, .int (t2 41 ((((12 : Int32)) * p1) + p2).toNatClampNeg)), (0, .ref (ad 30 0)), (1, .int p1), (2, .int p2)]) hx hb dX7_refers_22 rfl hl (by decide) rfl (fun ls hl => ?_)
    refine lv_iload_n hx hb dX7_refers_23 rfl (lv_at hl 0 rfl) ?_
    refine lv_bipush (v := (100 : Int32)) hx hb dX7_refers_24 (by decide) ?_
    refine r_icmp_ge hx hb rfl (show (100 : Int32).toInt = 100 by decide) (tgt := 31) dX7_refers_26 (by decide) (fun c5 => ?_) (fun c5 => ?_)
    · have h := ite_f c5 h
      refine lv_iload_n hx hb dX7_refers_31 rfl (lv_at hl 0 rfl) ?_
      refine lv_bipush (v := (120 : Int32)) hx hb dX7_refers_32 (by decide) ?_
      refine r_icmp_ge hx hb rfl (show (120 : Int32).toInt = 120 by decide) (tgt := 44) dX7_refers_34 (by decide) (fun c6 => ?_) (fun c6 => ?_)
      · have h := ite_f c6 h
        refine lv_iload_n hx hb dX7_refers_44 rfl (lv_at hl 0 rfl) ?_
        refine lv_bipush (v := (120 : Int32)) hx hb dX7_refers_45 (by decide) ?_
        refine lv_isub hx hb dX7_refers_47 ?_
        exact tX7_refers_48 (σ := σ) (ρ := ρ) X p1 p2 post  t2 (t2 41 ((((12 : Int32)) * p1) + p2).toNatClampNeg) ((t2 41 ((((12 : Int32)) * p1) + p2).toNatClampNeg) - ((120 : Int32))) hW hS (lv_sub hl [1, 2, 3, 0] rfl) h
      · have h := ite_t c6 h
        refine lv_iload_n hx hb dX7_refers_37 rfl (lv_at hl 0 rfl) ?_
        refine lv_bipush (v := (100 : Int32)) hx hb dX7_refers_38 (by decide) ?_
        refine lv_isub hx hb dX7_refers_40 ?_
        refine lv_goto (tgt := 48) hx hb dX7_refers_41 (by decide) ?_
        exact tX7_refers_48 (σ := σ) (ρ := ρ) X p1 p2 post  t2 (t2 41 ((((12 : Int32)) * p1) + p2).toNatClampNeg) ((t2 41 ((((12 : Int32)) * p1) + p2).toNatClampNeg) - ((100 : Int32))) hW hS (lv_sub hl [1, 2, 3, 0] rfl) h
    · have h := ite_t c5 h
      refine lv_iconst (v := (-1 : Int32)) hx hb dX7_refers_29 (by decide) ?_
      exact W.iret (v := (-1 : Int32)) hx hb hr (fun t ht _ => ⟨⟨_, (σ, ν, t2, lo), rfl, ⟨_, rfl, h⟩, WP.at9 ht hW⟩, hS.F ht⟩) hS.2.2 dX7_refers_30 (hlocks := hlocks)
  · have h := ite_t c3 h
    refine lv_iconst (v := (0 : Int32)) hx hb dX7_refers_9 (by decide) ?_
    exact W.iret (v := (0 : Int32)) hx hb hr (fun t ht _ => ⟨⟨_, (σ, ν, t2, lo), rfl, ⟨_, rfl, h⟩, WP.at9 ht hW⟩, hS.F ht⟩) hS.2.2 dX7_refers_10 (hlocks := hlocks)
set_option maxHeartbeats 4000000 in
set_option maxRecDepth 100000 in
theorem tX7_state_18 {p : Program} {l : Launch} {e : Env} {s : State} {m : MethodId} {args : Array Value} {below : List Frame} {meth : Method} {c : Code} {z : Nat} {G : Gl} {ad : Nat → Nat → Nat} {σ : SG} {ν : NU} {ρ : RH} {lo : Int64} (X : Cx p l e s m args below meth c cX7_state (some .int) 2 RX7 wsX7_state z G) (p1 : Int32)  (post : Int32 → RH → Prop) : ∀ (a3 : RH) (y0 : Nat) (y1 : Int32) {H : Heap} {locs : List Loc} {ls : Array Slot}, WP z G ad (σ, ν, a3, lo) H → va_S (Az z) s.heap H locs → lv_has ls 2 [(0, .ref (ad 30 0)), (1, .int p1)] → jX7_state_18 p1 post a3 y0 y1 → W p l e ({ frames := 6, cells := 0, slots := 0, locals := 150 } : Room) s m args below meth c H locs 0 0 (MQ below (Qis z G ad (fun r S1 => ∃ t : RH, S1 = (σ, ν, t, lo) ∧ post r t)) args s 0 0 (Az z)) (F0 m 18 ls [.int y1, .ref (ad 30 0)]) := by
  obtain ⟨hx, hb, hr, hml, hown, hts, hlocks, hE, hz⟩ := id X
  intro a3 y0 y1 H locs ls hW hS hl h
  unfold jX7_state_18 at h
  refine k_Vi (rest := []) (As := [.int y1]) ⟨hx, hb, hml, hown, hts⟩ hE hz hS hW (mtX7_goes l z G ad σ ν a3 lo y1 _ h) (cwV 1 hts gX7_state_X7_goes rfl rfl rfl (by decide +kernel) ⟨Nat.le_of_ble_eq_true rfl, Nat.le_of_ble_eq_true rfl⟩) (r_recv hE hW 30 0 rfl (ci := 10) rfl rfl) rfl hl.1 rfl (Nat.le_of_ble_eq_true rfl) dX7_state_18 ⟨Nat.le_of_ble_eq_true rfl, Nat.le_of_ble_eq_true rfl⟩ (fun r4 S1 H locs hp hW hS => ?_)
  obtain ⟨t5, rfl, h⟩ := hp
  refine r_if_eq hx hb rfl (tgt := 33) dX7_state_21 (by decide) (fun c6 => ?_) (fun c6 => ?_)
  · have h := ite_t c6 h
    refine lv_iconst (v := (0 : Int32)) hx hb dX7_state_33 (by decide) ?_
    exact W.iret (v := (0 : Int32)) hx hb hr (fun t ht _ => ⟨⟨_, (σ, ν, t5, lo), rfl, ⟨_, rfl, h⟩, WP.at9 ht hW⟩, hS.F ht⟩) hS.2.2 dX7_state_34 (hlocks := hlocks)
  · have h := ite_f c6 h
    refine lv_aload_n hx hb dX7_state_24 rfl (lv_at hl 0 rfl) ?_
    refine r_get (C := RX7) (T := TX7) (N := 49) (ci := 10) (fs := fl_30 ad ν t5 0 (σ 30 0)) hx hb hts hown hE hW 30 0 rfl rfl rfl (fun w h => List.mem_cons_of_mem _ (List.mem_append_right _ h)) 36 (by decide) (List.mem_of_getElem? (i := 1) rfl) rfl (v := .ref (ad 136 0)) rfl dX7_state_25 ?_
    refine lv_iload_n hx hb dX7_state_28 rfl (lv_at hl 1 rfl) ?_
    obtain ⟨b7, h⟩ := h
    refine r_iald hx hb hE hW 136 0 ⟨rfl, by decide, by decide⟩ (n := 40) (f := t5 36) rfl b7 (v := t5 36 p1.toNatClampNeg) rfl dX7_state_29 ?_
    refine lv_goto (tgt := 34) hx hb dX7_state_30 (by decide) ?_
    exact W.iret (v := t5 36 p1.toNatClampNeg) hx hb hr (fun t ht _ => ⟨⟨_, (σ, ν, t5, lo), rfl, ⟨_, rfl, h⟩, WP.at9 ht hW⟩, hS.F ht⟩) hS.2.2 dX7_state_34 (hlocks := hlocks)
set_option maxHeartbeats 4000000 in
set_option maxRecDepth 100000 in
theorem mtX7_state (l : Launch) (z : Nat) (G : Gl) (ad : Nat → Nat → Nat) (σ : SG) (ν : NU) (ρ : RH) (lo : Int64) (p1 : Int32) (post : Int32 → RH → Prop) (h : wpX7_state ρ p1 post) : Met l yX7_state wsX7_state ({ frames := 6, cells := 0, slots := 0, locals := 150 } : Room) (Pcs z G ad (σ, ν, ρ, lo) [.ref (ad 30 0), .int p1]) (Qis z G ad (fun r S1 => ∃ t : RH, S1 = (σ, ν, t, lo) ∧ post r t)) 0 0 (Az z) := by
  refine Met.ofW (cc := cX7_state) (maxL := 2) (ret := (some .int)) (by decide) rfl ?_
  intro p e s m args below meth c s₁ B hml hv
  obtain ⟨rfl, hz, hW, hE⟩ := hv
  have hx := B.exec
  have hb := B.bytes
  have hr := B.returns
  have hts := atoms_spec (ws := wsX7_state) B.pre
  have hown : s.vm.findClass RX7 = some m.cls := findClass_of_methodNamed B.named
  have hlocks := B.notSynchronized
  have X : Cx p l e s m _ below meth c cX7_state (some .int) 2 RX7 wsX7_state z G := ⟨hx, hb, hr, hml, hown, hts, hlocks, hE, hz⟩
  have hS : va_S (Az z) s.heap s.heap [] := va_S.rf
  have hl := lv_entry [.ref (ad 30 0), .int p1] (n := 2) (Nat.le_of_ble_eq_true rfl)
  rw [lg_entry_eq]
  generalize (lg_sl [.ref (ad 30 0), .int p1] ++ List.replicate (2 - (lg_sl [.ref (ad 30 0), .int p1]).length) Slot.unset).toArray = ls at hl ⊢
  have hl : lv_has ls 2 [(0, .ref (ad 30 0)), (1, .int p1)] := hl
  unfold wpX7_state at h
  refine lv_aload_n hx hb dX7_state_0 rfl (lv_at hl 0 rfl) ?_
  refine k_Vv (rest := []) (As := []) ⟨hx, hb, hml, hown, hts⟩ hE hz hS hW (mtX7_laysView l z G ad σ ν ρ lo  _ h) (cwV 0 hts gX7_state_X7_laysView rfl rfl rfl (by decide +kernel) ⟨Nat.le_of_ble_eq_true rfl, Nat.le_of_ble_eq_true rfl⟩) (r_recv hE hW 30 0 rfl (ci := 10) rfl rfl) rfl hl.1 rfl (Nat.le_of_ble_eq_true rfl) dX7_state_1 ⟨Nat.le_of_ble_eq_true rfl, Nat.le_of_ble_eq_true rfl⟩ (fun S1 H locs hp hW hS => ?_)
  obtain ⟨t1, rfl, h⟩ := hp
  refine lv_aload_n hx hb dX7_state_4 rfl (lv_at hl 0 rfl) ?_
  refine lv_aload_n hx hb dX7_state_5 rfl (lv_at hl 0 rfl) ?_
  refine lv_iload_n hx hb dX7_state_6 rfl (lv_at hl 1 rfl) ?_
  refine k_Vi (rest := [.ref (ad 30 0)]) (As := [.int p1]) ⟨hx, hb, hml, hown, hts⟩ hE hz hS hW (mtX7_isInstruction l z G ad σ ν t1 lo p1 _ h) (cwV 1 hts gX7_state_X7_isInstruction rfl rfl rfl (by decide +kernel) ⟨Nat.le_of_ble_eq_true rfl, Nat.le_of_ble_eq_true rfl⟩) (r_recv hE hW 30 0 rfl (ci := 10) rfl rfl) rfl hl.1 rfl (Nat.le_of_ble_eq_true rfl) dX7_state_7 ⟨Nat.le_of_ble_eq_true rfl, Nat.le_of_ble_eq_true rfl⟩ (fun r2 S1 H locs hp hW hS => ?_)
  obtain ⟨rfl, h⟩ := hp
  refine r_if_eq hx hb rfl (tgt := 17) dX7_state_10 (by decide) (fun c3 => ?_) (fun c3 => ?_)
  · have h := ite_t c3 h
    refine lv_iconst (v := (1 : Int32)) hx hb dX7_state_17 (by decide) ?_
    exact tX7_state_18 (σ := σ) (ρ := ρ) X p1 post  t1 0 ((1 : Int32)) hW hS (lv_sub hl [0, 1] rfl) h
  · have h := ite_f c3 h
    refine lv_iconst (v := (0 : Int32)) hx hb dX7_state_13 (by decide) ?_
    refine lv_goto (tgt := 18) hx hb dX7_state_14 (by decide) ?_
    exact tX7_state_18 (σ := σ) (ρ := ρ) X p1 post  t1 0 ((0 : Int32)) hW hS (lv_sub hl [0, 1] rfl) h
set_option maxHeartbeats 4000000 in
set_option maxRecDepth 100000 in
theorem tX7_commences_14 {p : Program} {l : Launch} {e : Env} {s : State} {m : MethodId} {args : Array Value} {below : List Frame} {meth : Method} {c : Code} {z : Nat} {G : Gl} {ad : Nat → Nat → Nat} {σ : SG} {ν : NU} {ρ : RH} {lo : Int64} (X : Cx p l e s m args below meth c cX7_commences (some .int) 2 RX7 wsX7_commences z G) (p1 : Int32)  (post : Int32 → RH → Prop) : ∀ (a3 : RH) (y0 : Nat) (y1 : Int32) {H : Heap} {locs : List Loc} {ls : Array Slot}, WP z G ad (σ, ν, a3, lo) H → va_S (Az z) s.heap H locs → lv_has ls 2 [(0, .ref (ad 30 0)), (1, .int p1)] → jX7_commences_14 p1 post a3 y0 y1 → W p l e ({ frames := 2, cells := 0, slots := 0, locals := 45 } : Room) s m args below meth c H locs 0 0 (MQ below (Qis z G ad (fun r S1 => ∃ t : RH, S1 = (σ, ν, t, lo) ∧ post r t)) args s 0 0 (Az z)) (F0 m 14 ls [.int y1, .ref (ad 30 0)]) := by
  obtain ⟨hx, hb, hr, hml, hown, hts, hlocks, hE, hz⟩ := id X
  intro a3 y0 y1 H locs ls hW hS hl h
  unfold jX7_commences_14 at h
  refine k_Vi (rest := []) (As := [.int y1]) ⟨hx, hb, hml, hown, hts⟩ hE hz hS hW (mtX7_goes l z G ad σ ν a3 lo y1 _ h) (cwV 1 hts gX7_commences_X7_goes rfl rfl rfl (by decide +kernel) ⟨Nat.le_of_ble_eq_true rfl, Nat.le_of_ble_eq_true rfl⟩) (r_recv hE hW 30 0 rfl (ci := 10) rfl rfl) rfl hl.1 rfl (Nat.le_of_ble_eq_true rfl) dX7_commences_14 ⟨Nat.le_of_ble_eq_true rfl, Nat.le_of_ble_eq_true rfl⟩ (fun r3 S1 H locs hp hW hS => ?_)
  obtain ⟨t4, rfl, h⟩ := hp
  refine r_if_eq hx hb rfl (tgt := 32) dX7_commences_17 (by decide) (fun c5 => ?_) (fun c5 => ?_)
  · have h := ite_t c5 h
    refine lv_iconst (v := (0 : Int32)) hx hb dX7_commences_32 (by decide) ?_
    exact W.iret (v := (0 : Int32)) hx hb hr (fun t ht _ => ⟨⟨_, (σ, ν, t4, lo), rfl, ⟨_, rfl, h⟩, WP.at9 ht hW⟩, hS.F ht⟩) hS.2.2 dX7_commences_33 (hlocks := hlocks)
  · have h := ite_f c5 h
    refine lv_aload_n hx hb dX7_commences_20 rfl (lv_at hl 0 rfl) ?_
    refine lv_iload_n hx hb dX7_commences_21 rfl (lv_at hl 1 rfl) ?_
    refine lv_aload_n hx hb dX7_commences_22 rfl (lv_at hl 0 rfl) ?_
    refine r_get (C := RX7) (T := TX7) (N := 49) (ci := 10) (fs := fl_30 ad ν t4 0 (σ 30 0)) hx hb hts hown hE hW 30 0 rfl rfl rfl (fun w h => List.mem_cons_of_mem _ (List.mem_append_right _ h)) 34 (by decide) (List.mem_of_getElem? (i := 1) rfl) rfl (v := .int (t4 34 0)) rfl dX7_commences_23 ?_
    refine k_Vi (rest := []) (As := [.int p1, .int (t4 34 0)]) ⟨hx, hb, hml, hown, hts⟩ hE hz hS hW (mtX7_commencesBy l z G ad σ ν t4 lo p1 (t4 34 0) _ h) (cwV 2 hts gX7_commences_X7_commencesBy rfl rfl rfl (by decide +kernel) ⟨Nat.le_of_ble_eq_true rfl, Nat.le_of_ble_eq_true rfl⟩) (r_recv hE hW 30 0 rfl (ci := 10) rfl rfl) rfl hl.1 rfl (Nat.le_of_ble_eq_true rfl) dX7_commences_26 ⟨Nat.le_of_ble_eq_true rfl, Nat.le_of_ble_eq_true rfl⟩ (fun r6 S1 H locs hp hW hS => ?_)
    obtain ⟨rfl, h⟩ := hp
    refine lv_goto (tgt := 33) hx hb dX7_commences_29 (by decide) ?_
    exact W.iret (v := r6) hx hb hr (fun t ht _ => ⟨⟨_, (σ, ν, t4, lo), rfl, ⟨_, rfl, h⟩, WP.at9 ht hW⟩, hS.F ht⟩) hS.2.2 dX7_commences_33 (hlocks := hlocks)
set_option maxHeartbeats 4000000 in
set_option maxRecDepth 100000 in
theorem mtX7_commences (l : Launch) (z : Nat) (G : Gl) (ad : Nat → Nat → Nat) (σ : SG) (ν : NU) (ρ : RH) (lo : Int64) (p1 : Int32) (post : Int32 → RH → Prop) (h : wpX7_commences ρ p1 post) : Met l yX7_commences wsX7_commences ({ frames := 2, cells := 0, slots := 0, locals := 45 } : Room) (Pcs z G ad (σ, ν, ρ, lo) [.ref (ad 30 0), .int p1]) (Qis z G ad (fun r S1 => ∃ t : RH, S1 = (σ, ν, t, lo) ∧ post r t)) 0 0 (Az z) := by
  refine Met.ofW (cc := cX7_commences) (maxL := 2) (ret := (some .int)) (by decide) rfl ?_
  intro p e s m args below meth c s₁ B hml hv
  obtain ⟨rfl, hz, hW, hE⟩ := hv
  have hx := B.exec
  have hb := B.bytes
  have hr := B.returns
  have hts := atoms_spec (ws := wsX7_commences) B.pre
  have hown : s.vm.findClass RX7 = some m.cls := findClass_of_methodNamed B.named
  have hlocks := B.notSynchronized
  have X : Cx p l e s m _ below meth c cX7_commences (some .int) 2 RX7 wsX7_commences z G := ⟨hx, hb, hr, hml, hown, hts, hlocks, hE, hz⟩
  have hS : va_S (Az z) s.heap s.heap [] := va_S.rf
  have hl := lv_entry [.ref (ad 30 0), .int p1] (n := 2) (Nat.le_of_ble_eq_true rfl)
  rw [lg_entry_eq]
  generalize (lg_sl [.ref (ad 30 0), .int p1] ++ List.replicate (2 - (lg_sl [.ref (ad 30 0), .int p1]).length) Slot.unset).toArray = ls at hl ⊢
  have hl : lv_has ls 2 [(0, .ref (ad 30 0)), (1, .int p1)] := hl
  unfold wpX7_commences at h
  refine lv_aload_n hx hb dX7_commences_0 rfl (lv_at hl 0 rfl) ?_
  refine lv_aload_n hx hb dX7_commences_1 rfl (lv_at hl 0 rfl) ?_
  refine lv_iload_n hx hb dX7_commences_2 rfl (lv_at hl 1 rfl) ?_
  refine k_Vi (rest := [.ref (ad 30 0)]) (As := [.int p1]) ⟨hx, hb, hml, hown, hts⟩ hE hz hS hW (mtX7_isInstruction l z G ad σ ν ρ lo p1 _ h) (cwV 1 hts gX7_commences_X7_isInstruction rfl rfl rfl (by decide +kernel) ⟨Nat.le_of_ble_eq_true rfl, Nat.le_of_ble_eq_true rfl⟩) (r_recv hE hW 30 0 rfl (ci := 10) rfl rfl) rfl hl.1 rfl (Nat.le_of_ble_eq_true rfl) dX7_commences_3 ⟨Nat.le_of_ble_eq_true rfl, Nat.le_of_ble_eq_true rfl⟩ (fun r1 S1 H locs hp hW hS => ?_)
  obtain ⟨rfl, h⟩ := hp
  refine r_if_eq hx hb rfl (tgt := 13) dX7_commences_6 (by decide) (fun c2 => ?_) (fun c2 => ?_)
  · have h := ite_t c2 h
    refine lv_iconst (v := (1 : Int32)) hx hb dX7_commences_13 (by decide) ?_
    exact tX7_commences_14 (σ := σ) (ρ := ρ) X p1 post  ρ 0 ((1 : Int32)) hW hS (lv_sub hl [0, 1] rfl) h
  · have h := ite_f c2 h
    refine lv_iconst (v := (0 : Int32)) hx hb dX7_commences_9 (by decide) ?_
    refine lv_goto (tgt := 14) hx hb dX7_commences_10 (by decide) ?_
    exact tX7_commences_14 (σ := σ) (ρ := ρ) X p1 post  ρ 0 ((0 : Int32)) hW hS (lv_sub hl [0, 1] rfl) h
set_option maxHeartbeats 4000000 in
set_option maxRecDepth 100000 in
theorem tX7_conflicts_159 {p : Program} {l : Launch} {e : Env} {s : State} {m : MethodId} {args : Array Value} {below : List Frame} {meth : Method} {c : Code} {z : Nat} {G : Gl} {ad : Nat → Nat → Nat} {σ : SG} {ν : NU} {ρ : RH} {lo : Int64} (X : Cx p l e s m args below meth c cX7_conflicts (some .int) 6 RX7 wsX7_conflicts z G)  (κ13 : RH → Int32 → Int32 → Prop) (κ23 : RH → Int32 → Int32 → Int32 → Prop) (post : Int32 → RH → Prop) (hk13 : ∀ (a3 : RH) (x1 : Int32) (x2 : Int32) {H : Heap} {locs : List Loc} {ls : Array Slot}, WP z G ad (σ, ν, a3, lo) H → va_S (Az z) s.heap H locs → lv_has ls 6 [(0, .ref (ad 30 0)), (1, .int x1), (2, .int x2)] → κ13 a3 x1 x2 → W p l e ({ frames := 6, cells := 0, slots := 0, locals := 150 } : Room) s m args below meth c H locs 0 0 (MQ below (Qis z G ad (fun r S1 => ∃ t : RH, S1 = (σ, ν, t, lo) ∧ post r t)) args s 0 0 (Az z)) (F0 m 13 ls [])) (hk23 : ∀ (a3 : RH) (x1 : Int32) (x2 : Int32) (x3 : Int32) {H : Heap} {locs : List Loc} {ls : Array Slot}, WP z G ad (σ, ν, a3, lo) H → va_S (Az z) s.heap H locs → lv_has ls 6 [(0, .ref (ad 30 0)), (1, .int x1), (2, .int x2), (3, .int x3)] → κ23 a3 x1 x2 x3 → W p l e ({ frames := 6, cells := 0, slots := 0, locals := 150 } : Room) s m args below meth c H locs 0 0 (MQ below (Qis z G ad (fun r S1 => ∃ t : RH, S1 = (σ, ν, t, lo) ∧ post r t)) args s 0 0 (Az z)) (F0 m 23 ls [])) : ∀ (a3 : RH) (x2 : Int32) (x3 : Int32) (y0 : Int32) (y1 : Int32) {H : Heap} {locs : List Loc} {ls : Array Slot}, WP z G ad (σ, ν, a3, lo) H → va_S (Az z) s.heap H locs → lv_has ls 6 [(0, .ref (ad 30 0)), (2, .int x2), (3, .int x3)] → jX7_conflicts_159  κ13 κ23 post a3 x2 x3 y0 y1 → W p l e ({ frames := 6, cells := 0, slots := 0, locals := 150 } : Room) s m args below meth c H locs 0 0 (MQ below (Qis z G ad (fun r S1 => ∃ t : RH, S1 = (σ, ν, t, lo) ∧ post r t)) args s 0 0 (Az z)) (F0 m 159 ls [.int y1, .int y0]) := by
  obtain ⟨hx, hb, hr, hml, hown, hts, hlocks, hE, hz⟩ := id X
  intro a3 x2 x3 y0 y1 H locs ls hW hS hl h
  unfold jX7_conflicts_159 at h
  refine lv_iadd hx hb dX7_conflicts_159 ?_
  refine lv_istore_n (lv' := [(1, .int (y0 + y1)), (0, .ref (ad 30 0)), (2, .int x2), (3, .int x3)]) hx hb dX7_conflicts_160 rfl hl (by decide) rfl (fun ls hl => ?_)
  refine lv_iinc (v := x3 + (1 : Int32)) (lv' := [(3, .int (x3 + (1 : Int32))), (1, .int (y0 + y1)), (0, .ref (ad 30 0)), (2, .int x2)]) hx hb dX7_conflicts_161 hl (k := 3) rfl rfl (by decide) rfl (fun ls hl => ?_)
  refine lv_goto (tgt := 23) hx hb dX7_conflicts_164 (by decide) ?_
  exact hk23 a3 (y0 + y1) x2 (x3 + (1 : Int32)) hW hS (lv_sub hl [2, 1, 3, 0] rfl) h
set_option maxHeartbeats 4000000 in
set_option maxRecDepth 100000 in
theorem tX7_conflicts_120 {p : Program} {l : Launch} {e : Env} {s : State} {m : MethodId} {args : Array Value} {below : List Frame} {meth : Method} {c : Code} {z : Nat} {G : Gl} {ad : Nat → Nat → Nat} {σ : SG} {ν : NU} {ρ : RH} {lo : Int64} (X : Cx p l e s m args below meth c cX7_conflicts (some .int) 6 RX7 wsX7_conflicts z G)  (κ13 : RH → Int32 → Int32 → Prop) (κ23 : RH → Int32 → Int32 → Int32 → Prop) (post : Int32 → RH → Prop) (hk13 : ∀ (a3 : RH) (x1 : Int32) (x2 : Int32) {H : Heap} {locs : List Loc} {ls : Array Slot}, WP z G ad (σ, ν, a3, lo) H → va_S (Az z) s.heap H locs → lv_has ls 6 [(0, .ref (ad 30 0)), (1, .int x1), (2, .int x2)] → κ13 a3 x1 x2 → W p l e ({ frames := 6, cells := 0, slots := 0, locals := 150 } : Room) s m args below meth c H locs 0 0 (MQ below (Qis z G ad (fun r S1 => ∃ t : RH, S1 = (σ, ν, t, lo) ∧ post r t)) args s 0 0 (Az z)) (F0 m 13 ls [])) (hk23 : ∀ (a3 : RH) (x1 : Int32) (x2 : Int32) (x3 : Int32) {H : Heap} {locs : List Loc} {ls : Array Slot}, WP z G ad (σ, ν, a3, lo) H → va_S (Az z) s.heap H locs → lv_has ls 6 [(0, .ref (ad 30 0)), (1, .int x1), (2, .int x2), (3, .int x3)] → κ23 a3 x1 x2 x3 → W p l e ({ frames := 6, cells := 0, slots := 0, locals := 150 } : Room) s m args below meth c H locs 0 0 (MQ below (Qis z G ad (fun r S1 => ∃ t : RH, S1 = (σ, ν, t, lo) ∧ post r t)) args s 0 0 (Az z)) (F0 m 23 ls [])) : ∀ (a3 : RH) (x1 : Int32) (x2 : Int32) (x3 : Int32) (x4 : Int32) (y0 : Int32) {H : Heap} {locs : List Loc} {ls : Array Slot}, WP z G ad (σ, ν, a3, lo) H → va_S (Az z) s.heap H locs → lv_has ls 6 [(0, .ref (ad 30 0)), (1, .int x1), (2, .int x2), (3, .int x3), (4, .int x4)] → jX7_conflicts_120  κ13 κ23 post a3 x1 x2 x3 x4 y0 → W p l e ({ frames := 6, cells := 0, slots := 0, locals := 150 } : Room) s m args below meth c H locs 0 0 (MQ below (Qis z G ad (fun r S1 => ∃ t : RH, S1 = (σ, ν, t, lo) ∧ post r t)) args s 0 0 (Az z)) (F0 m 120 ls [.int y0]) := by
  obtain ⟨hx, hb, hr, hml, hown, hts, hlocks, hE, hz⟩ := id X
  intro a3 x1 x2 x3 x4 y0 H locs ls hW hS hl h
  unfold jX7_conflicts_120 at h
  refine lv_istore (lv' := [(5, .int y0), (0, .ref (ad 30 0)), (1, .int x1), (2, .int x2), (3, .int x3), (4, .int x4)]) hx hb dX7_conflicts_120 hl (by decide) rfl (fun ls hl => ?_)
  refine lv_iload_n hx hb dX7_conflicts_122 rfl (lv_at hl 2 rfl) ?_
  refine lv_iload hx hb dX7_conflicts_123 (lv_at hl 5 rfl) ?_
  refine r_if_eq hx hb rfl (tgt := 158) dX7_conflicts_125 (by decide) (fun c11 => ?_) (fun c11 => ?_)
  · have h := ite_t c11 h
    refine lv_iconst (v := (0 : Int32)) hx hb dX7_conflicts_158 (by decide) ?_
    exact tX7_conflicts_159 (σ := σ) (ρ := ρ) X  κ13 κ23 post hk13 hk23 a3 x2 x3 x1 ((0 : Int32)) hW hS (lv_sub hl [1, 3, 4] rfl) h
  · have h := ite_f c11 h
    refine lv_iload hx hb dX7_conflicts_128 (lv_at hl 0 rfl) ?_
    refine r_if_eq hx hb rfl (tgt := 158) dX7_conflicts_130 (by decide) (fun c12 => ?_) (fun c12 => ?_)
    · have h := ite_t c12 h
      refine lv_iconst (v := (0 : Int32)) hx hb dX7_conflicts_158 (by decide) ?_
      exact tX7_conflicts_159 (σ := σ) (ρ := ρ) X  κ13 κ23 post hk13 hk23 a3 x2 x3 x1 ((0 : Int32)) hW hS (lv_sub hl [1, 3, 4] rfl) h
    · have h := ite_f c12 h
      refine lv_aload_n hx hb dX7_conflicts_133 rfl (lv_at hl 1 rfl) ?_
      refine lv_iload_n hx hb dX7_conflicts_134 rfl (lv_at hl 3 rfl) ?_
      refine lv_aload_n hx hb dX7_conflicts_135 rfl (lv_at hl 1 rfl) ?_
      refine r_get (C := RX7) (T := TX7) (N := 49) (ci := 10) (fs := fl_30 ad ν a3 0 (σ 30 0)) hx hb hts hown hE hW 30 0 rfl rfl rfl (fun w h => List.mem_cons_of_mem _ (List.mem_append_right _ h)) 34 (by decide) (List.mem_of_getElem? (i := 7) rfl) rfl (v := .int (a3 34 0)) rfl dX7_conflicts_136 ?_
      refine k_Vi (rest := [.int x1]) (As := [.int x2, .int (a3 34 0)]) ⟨hx, hb, hml, hown, hts⟩ hE hz hS hW (mtX7_commencesBy l z G ad σ ν a3 lo x2 (a3 34 0) _ h) (cwV 2 hts gX7_conflicts_X7_commencesBy rfl rfl rfl (by decide +kernel) ⟨Nat.le_of_ble_eq_true rfl, Nat.le_of_ble_eq_true rfl⟩) (r_recv hE hW 30 0 rfl (ci := 10) rfl rfl) rfl hl.1 rfl (Nat.le_of_ble_eq_true rfl) dX7_conflicts_139 ⟨Nat.le_of_ble_eq_true rfl, Nat.le_of_ble_eq_true rfl⟩ (fun r13 S1 H locs hp hW hS => ?_)
      obtain ⟨rfl, h⟩ := hp
      refine lv_aload_n hx hb dX7_conflicts_142 rfl (lv_at hl 1 rfl) ?_
      refine lv_iload_n hx hb dX7_conflicts_143 rfl (lv_at hl 4 rfl) ?_
      refine lv_aload_n hx hb dX7_conflicts_144 rfl (lv_at hl 1 rfl) ?_
      refine r_get (C := RX7) (T := TX7) (N := 49) (ci := 10) (fs := fl_30 ad ν a3 0 (σ 30 0)) hx hb hts hown hE hW 30 0 rfl rfl rfl (fun w h => List.mem_cons_of_mem _ (List.mem_append_right _ h)) 34 (by decide) (List.mem_of_getElem? (i := 7) rfl) rfl (v := .int (a3 34 0)) rfl dX7_conflicts_145 ?_
      refine k_Vi (rest := [.int r13, .int x1]) (As := [.int x3, .int (a3 34 0)]) ⟨hx, hb, hml, hown, hts⟩ hE hz hS hW (mtX7_commencesBy l z G ad σ ν a3 lo x3 (a3 34 0) _ h) (cwV 2 hts gX7_conflicts_X7_commencesBy rfl rfl rfl (by decide +kernel) ⟨Nat.le_of_ble_eq_true rfl, Nat.le_of_ble_eq_true rfl⟩) (r_recv hE hW 30 0 rfl (ci := 10) rfl rfl) rfl hl.1 rfl (Nat.le_of_ble_eq_true rfl) dX7_conflicts_148 ⟨Nat.le_of_ble_eq_true rfl, Nat.le_of_ble_eq_true rfl⟩ (fun r14 S1 H locs hp hW hS => ?_)
      obtain ⟨rfl, h⟩ := hp
      refine r_icmp_ne hx hb rfl rfl (tgt := 158) dX7_conflicts_151 (by decide) (fun c15 => ?_) (fun c15 => ?_)
      · have h := ite_f c15 h
        refine lv_iconst (v := (0 : Int32)) hx hb dX7_conflicts_158 (by decide) ?_
        exact tX7_conflicts_159 (σ := σ) (ρ := ρ) X  κ13 κ23 post hk13 hk23 a3 x2 x3 x1 ((0 : Int32)) hW hS (lv_sub hl [1, 3, 4] rfl) h
      · have h := ite_t c15 h
        refine lv_iconst (v := (1 : Int32)) hx hb dX7_conflicts_154 (by decide) ?_
        refine lv_goto (tgt := 159) hx hb dX7_conflicts_155 (by decide) ?_
        exact tX7_conflicts_159 (σ := σ) (ρ := ρ) X  κ13 κ23 post hk13 hk23 a3 x2 x3 x1 ((1 : Int32)) hW hS (lv_sub hl [1, 3, 4] rfl) h
set_option maxHeartbeats 4000000 in
set_option maxRecDepth 100000 in
theorem tX7_conflicts_83 {p : Program} {l : Launch} {e : Env} {s : State} {m : MethodId} {args : Array Value} {below : List Frame} {meth : Method} {c : Code} {z : Nat} {G : Gl} {ad : Nat → Nat → Nat} {σ : SG} {ν : NU} {ρ : RH} {lo : Int64} (X : Cx p l e s m args below meth c cX7_conflicts (some .int) 6 RX7 wsX7_conflicts z G)  (κ13 : RH → Int32 → Int32 → Prop) (κ23 : RH → Int32 → Int32 → Int32 → Prop) (post : Int32 → RH → Prop) (hk13 : ∀ (a3 : RH) (x1 : Int32) (x2 : Int32) {H : Heap} {locs : List Loc} {ls : Array Slot}, WP z G ad (σ, ν, a3, lo) H → va_S (Az z) s.heap H locs → lv_has ls 6 [(0, .ref (ad 30 0)), (1, .int x1), (2, .int x2)] → κ13 a3 x1 x2 → W p l e ({ frames := 6, cells := 0, slots := 0, locals := 150 } : Room) s m args below meth c H locs 0 0 (MQ below (Qis z G ad (fun r S1 => ∃ t : RH, S1 = (σ, ν, t, lo) ∧ post r t)) args s 0 0 (Az z)) (F0 m 13 ls [])) (hk23 : ∀ (a3 : RH) (x1 : Int32) (x2 : Int32) (x3 : Int32) {H : Heap} {locs : List Loc} {ls : Array Slot}, WP z G ad (σ, ν, a3, lo) H → va_S (Az z) s.heap H locs → lv_has ls 6 [(0, .ref (ad 30 0)), (1, .int x1), (2, .int x2), (3, .int x3)] → κ23 a3 x1 x2 x3 → W p l e ({ frames := 6, cells := 0, slots := 0, locals := 150 } : Room) s m args below meth c H locs 0 0 (MQ below (Qis z G ad (fun r S1 => ∃ t : RH, S1 = (σ, ν, t, lo) ∧ post r t)) args s 0 0 (Az z)) (F0 m 23 ls [])) : ∀ (a3 : RH) (x1 : Int32) (x2 : Int32) (x3 : Int32) (y0 : Int32) {H : Heap} {locs : List Loc} {ls : Array Slot}, WP z G ad (σ, ν, a3, lo) H → va_S (Az z) s.heap H locs → lv_has ls 6 [(0, .ref (ad 30 0)), (1, .int x1), (2, .int x2), (3, .int x3)] → jX7_conflicts_83  κ13 κ23 post a3 x1 x2 x3 y0 → W p l e ({ frames := 6, cells := 0, slots := 0, locals := 150 } : Room) s m args below meth c H locs 0 0 (MQ below (Qis z G ad (fun r S1 => ∃ t : RH, S1 = (σ, ν, t, lo) ∧ post r t)) args s 0 0 (Az z)) (F0 m 83 ls [.int y0]) := by
  obtain ⟨hx, hb, hr, hml, hown, hts, hlocks, hE, hz⟩ := id X
  intro a3 x1 x2 x3 y0 H locs ls hW hS hl h
  unfold jX7_conflicts_83 at h
  refine lv_istore (lv' := [(4, .int y0), (0, .ref (ad 30 0)), (1, .int x1), (2, .int x2), (3, .int x3)]) hx hb dX7_conflicts_83 hl (by decide) rfl (fun ls hl => ?_)
  refine lv_aload_n hx hb dX7_conflicts_85 rfl (lv_at hl 1 rfl) ?_
  refine r_get (C := RX7) (T := TX7) (N := 49) (ci := 10) (fs := fl_30 ad ν a3 0 (σ 30 0)) hx hb hts hown hE hW 30 0 rfl rfl rfl (fun w h => List.mem_cons_of_mem _ (List.mem_append_right _ h)) 13 (by decide) (List.mem_of_getElem? (i := 6) rfl) rfl (v := .ref (ad 113 0)) rfl dX7_conflicts_86 ?_
  refine lv_iload_n hx hb dX7_conflicts_89 rfl (lv_at hl 3 rfl) ?_
  obtain ⟨b8, h⟩ := h
  refine r_iald hx hb hE hW 113 0 ⟨rfl, by decide, by decide⟩ (n := 40) (f := a3 13) rfl b8 (v := a3 13 x2.toNatClampNeg) rfl dX7_conflicts_90 ?_
  refine lv_iconst (v := (1 : Int32)) hx hb dX7_conflicts_91 (by decide) ?_
  refine lv_bipush (v := (6 : Int32)) hx hb dX7_conflicts_92 (by decide) ?_
  refine k_Si (rest := []) (As := [.int (a3 13 x2.toNatClampNeg), .int ((1 : Int32)), .int ((6 : Int32))]) ⟨hx, hb, hml, hown, hts⟩ hE hz hS hW (mtX7_isIn l z G ad σ ν a3 lo (a3 13 x2.toNatClampNeg) ((1 : Int32)) ((6 : Int32)) _ h) (va_cwS 3 hts gX7_conflicts_X7_isIn rfl rfl rfl (by decide +kernel) ⟨Nat.le_of_ble_eq_true rfl, Nat.le_of_ble_eq_true rfl⟩) rfl hl.1 rfl (Nat.le_of_ble_eq_true rfl) dX7_conflicts_94 ⟨Nat.le_of_ble_eq_true rfl, Nat.le_of_ble_eq_true rfl⟩ (fun r9 S1 H locs hp hW hS => ?_)
  obtain ⟨rfl, h⟩ := hp
  refine r_if_eq hx hb rfl (tgt := 119) dX7_conflicts_97 (by decide) (fun c10 => ?_) (fun c10 => ?_)
  · have h := ite_t c10 h
    refine lv_iconst (v := (0 : Int32)) hx hb dX7_conflicts_119 (by decide) ?_
    exact tX7_conflicts_120 (σ := σ) (ρ := ρ) X  κ13 κ23 post hk13 hk23 a3 x1 x2 x3 y0 ((0 : Int32)) hW hS (lv_sub hl [1, 2, 3, 4, 0] rfl) h
  · have h := ite_f c10 h
    refine lv_aload_n hx hb dX7_conflicts_100 rfl (lv_at hl 1 rfl) ?_
    refine r_get (C := RX7) (T := TX7) (N := 49) (ci := 10) (fs := fl_30 ad ν a3 0 (σ 30 0)) hx hb hts hown hE hW 30 0 rfl rfl rfl (fun w h => List.mem_cons_of_mem _ (List.mem_append_right _ h)) 13 (by decide) (List.mem_of_getElem? (i := 6) rfl) rfl (v := .ref (ad 113 0)) rfl dX7_conflicts_101 ?_
    refine lv_iload_n hx hb dX7_conflicts_104 rfl (lv_at hl 4 rfl) ?_
    obtain ⟨b16, h⟩ := h
    refine r_iald hx hb hE hW 113 0 ⟨rfl, by decide, by decide⟩ (n := 40) (f := a3 13) rfl b16 (v := a3 13 x3.toNatClampNeg) rfl dX7_conflicts_105 ?_
    refine lv_iconst (v := (1 : Int32)) hx hb dX7_conflicts_106 (by decide) ?_
    refine lv_bipush (v := (6 : Int32)) hx hb dX7_conflicts_107 (by decide) ?_
    refine k_Si (rest := []) (As := [.int (a3 13 x3.toNatClampNeg), .int ((1 : Int32)), .int ((6 : Int32))]) ⟨hx, hb, hml, hown, hts⟩ hE hz hS hW (mtX7_isIn l z G ad σ ν a3 lo (a3 13 x3.toNatClampNeg) ((1 : Int32)) ((6 : Int32)) _ h) (va_cwS 3 hts gX7_conflicts_X7_isIn rfl rfl rfl (by decide +kernel) ⟨Nat.le_of_ble_eq_true rfl, Nat.le_of_ble_eq_true rfl⟩) rfl hl.1 rfl (Nat.le_of_ble_eq_true rfl) dX7_conflicts_109 ⟨Nat.le_of_ble_eq_true rfl, Nat.le_of_ble_eq_true rfl⟩ (fun r17 S1 H locs hp hW hS => ?_)
    obtain ⟨rfl, h⟩ := hp
    refine r_if_eq hx hb rfl (tgt := 119) dX7_conflicts_112 (by decide) (fun c18 => ?_) (fun c18 => ?_)
    · have h := ite_t c18 h
      refine lv_iconst (v := (0 : Int32)) hx hb dX7_conflicts_119 (by decide) ?_
      exact tX7_conflicts_120 (σ := σ) (ρ := ρ) X  κ13 κ23 post hk13 hk23 a3 x1 x2 x3 y0 ((0 : Int32)) hW hS (lv_sub hl [1, 2, 3, 4, 0] rfl) h
    · have h := ite_f c18 h
      refine lv_iconst (v := (1 : Int32)) hx hb dX7_conflicts_115 (by decide) ?_
      refine lv_goto (tgt := 120) hx hb dX7_conflicts_116 (by decide) ?_
      exact tX7_conflicts_120 (σ := σ) (ρ := ρ) X  κ13 κ23 post hk13 hk23 a3 x1 x2 x3 y0 ((1 : Int32)) hW hS (lv_sub hl [1, 2, 3, 4, 0] rfl) h
set_option maxHeartbeats 4000000 in
set_option maxRecDepth 100000 in
theorem tX7_conflicts_23 {p : Program} {l : Launch} {e : Env} {s : State} {m : MethodId} {args : Array Value} {below : List Frame} {meth : Method} {c : Code} {z : Nat} {G : Gl} {ad : Nat → Nat → Nat} {σ : SG} {ν : NU} {ρ : RH} {lo : Int64} (X : Cx p l e s m args below meth c cX7_conflicts (some .int) 6 RX7 wsX7_conflicts z G)  (κ13 : RH → Int32 → Int32 → Prop) (post : Int32 → RH → Prop) (hk13 : ∀ (a3 : RH) (x1 : Int32) (x2 : Int32) {H : Heap} {locs : List Loc} {ls : Array Slot}, WP z G ad (σ, ν, a3, lo) H → va_S (Az z) s.heap H locs → lv_has ls 6 [(0, .ref (ad 30 0)), (1, .int x1), (2, .int x2)] → κ13 a3 x1 x2 → W p l e ({ frames := 6, cells := 0, slots := 0, locals := 150 } : Room) s m args below meth c H locs 0 0 (MQ below (Qis z G ad (fun r S1 => ∃ t : RH, S1 = (σ, ν, t, lo) ∧ post r t)) args s 0 0 (Az z)) (F0 m 13 ls [])) : ∀ (n : Nat) (a3 : RH) (x1 : Int32) (x2 : Int32) (x3 : Int32) {H : Heap} {locs : List Loc} {ls : Array Slot}, WP z G ad (σ, ν, a3, lo) H → va_S (Az z) s.heap H locs → lv_has ls 6 [(0, .ref (ad 30 0)), (1, .int x1), (2, .int x2), (3, .int x3)] → wX7_conflicts_23  κ13 post n a3 x1 x2 x3 → W p l e ({ frames := 6, cells := 0, slots := 0, locals := 150 } : Room) s m args below meth c H locs 0 0 (MQ below (Qis z G ad (fun r S1 => ∃ t : RH, S1 = (σ, ν, t, lo) ∧ post r t)) args s 0 0 (Az z)) (F0 m 23 ls []) := by
  obtain ⟨hx, hb, hr, hml, hown, hts, hlocks, hE, hz⟩ := id X
  intro n
  induction n with
  | zero =>
    intro a3 x1 x2 x3 H locs ls hW hS hl h
    exact absurd h id
  | succ n ih =>
    intro a3 x1 x2 x3 H locs ls hW hS hl h
    unfold wX7_conflicts_23 at h
    refine lv_iload_n hx hb dX7_conflicts_23 rfl (lv_at hl 3 rfl) ?_
    refine lv_iload_n hx hb dX7_conflicts_24 rfl (lv_at hl 2 rfl) ?_
    refine r_icmp_ge hx hb rfl rfl (tgt := 167) dX7_conflicts_25 (by decide) (fun c5 => ?_) (fun c5 => ?_)
    · have h := ite_f c5 h
      refine lv_iinc (v := x2 + (1 : Int32)) (lv' := [(2, .int (x2 + (1 : Int32))), (0, .ref (ad 30 0)), (1, .int x1), (3, .int x3)]) hx hb dX7_conflicts_167 hl (k := 2) rfl rfl (by decide) rfl (fun ls hl => ?_)
      refine lv_goto (tgt := 13) hx hb dX7_conflicts_170 (by decide) ?_
      exact hk13 a3 x1 (x2 + (1 : Int32)) hW hS (lv_sub hl [1, 2, 0] rfl) h
    · have h := ite_t c5 h
      refine lv_aload_n hx hb dX7_conflicts_28 rfl (lv_at hl 0 rfl) ?_
      refine r_get (C := RX7) (T := TX7) (N := 49) (ci := 10) (fs := fl_30 ad ν a3 0 (σ 30 0)) hx hb hts hown hE hW 30 0 rfl rfl rfl (fun w h => List.mem_cons_of_mem _ (List.mem_append_right _ h)) 36 (by decide) (List.mem_of_getElem? (i := 3) rfl) rfl (v := .ref (ad 136 0)) rfl dX7_conflicts_29 ?_
      refine lv_iload_n hx hb dX7_conflicts_32 rfl (lv_at hl 2 rfl) ?_
      obtain ⟨b6, h⟩ := h
      refine r_iald hx hb hE hW 136 0 ⟨rfl, by decide, by decide⟩ (n := 40) (f := a3 36) rfl b6 (v := a3 36 x2.toNatClampNeg) rfl dX7_conflicts_33 ?_
      refine lv_iconst (v := (1 : Int32)) hx hb dX7_conflicts_34 (by decide) ?_
      refine r_icmp_ne hx hb rfl (show (1 : Int32).toInt = 1 by decide) (tgt := 82) dX7_conflicts_35 (by decide) (fun c7 => ?_) (fun c7 => ?_)
      · have h := ite_f c7 h
        refine lv_iconst (v := (0 : Int32)) hx hb dX7_conflicts_82 (by decide) ?_
        exact tX7_conflicts_83 (σ := σ) (ρ := ρ) X  κ13 (wX7_conflicts_23  κ13 post n) post hk13 ih a3 x1 x2 x3 ((0 : Int32)) hW hS (lv_sub hl [0, 1, 2, 3] rfl) h
      · have h := ite_t c7 h
        refine lv_aload_n hx hb dX7_conflicts_38 rfl (lv_at hl 0 rfl) ?_
        refine r_get (C := RX7) (T := TX7) (N := 49) (ci := 10) (fs := fl_30 ad ν a3 0 (σ 30 0)) hx hb hts hown hE hW 30 0 rfl rfl rfl (fun w h => List.mem_cons_of_mem _ (List.mem_append_right _ h)) 36 (by decide) (List.mem_of_getElem? (i := 3) rfl) rfl (v := .ref (ad 136 0)) rfl dX7_conflicts_39 ?_
        refine lv_iload_n hx hb dX7_conflicts_42 rfl (lv_at hl 3 rfl) ?_
        obtain ⟨b19, h⟩ := h
        refine r_iald hx hb hE hW 136 0 ⟨rfl, by decide, by decide⟩ (n := 40) (f := a3 36) rfl b19 (v := a3 36 x3.toNatClampNeg) rfl dX7_conflicts_43 ?_
        refine lv_iconst (v := (1 : Int32)) hx hb dX7_conflicts_44 (by decide) ?_
        refine r_icmp_ne hx hb rfl (show (1 : Int32).toInt = 1 by decide) (tgt := 82) dX7_conflicts_45 (by decide) (fun c20 => ?_) (fun c20 => ?_)
        · have h := ite_f c20 h
          refine lv_iconst (v := (0 : Int32)) hx hb dX7_conflicts_82 (by decide) ?_
          exact tX7_conflicts_83 (σ := σ) (ρ := ρ) X  κ13 (wX7_conflicts_23  κ13 post n) post hk13 ih a3 x1 x2 x3 ((0 : Int32)) hW hS (lv_sub hl [0, 1, 2, 3] rfl) h
        · have h := ite_t c20 h
          refine lv_aload_n hx hb dX7_conflicts_48 rfl (lv_at hl 0 rfl) ?_
          refine r_get (C := RX7) (T := TX7) (N := 49) (ci := 10) (fs := fl_30 ad ν a3 0 (σ 30 0)) hx hb hts hown hE hW 30 0 rfl rfl rfl (fun w h => List.mem_cons_of_mem _ (List.mem_append_right _ h)) 14 (by decide) (List.mem_of_getElem? (i := 4) rfl) rfl (v := .ref (ad 114 0)) rfl dX7_conflicts_49 ?_
          refine lv_iload_n hx hb dX7_conflicts_52 rfl (lv_at hl 2 rfl) ?_
          obtain ⟨b21, h⟩ := h
          refine r_iald hx hb hE hW 114 0 ⟨rfl, by decide, by decide⟩ (n := 40) (f := a3 14) rfl b21 (v := a3 14 x2.toNatClampNeg) rfl dX7_conflicts_53 ?_
          refine lv_aload_n hx hb dX7_conflicts_54 rfl (lv_at hl 0 rfl) ?_
          refine r_get (C := RX7) (T := TX7) (N := 49) (ci := 10) (fs := fl_30 ad ν a3 0 (σ 30 0)) hx hb hts hown hE hW 30 0 rfl rfl rfl (fun w h => List.mem_cons_of_mem _ (List.mem_append_right _ h)) 14 (by decide) (List.mem_of_getElem? (i := 4) rfl) rfl (v := .ref (ad 114 0)) rfl dX7_conflicts_55 ?_
          refine lv_iload_n hx hb dX7_conflicts_58 rfl (lv_at hl 3 rfl) ?_
          obtain ⟨b22, h⟩ := h
          refine r_iald hx hb hE hW 114 0 ⟨rfl, by decide, by decide⟩ (n := 40) (f := a3 14) rfl b22 (v := a3 14 x3.toNatClampNeg) rfl dX7_conflicts_59 ?_
          refine r_icmp_eq hx hb rfl rfl (tgt := 82) dX7_conflicts_60 (by decide) (fun c23 => ?_) (fun c23 => ?_)
          · have h := ite_t c23 h
            refine lv_iconst (v := (0 : Int32)) hx hb dX7_conflicts_82 (by decide) ?_
            exact tX7_conflicts_83 (σ := σ) (ρ := ρ) X  κ13 (wX7_conflicts_23  κ13 post n) post hk13 ih a3 x1 x2 x3 ((0 : Int32)) hW hS (lv_sub hl [0, 1, 2, 3] rfl) h
          · have h := ite_f c23 h
            refine lv_aload_n hx hb dX7_conflicts_63 rfl (lv_at hl 0 rfl) ?_
            refine r_get (C := RX7) (T := TX7) (N := 49) (ci := 10) (fs := fl_30 ad ν a3 0 (σ 30 0)) hx hb hts hown hE hW 30 0 rfl rfl rfl (fun w h => List.mem_cons_of_mem _ (List.mem_append_right _ h)) 15 (by decide) (List.mem_of_getElem? (i := 5) rfl) rfl (v := .ref (ad 115 0)) rfl dX7_conflicts_64 ?_
            refine lv_iload_n hx hb dX7_conflicts_67 rfl (lv_at hl 2 rfl) ?_
            obtain ⟨b24, h⟩ := h
            refine r_iald hx hb hE hW 115 0 ⟨rfl, by decide, by decide⟩ (n := 40) (f := a3 15) rfl b24 (v := a3 15 x2.toNatClampNeg) rfl dX7_conflicts_68 ?_
            refine lv_aload_n hx hb dX7_conflicts_69 rfl (lv_at hl 0 rfl) ?_
            refine r_get (C := RX7) (T := TX7) (N := 49) (ci := 10) (fs := fl_30 ad ν a3 0 (σ 30 0)) hx hb hts hown hE hW 30 0 rfl rfl rfl (fun w h => List.mem_cons_of_mem _ (List.mem_append_right _ h)) 15 (by decide) (List.mem_of_getElem? (i := 5) rfl) rfl (v := .ref (ad 115 0)) rfl dX7_conflicts_70 ?_
            refine lv_iload_n hx hb dX7_conflicts_73 rfl (lv_at hl 3 rfl) ?_
            obtain ⟨b25, h⟩ := h
            refine r_iald hx hb hE hW 115 0 ⟨rfl, by decide, by decide⟩ (n := 40) (f := a3 15) rfl b25 (v := a3 15 x3.toNatClampNeg) rfl dX7_conflicts_74 ?_
            refine r_icmp_ne hx hb rfl rfl (tgt := 82) dX7_conflicts_75 (by decide) (fun c26 => ?_) (fun c26 => ?_)
            · have h := ite_f c26 h
              refine lv_iconst (v := (0 : Int32)) hx hb dX7_conflicts_82 (by decide) ?_
              exact tX7_conflicts_83 (σ := σ) (ρ := ρ) X  κ13 (wX7_conflicts_23  κ13 post n) post hk13 ih a3 x1 x2 x3 ((0 : Int32)) hW hS (lv_sub hl [0, 1, 2, 3] rfl) h
            · have h := ite_t c26 h
              refine lv_iconst (v := (1 : Int32)) hx hb dX7_conflicts_78 (by decide) ?_
              refine lv_goto (tgt := 83) hx hb dX7_conflicts_79 (by decide) ?_
              exact tX7_conflicts_83 (σ := σ) (ρ := ρ) X  κ13 (wX7_conflicts_23  κ13 post n) post hk13 ih a3 x1 x2 x3 ((1 : Int32)) hW hS (lv_sub hl [0, 1, 2, 3] rfl) h
set_option maxHeartbeats 4000000 in
set_option maxRecDepth 100000 in
theorem tX7_conflicts_13 {p : Program} {l : Launch} {e : Env} {s : State} {m : MethodId} {args : Array Value} {below : List Frame} {meth : Method} {c : Code} {z : Nat} {G : Gl} {ad : Nat → Nat → Nat} {σ : SG} {ν : NU} {ρ : RH} {lo : Int64} (X : Cx p l e s m args below meth c cX7_conflicts (some .int) 6 RX7 wsX7_conflicts z G)   (post : Int32 → RH → Prop) : ∀ (n : Nat) (a3 : RH) (x1 : Int32) (x2 : Int32) {H : Heap} {locs : List Loc} {ls : Array Slot}, WP z G ad (σ, ν, a3, lo) H → va_S (Az z) s.heap H locs → lv_has ls 6 [(0, .ref (ad 30 0)), (1, .int x1), (2, .int x2)] → wX7_conflicts_13  post n a3 x1 x2 → W p l e ({ frames := 6, cells := 0, slots := 0, locals := 150 } : Room) s m args below meth c H locs 0 0 (MQ below (Qis z G ad (fun r S1 => ∃ t : RH, S1 = (σ, ν, t, lo) ∧ post r t)) args s 0 0 (Az z)) (F0 m 13 ls []) := by
  obtain ⟨hx, hb, hr, hml, hown, hts, hlocks, hE, hz⟩ := id X
  intro n
  induction n with
  | zero =>
    intro a3 x1 x2 H locs ls hW hS hl h
    exact absurd h id
  | succ n ih =>
    intro a3 x1 x2 H locs ls hW hS hl h
    unfold wX7_conflicts_13 at h
    refine lv_iload_n hx hb dX7_conflicts_13 rfl (lv_at hl 2 rfl) ?_
    refine lv_aload_n hx hb dX7_conflicts_14 rfl (lv_at hl 0 rfl) ?_
    refine r_get (C := RX7) (T := TX7) (N := 49) (ci := 10) (fs := fl_30 ad ν a3 0 (σ 30 0)) hx hb hts hown hE hW 30 0 rfl rfl rfl (fun w h => List.mem_cons_of_mem _ (List.mem_append_right _ h)) 11 (by decide) (List.mem_of_getElem? (i := 2) rfl) rfl (v := .int (a3 11 0)) rfl dX7_conflicts_15 ?_
    refine r_icmp_ge hx hb rfl rfl (tgt := 173) dX7_conflicts_18 (by decide) (fun c4 => ?_) (fun c4 => ?_)
    · have h := ite_f c4 h
      refine lv_iload_n hx hb dX7_conflicts_173 rfl (lv_at hl 1 rfl) ?_
      exact W.iret (v := x1) hx hb hr (fun t ht _ => ⟨⟨_, (σ, ν, a3, lo), rfl, ⟨_, rfl, h⟩, WP.at9 ht hW⟩, hS.F ht⟩) hS.2.2 dX7_conflicts_174 (hlocks := hlocks)
    · have h := ite_t c4 h
      refine lv_iconst (v := (0 : Int32)) hx hb dX7_conflicts_21 (by decide) ?_
      refine lv_istore_n (lv' := [(3, .int ((0 : Int32))), (0, .ref (ad 30 0)), (1, .int x1), (2, .int x2)]) hx hb dX7_conflicts_22 rfl hl (by decide) rfl (fun ls hl => ?_)
      obtain ⟨n27, h⟩ := h
      exact tX7_conflicts_23 (σ := σ) (ρ := ρ) X  (wX7_conflicts_13  post n) post ih n27 a3 x1 x2 ((0 : Int32)) hW hS (lv_sub hl [1, 2, 3, 0] rfl) h
set_option maxHeartbeats 4000000 in
set_option maxRecDepth 100000 in
theorem mtX7_conflicts (l : Launch) (z : Nat) (G : Gl) (ad : Nat → Nat → Nat) (σ : SG) (ν : NU) (ρ : RH) (lo : Int64)  (post : Int32 → RH → Prop) (h : wpX7_conflicts ρ  post) : Met l yX7_conflicts wsX7_conflicts ({ frames := 6, cells := 0, slots := 0, locals := 150 } : Room) (Pcs z G ad (σ, ν, ρ, lo) [.ref (ad 30 0)]) (Qis z G ad (fun r S1 => ∃ t : RH, S1 = (σ, ν, t, lo) ∧ post r t)) 0 0 (Az z) := by
  refine Met.ofW (cc := cX7_conflicts) (maxL := 6) (ret := (some .int)) (by decide) rfl ?_
  intro p e s m args below meth c s₁ B hml hv
  obtain ⟨rfl, hz, hW, hE⟩ := hv
  have hx := B.exec
  have hb := B.bytes
  have hr := B.returns
  have hts := atoms_spec (ws := wsX7_conflicts) B.pre
  have hown : s.vm.findClass RX7 = some m.cls := findClass_of_methodNamed B.named
  have hlocks := B.notSynchronized
  have X : Cx p l e s m _ below meth c cX7_conflicts (some .int) 6 RX7 wsX7_conflicts z G := ⟨hx, hb, hr, hml, hown, hts, hlocks, hE, hz⟩
  have hS : va_S (Az z) s.heap s.heap [] := va_S.rf
  have hl := lv_entry [.ref (ad 30 0)] (n := 6) (Nat.le_of_ble_eq_true rfl)
  rw [lg_entry_eq]
  generalize (lg_sl [.ref (ad 30 0)] ++ List.replicate (6 - (lg_sl [.ref (ad 30 0)]).length) Slot.unset).toArray = ls at hl ⊢
  have hl : lv_has ls 6 [(0, .ref (ad 30 0))] := hl
  unfold wpX7_conflicts at h
  refine lv_aload_n hx hb dX7_conflicts_0 rfl (lv_at hl 0 rfl) ?_
  refine lv_iconst (v := (0 : Int32)) hx hb dX7_conflicts_1 (by decide) ?_
  refine r_putM hx hb hts hown hE hW hS (fun w h => List.mem_cons_of_mem _ (List.mem_append_right _ h)) 48 (by decide) (List.mem_of_getElem? (i := 1) rfl) rfl rfl rfl (x := (0 : Int32)) rfl rfl dX7_conflicts_2 (fun t1 e2 H locs hW hS => ?_)
  have h := h t1 e2
  refine lv_aload_n hx hb dX7_conflicts_5 rfl (lv_at hl 0 rfl) ?_
  refine k_Vv (rest := []) (As := []) ⟨hx, hb, hml, hown, hts⟩ hE hz hS hW (mtX7_laysView l z G ad σ ν t1 lo  _ h) (cwV 0 hts gX7_conflicts_X7_laysView rfl rfl rfl (by decide +kernel) ⟨Nat.le_of_ble_eq_true rfl, Nat.le_of_ble_eq_true rfl⟩) (r_recv hE hW 30 0 rfl (ci := 10) rfl rfl) rfl hl.1 rfl (Nat.le_of_ble_eq_true rfl) dX7_conflicts_6 ⟨Nat.le_of_ble_eq_true rfl, Nat.le_of_ble_eq_true rfl⟩ (fun S1 H locs hp hW hS => ?_)
  obtain ⟨t3, rfl, h⟩ := hp
  refine lv_iconst (v := (0 : Int32)) hx hb dX7_conflicts_9 (by decide) ?_
  refine lv_istore_n (lv' := [(1, .int ((0 : Int32))), (0, .ref (ad 30 0))]) hx hb dX7_conflicts_10 rfl hl (by decide) rfl (fun ls hl => ?_)
  refine lv_iconst (v := (0 : Int32)) hx hb dX7_conflicts_11 (by decide) ?_
  refine lv_istore_n (lv' := [(2, .int ((0 : Int32))), (1, .int ((0 : Int32))), (0, .ref (ad 30 0))]) hx hb dX7_conflicts_12 rfl hl (by decide) rfl (fun ls hl => ?_)
  obtain ⟨n28, h⟩ := h
  exact tX7_conflicts_13 (σ := σ) (ρ := ρ) X  post  n28 t3 ((0 : Int32)) ((0 : Int32)) hW hS (lv_sub hl [2, 1, 0] rfl) h
set_option maxHeartbeats 4000000 in
set_option maxRecDepth 100000 in
theorem tX7_print_60 {p : Program} {l : Launch} {e : Env} {s : State} {m : MethodId} {args : Array Value} {below : List Frame} {meth : Method} {c : Code} {z : Nat} {G : Gl} {ad : Nat → Nat → Nat} {σ : SG} {ν : NU} {ρ : RH} {lo : Int64} (X : Cx p l e s m args below meth c cX7_print (some .long) 5 RX7 wsX7_print z G)  (κ19 : RH → Int64 → Int32 → Prop) (post : Int64 → RH → Prop) (hk19 : ∀ (a3 : RH) (x1 : Int64) (x3 : Int32) {H : Heap} {locs : List Loc} {ls : Array Slot}, WP z G ad (σ, ν, a3, lo) H → va_S (Az z) s.heap H locs → lv_has ls 5 [(0, .ref (ad 30 0)), (1, .long x1), (3, .int x3)] → κ19 a3 x1 x3 → W p l e ({ frames := 6, cells := 0, slots := 0, locals := 150 } : Room) s m args below meth c H locs 0 0 (MQ below (Qls z G ad (fun r S1 => ∃ t : RH, S1 = (σ, ν, t, lo) ∧ post r t)) args s 0 0 (Az z)) (F0 m 19 ls [])) : ∀ (n : Nat) (a3 : RH) (x1 : Int64) (x3 : Int32) (x4 : Int32) {H : Heap} {locs : List Loc} {ls : Array Slot}, WP z G ad (σ, ν, a3, lo) H → va_S (Az z) s.heap H locs → lv_has ls 5 [(0, .ref (ad 30 0)), (1, .long x1), (3, .int x3), (4, .int x4)] → wX7_print_60  κ19 post n a3 x1 x3 x4 → W p l e ({ frames := 6, cells := 0, slots := 0, locals := 150 } : Room) s m args below meth c H locs 0 0 (MQ below (Qls z G ad (fun r S1 => ∃ t : RH, S1 = (σ, ν, t, lo) ∧ post r t)) args s 0 0 (Az z)) (F0 m 60 ls []) := by
  obtain ⟨hx, hb, hr, hml, hown, hts, hlocks, hE, hz⟩ := id X
  intro n
  induction n with
  | zero =>
    intro a3 x1 x3 x4 H locs ls hW hS hl h
    exact absurd h id
  | succ n ih =>
    intro a3 x1 x3 x4 H locs ls hW hS hl h
    unfold wX7_print_60 at h
    refine lv_iload hx hb dX7_print_60 (lv_at hl 3 rfl) ?_
    refine lv_aload_n hx hb dX7_print_62 rfl (lv_at hl 0 rfl) ?_
    refine r_get (C := RX7) (T := TX7) (N := 49) (ci := 10) (fs := fl_30 ad ν a3 0 (σ 30 0)) hx hb hts hown hE hW 30 0 rfl rfl rfl (fun w h => List.mem_cons_of_mem _ (List.mem_append_right _ h)) 40 (by decide) (List.mem_of_getElem? (i := 5) rfl) rfl (v := .ref (ad 140 0)) rfl dX7_print_63 ?_
    refine lv_iload_n hx hb dX7_print_66 rfl (lv_at hl 2 rfl) ?_
    obtain ⟨b8, h⟩ := h
    refine r_iald hx hb hE hW 140 0 ⟨rfl, by decide, by decide⟩ (n := 20) (f := a3 40) rfl b8 (v := a3 40 x3.toNatClampNeg) rfl dX7_print_67 ?_
    refine r_icmp_ge hx hb rfl rfl (tgt := 115) dX7_print_68 (by decide) (fun c9 => ?_) (fun c9 => ?_)
    · have h := ite_f c9 h
      refine lv_aload_n hx hb dX7_print_115 rfl (lv_at hl 0 rfl) ?_
      refine lv_iload_n hx hb dX7_print_116 rfl (lv_at hl 2 rfl) ?_
      refine k_Vi (rest := []) (As := [.int x3]) ⟨hx, hb, hml, hown, hts⟩ hE hz hS hW (mtX7_behind l z G ad σ ν a3 lo x3 _ h) (cwV 1 hts gX7_print_X7_behind rfl rfl rfl (by decide +kernel) ⟨Nat.le_of_ble_eq_true rfl, Nat.le_of_ble_eq_true rfl⟩) (r_recv hE hW 30 0 rfl (ci := 10) rfl rfl) rfl hl.1 rfl (Nat.le_of_ble_eq_true rfl) dX7_print_117 ⟨Nat.le_of_ble_eq_true rfl, Nat.le_of_ble_eq_true rfl⟩ (fun r10 S1 H locs hp hW hS => ?_)
      obtain ⟨rfl, h⟩ := hp
      refine lv_istore_n (lv' := [(3, .int r10), (0, .ref (ad 30 0)), (1, .long x1), (4, .int x4)]) hx hb dX7_print_120 rfl hl (by decide) rfl (fun ls hl => ?_)
      refine lv_goto (tgt := 19) hx hb dX7_print_121 (by decide) ?_
      exact hk19 a3 x1 r10 hW hS (lv_sub hl [1, 2, 0] rfl) h
    · have h := ite_t c9 h
      refine lv_ldc2 (v := (31 : Int64)) hx hb hown (hts _ (List.mem_of_getElem? (i := 3) rfl)) dX7_print_71 ?_
      refine lv_ldc2 (v := (31 : Int64)) hx hb hown (hts _ (List.mem_of_getElem? (i := 3) rfl)) dX7_print_74 ?_
      refine lv_lload_n hx hb dX7_print_77 rfl (lv_at hl 1 rfl) ?_
      refine lv_lmul hx hb dX7_print_78 ?_
      refine lv_aload_n hx hb dX7_print_79 rfl (lv_at hl 0 rfl) ?_
      refine r_get (C := RX7) (T := TX7) (N := 49) (ci := 10) (fs := fl_30 ad ν a3 0 (σ 30 0)) hx hb hts hown hE hW 30 0 rfl rfl rfl (fun w h => List.mem_cons_of_mem _ (List.mem_append_right _ h)) 41 (by decide) (List.mem_of_getElem? (i := 6) rfl) rfl (v := .ref (ad 141 0)) rfl dX7_print_80 ?_
      refine lv_bipush (v := (12 : Int32)) hx hb dX7_print_83 (by decide) ?_
      refine lv_iload_n hx hb dX7_print_85 rfl (lv_at hl 2 rfl) ?_
      refine lv_imul hx hb dX7_print_86 ?_
      refine lv_iload hx hb dX7_print_87 (lv_at hl 3 rfl) ?_
      refine lv_iadd hx hb dX7_print_89 ?_
      obtain ⟨b11, h⟩ := h
      refine r_iald hx hb hE hW 141 0 ⟨rfl, by decide, by decide⟩ (n := 240) (f := a3 41) rfl b11 (v := a3 41 ((((12 : Int32)) * x3) + x4).toNatClampNeg) rfl dX7_print_90 ?_
      refine lv_i2l (v := (a3 41 ((((12 : Int32)) * x3) + x4).toNatClampNeg).toInt64) hx hb dX7_print_91 rfl ?_
      refine lv_ladd hx hb dX7_print_92 ?_
      refine lv_lmul hx hb dX7_print_93 ?_
      refine lv_aload_n hx hb dX7_print_94 rfl (lv_at hl 0 rfl) ?_
      refine r_get (C := RX7) (T := TX7) (N := 49) (ci := 10) (fs := fl_30 ad ν a3 0 (σ 30 0)) hx hb hts hown hE hW 30 0 rfl rfl rfl (fun w h => List.mem_cons_of_mem _ (List.mem_append_right _ h)) 42 (by decide) (List.mem_of_getElem? (i := 7) rfl) rfl (v := .ref (ad 142 0)) rfl dX7_print_95 ?_
      refine lv_bipush (v := (12 : Int32)) hx hb dX7_print_98 (by decide) ?_
      refine lv_iload_n hx hb dX7_print_100 rfl (lv_at hl 2 rfl) ?_
      refine lv_imul hx hb dX7_print_101 ?_
      refine lv_iload hx hb dX7_print_102 (lv_at hl 3 rfl) ?_
      refine lv_iadd hx hb dX7_print_104 ?_
      obtain ⟨b12, h⟩ := h
      refine r_iald hx hb hE hW 142 0 ⟨rfl, by decide, by decide⟩ (n := 240) (f := a3 42) rfl b12 (v := a3 42 ((((12 : Int32)) * x3) + x4).toNatClampNeg) rfl dX7_print_105 ?_
      refine lv_i2l (v := (a3 42 ((((12 : Int32)) * x3) + x4).toNatClampNeg).toInt64) hx hb dX7_print_106 rfl ?_
      refine lv_ladd hx hb dX7_print_107 ?_
      refine lv_lstore_n (lv' := [(1, .long ((((31 : Int64)) * ((((31 : Int64)) * x1) + ((a3 41 ((((12 : Int32)) * x3) + x4).toNatClampNeg).toInt64))) + ((a3 42 ((((12 : Int32)) * x3) + x4).toNatClampNeg).toInt64))), (0, .ref (ad 30 0)), (3, .int x3), (4, .int x4)]) hx hb dX7_print_108 rfl hl (by decide) rfl (fun ls hl => ?_)
      refine lv_iinc (v := x4 + (1 : Int32)) (lv' := [(4, .int (x4 + (1 : Int32))), (1, .long ((((31 : Int64)) * ((((31 : Int64)) * x1) + ((a3 41 ((((12 : Int32)) * x3) + x4).toNatClampNeg).toInt64))) + ((a3 42 ((((12 : Int32)) * x3) + x4).toNatClampNeg).toInt64))), (0, .ref (ad 30 0)), (3, .int x3)]) hx hb dX7_print_109 hl (k := 3) rfl rfl (by decide) rfl (fun ls hl => ?_)
      refine lv_goto (tgt := 60) hx hb dX7_print_112 (by decide) ?_
      exact ih a3 ((((31 : Int64)) * ((((31 : Int64)) * x1) + ((a3 41 ((((12 : Int32)) * x3) + x4).toNatClampNeg).toInt64))) + ((a3 42 ((((12 : Int32)) * x3) + x4).toNatClampNeg).toInt64)) x3 (x4 + (1 : Int32)) hW hS (lv_sub hl [2, 1, 3, 0] rfl) h
set_option maxHeartbeats 4000000 in
set_option maxRecDepth 100000 in
theorem tX7_print_19 {p : Program} {l : Launch} {e : Env} {s : State} {m : MethodId} {args : Array Value} {below : List Frame} {meth : Method} {c : Code} {z : Nat} {G : Gl} {ad : Nat → Nat → Nat} {σ : SG} {ν : NU} {ρ : RH} {lo : Int64} (X : Cx p l e s m args below meth c cX7_print (some .long) 5 RX7 wsX7_print z G)   (post : Int64 → RH → Prop) : ∀ (n : Nat) (a3 : RH) (x1 : Int64) (x3 : Int32) {H : Heap} {locs : List Loc} {ls : Array Slot}, WP z G ad (σ, ν, a3, lo) H → va_S (Az z) s.heap H locs → lv_has ls 5 [(0, .ref (ad 30 0)), (1, .long x1), (3, .int x3)] → wX7_print_19  post n a3 x1 x3 → W p l e ({ frames := 6, cells := 0, slots := 0, locals := 150 } : Room) s m args below meth c H locs 0 0 (MQ below (Qls z G ad (fun r S1 => ∃ t : RH, S1 = (σ, ν, t, lo) ∧ post r t)) args s 0 0 (Az z)) (F0 m 19 ls []) := by
  obtain ⟨hx, hb, hr, hml, hown, hts, hlocks, hE, hz⟩ := id X
  intro n
  induction n with
  | zero =>
    intro a3 x1 x3 H locs ls hW hS hl h
    exact absurd h id
  | succ n ih =>
    intro a3 x1 x3 H locs ls hW hS hl h
    unfold wX7_print_19 at h
    refine lv_iload_n hx hb dX7_print_19 rfl (lv_at hl 2 rfl) ?_
    refine lv_iconst (v := (-1 : Int32)) hx hb dX7_print_20 (by decide) ?_
    refine r_icmp_eq hx hb rfl (show (-1 : Int32).toInt = (-1) by decide) (tgt := 124) dX7_print_21 (by decide) (fun c5 => ?_) (fun c5 => ?_)
    · have h := ite_t c5 h
      refine lv_lload_n hx hb dX7_print_124 rfl (lv_at hl 1 rfl) ?_
      exact W.lret (v := x1) hx hb hr (fun t ht _ => ⟨⟨_, (σ, ν, a3, lo), rfl, ⟨_, rfl, h⟩, WP.at9 ht hW⟩, hS.F ht⟩) hS.2.2 dX7_print_125 (hlocks := hlocks)
    · have h := ite_f c5 h
      refine lv_ldc2 (v := (31 : Int64)) hx hb hown (hts _ (List.mem_of_getElem? (i := 3) rfl)) dX7_print_24 ?_
      refine lv_ldc2 (v := (31 : Int64)) hx hb hown (hts _ (List.mem_of_getElem? (i := 3) rfl)) dX7_print_27 ?_
      refine lv_ldc2 (v := (31 : Int64)) hx hb hown (hts _ (List.mem_of_getElem? (i := 3) rfl)) dX7_print_30 ?_
      refine lv_lload_n hx hb dX7_print_33 rfl (lv_at hl 1 rfl) ?_
      refine lv_lmul hx hb dX7_print_34 ?_
      refine lv_iload_n hx hb dX7_print_35 rfl (lv_at hl 2 rfl) ?_
      refine lv_i2l (v := x3.toInt64) hx hb dX7_print_36 rfl ?_
      refine lv_ladd hx hb dX7_print_37 ?_
      refine lv_lmul hx hb dX7_print_38 ?_
      refine lv_aload_n hx hb dX7_print_39 rfl (lv_at hl 0 rfl) ?_
      refine r_get (C := RX7) (T := TX7) (N := 49) (ci := 10) (fs := fl_30 ad ν a3 0 (σ 30 0)) hx hb hts hown hE hW 30 0 rfl rfl rfl (fun w h => List.mem_cons_of_mem _ (List.mem_append_right _ h)) 38 (by decide) (List.mem_of_getElem? (i := 4) rfl) rfl (v := .ref (ad 138 0)) rfl dX7_print_40 ?_
      refine lv_iload_n hx hb dX7_print_43 rfl (lv_at hl 2 rfl) ?_
      obtain ⟨b6, h⟩ := h
      refine r_iald hx hb hE hW 138 0 ⟨rfl, by decide, by decide⟩ (n := 20) (f := a3 38) rfl b6 (v := a3 38 x3.toNatClampNeg) rfl dX7_print_44 ?_
      refine lv_i2l (v := (a3 38 x3.toNatClampNeg).toInt64) hx hb dX7_print_45 rfl ?_
      refine lv_ladd hx hb dX7_print_46 ?_
      refine lv_lmul hx hb dX7_print_47 ?_
      refine lv_aload_n hx hb dX7_print_48 rfl (lv_at hl 0 rfl) ?_
      refine r_get (C := RX7) (T := TX7) (N := 49) (ci := 10) (fs := fl_30 ad ν a3 0 (σ 30 0)) hx hb hts hown hE hW 30 0 rfl rfl rfl (fun w h => List.mem_cons_of_mem _ (List.mem_append_right _ h)) 40 (by decide) (List.mem_of_getElem? (i := 5) rfl) rfl (v := .ref (ad 140 0)) rfl dX7_print_49 ?_
      refine lv_iload_n hx hb dX7_print_52 rfl (lv_at hl 2 rfl) ?_
      obtain ⟨b7, h⟩ := h
      refine r_iald hx hb hE hW 140 0 ⟨rfl, by decide, by decide⟩ (n := 20) (f := a3 40) rfl b7 (v := a3 40 x3.toNatClampNeg) rfl dX7_print_53 ?_
      refine lv_i2l (v := (a3 40 x3.toNatClampNeg).toInt64) hx hb dX7_print_54 rfl ?_
      refine lv_ladd hx hb dX7_print_55 ?_
      refine lv_lstore_n (lv' := [(1, .long ((((31 : Int64)) * ((((31 : Int64)) * ((((31 : Int64)) * x1) + (x3.toInt64))) + ((a3 38 x3.toNatClampNeg).toInt64))) + ((a3 40 x3.toNatClampNeg).toInt64))), (0, .ref (ad 30 0)), (3, .int x3)]) hx hb dX7_print_56 rfl hl (by decide) rfl (fun ls hl => ?_)
      refine lv_iconst (v := (0 : Int32)) hx hb dX7_print_57 (by decide) ?_
      refine lv_istore (lv' := [(4, .int ((0 : Int32))), (1, .long ((((31 : Int64)) * ((((31 : Int64)) * ((((31 : Int64)) * x1) + (x3.toInt64))) + ((a3 38 x3.toNatClampNeg).toInt64))) + ((a3 40 x3.toNatClampNeg).toInt64))), (0, .ref (ad 30 0)), (3, .int x3)]) hx hb dX7_print_58 hl (by decide) rfl (fun ls hl => ?_)
      obtain ⟨n13, h⟩ := h
      exact tX7_print_60 (σ := σ) (ρ := ρ) X  (wX7_print_19  post n) post ih n13 a3 ((((31 : Int64)) * ((((31 : Int64)) * ((((31 : Int64)) * x1) + (x3.toInt64))) + ((a3 38 x3.toNatClampNeg).toInt64))) + ((a3 40 x3.toNatClampNeg).toInt64)) x3 ((0 : Int32)) hW hS (lv_sub hl [2, 1, 3, 0] rfl) h
set_option maxHeartbeats 4000000 in
set_option maxRecDepth 100000 in
theorem mtX7_print (l : Launch) (z : Nat) (G : Gl) (ad : Nat → Nat → Nat) (σ : SG) (ν : NU) (ρ : RH) (lo : Int64)  (post : Int64 → RH → Prop) (h : wpX7_print ρ  post) : Met l yX7_print wsX7_print ({ frames := 6, cells := 0, slots := 0, locals := 150 } : Room) (Pcs z G ad (σ, ν, ρ, lo) [.ref (ad 30 0)]) (Qls z G ad (fun r S1 => ∃ t : RH, S1 = (σ, ν, t, lo) ∧ post r t)) 0 0 (Az z) := by
  refine Met.ofW (cc := cX7_print) (maxL := 5) (ret := (some .long)) (by decide) rfl ?_
  intro p e s m args below meth c s₁ B hml hv
  obtain ⟨rfl, hz, hW, hE⟩ := hv
  have hx := B.exec
  have hb := B.bytes
  have hr := B.returns
  have hts := atoms_spec (ws := wsX7_print) B.pre
  have hown : s.vm.findClass RX7 = some m.cls := findClass_of_methodNamed B.named
  have hlocks := B.notSynchronized
  have X : Cx p l e s m _ below meth c cX7_print (some .long) 5 RX7 wsX7_print z G := ⟨hx, hb, hr, hml, hown, hts, hlocks, hE, hz⟩
  have hS : va_S (Az z) s.heap s.heap [] := va_S.rf
  have hl := lv_entry [.ref (ad 30 0)] (n := 5) (Nat.le_of_ble_eq_true rfl)
  rw [lg_entry_eq]
  generalize (lg_sl [.ref (ad 30 0)] ++ List.replicate (5 - (lg_sl [.ref (ad 30 0)]).length) Slot.unset).toArray = ls at hl ⊢
  have hl : lv_has ls 5 [(0, .ref (ad 30 0))] := hl
  unfold wpX7_print at h
  refine lv_aload_n hx hb dX7_print_0 rfl (lv_at hl 0 rfl) ?_
  refine lv_iconst (v := (0 : Int32)) hx hb dX7_print_1 (by decide) ?_
  refine r_putM hx hb hts hown hE hW hS (fun w h => List.mem_cons_of_mem _ (List.mem_append_right _ h)) 48 (by decide) (List.mem_of_getElem? (i := 1) rfl) rfl rfl rfl (x := (0 : Int32)) rfl rfl dX7_print_2 (fun t1 e2 H locs hW hS => ?_)
  have h := h t1 e2
  refine lv_aload_n hx hb dX7_print_5 rfl (lv_at hl 0 rfl) ?_
  refine k_Vv (rest := []) (As := []) ⟨hx, hb, hml, hown, hts⟩ hE hz hS hW (mtX7_laysView l z G ad σ ν t1 lo  _ h) (cwV 0 hts gX7_print_X7_laysView rfl rfl rfl (by decide +kernel) ⟨Nat.le_of_ble_eq_true rfl, Nat.le_of_ble_eq_true rfl⟩) (r_recv hE hW 30 0 rfl (ci := 10) rfl rfl) rfl hl.1 rfl (Nat.le_of_ble_eq_true rfl) dX7_print_6 ⟨Nat.le_of_ble_eq_true rfl, Nat.le_of_ble_eq_true rfl⟩ (fun S1 H locs hp hW hS => ?_)
  obtain ⟨t3, rfl, h⟩ := hp
  refine lv_ldc2 (v := (11 : Int64)) hx hb hown (hts _ (List.mem_of_getElem? (i := 2) rfl)) dX7_print_9 ?_
  refine lv_lstore_n (lv' := [(1, .long ((11 : Int64))), (0, .ref (ad 30 0))]) hx hb dX7_print_12 rfl hl (by decide) rfl (fun ls hl => ?_)
  refine lv_aload_n hx hb dX7_print_13 rfl (lv_at hl 1 rfl) ?_
  refine lv_iconst (v := (-1 : Int32)) hx hb dX7_print_14 (by decide) ?_
  refine k_Vi (rest := []) (As := [.int ((-1 : Int32))]) ⟨hx, hb, hml, hown, hts⟩ hE hz hS hW (mtX7_behind l z G ad σ ν t3 lo ((-1 : Int32)) _ h) (cwV 1 hts gX7_print_X7_behind rfl rfl rfl (by decide +kernel) ⟨Nat.le_of_ble_eq_true rfl, Nat.le_of_ble_eq_true rfl⟩) (r_recv hE hW 30 0 rfl (ci := 10) rfl rfl) rfl hl.1 rfl (Nat.le_of_ble_eq_true rfl) dX7_print_15 ⟨Nat.le_of_ble_eq_true rfl, Nat.le_of_ble_eq_true rfl⟩ (fun r4 S1 H locs hp hW hS => ?_)
  obtain ⟨rfl, h⟩ := hp
  refine lv_istore_n (lv' := [(3, .int r4), (1, .long ((11 : Int64))), (0, .ref (ad 30 0))]) hx hb dX7_print_18 rfl hl (by decide) rfl (fun ls hl => ?_)
  obtain ⟨n14, h⟩ := h
  exact tX7_print_19 (σ := σ) (ρ := ρ) X  post  n14 t3 ((11 : Int64)) r4 hW hS (lv_sub hl [2, 1, 0] rfl) h
