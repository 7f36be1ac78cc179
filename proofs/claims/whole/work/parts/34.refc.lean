/-! method by method: what it asks of the state (wp), and its walk. Written by wip/gen/gen.py -/
set_option maxHeartbeats 4000000 in
set_option maxRecDepth 100000 in
theorem tX7_amends_47 {p : Program} {l : Launch} {e : Env} {s : State} {m : MethodId} {args : Array Value} {below : List Frame} {meth : Method} {c : Code} {z : Nat} {G : Gl} {ad : Nat → Nat → Nat} {σ : SG} {ν : NU} {ρ : RH} {lo : Int64} (X : Cx p l e s m args below meth c cX7_amends (some .boolean) 5 RX7 wsX7_amends z G) (p1 : Int32) (p2 : Int32)  (post : Int32 → RH → Prop) : ∀ (n : Nat) (a3 : RH) (x3 : Int32) (x4 : Int32) {H : Heap} {locs : List Loc} {ls : Array Slot}, WP z G ad (σ, ν, a3, lo) H → va_S (Az z) s.heap H locs → lv_has ls 5 [(0, .ref (ad 30 0)), (1, .int p1), (3, .int x3), (4, .int x4)] → wX7_amends_47 p1 p2 post n a3 x3 x4 → W p l e ({ frames := 0, cells := 0, slots := 0, locals := 0 } : Room) s m args below meth c H locs 0 0 (MQ below (Qis z G ad (fun r S1 => ∃ t : RH, S1 = (σ, ν, t, lo) ∧ post r t)) args s 0 0 (Az z)) (F0 m 47 ls []) := by
  obtain ⟨hx, hb, hr, hml, hown, hts, hlocks, hE, hz⟩ := id X
  intro n
  induction n with
  | zero =>
    intro a3 x3 x4 H locs ls hW hS hl h
    exact absurd h id
  | succ n ih =>
    intro a3 x3 x4 H locs ls hW hS hl h
    unfold wX7_amends_47 at h
    refine lv_iload hx hb dX7_amends_47 (lv_at hl 3 rfl) ?_
    refine lv_iconst (v := (4 : Int32)) hx hb dX7_amends_49 (by decide) ?_
    refine r_icmp_ge hx hb rfl (show (4 : Int32).toInt = 4 by decide) (tgt := 81) dX7_amends_50 (by decide) (fun c11 => ?_) (fun c11 => ?_)
    · have h := ite_f c11 h
      refine lv_iconst (v := (1 : Int32)) hx hb dX7_amends_81 (by decide) ?_
      exact W.zret (v := (1 : Int32)) (ty := .boolean) hx hb hr rfl (fun t ht _ => ⟨⟨_, (σ, ν, a3, lo), rfl, ⟨_, rfl, h⟩, WP.at9 ht hW⟩, hS.F ht⟩) hS.2.2 dX7_amends_82 (hlocks := hlocks)
    · have h := ite_t c11 h
      refine lv_aload_n hx hb dX7_amends_53 rfl (lv_at hl 0 rfl) ?_
      refine r_get (C := RX7) (T := TX7) (N := 49) (ci := 10) (fs := fl_30 ad ν a3 0 (σ 30 0)) hx hb hts hown hE hW 30 0 rfl rfl rfl (fun w h => List.mem_cons_of_mem _ (List.mem_append_right _ h)) 44 (by decide) (List.mem_of_getElem? (i := 6) rfl) rfl (v := .ref (ad 144 0)) rfl dX7_amends_54 ?_
      refine lv_iconst (v := (4 : Int32)) hx hb dX7_amends_57 (by decide) ?_
      refine lv_iload_n hx hb dX7_amends_58 rfl (lv_at hl 2 rfl) ?_
      refine lv_imul hx hb dX7_amends_59 ?_
      refine lv_iload hx hb dX7_amends_60 (lv_at hl 3 rfl) ?_
      refine lv_iadd hx hb dX7_amends_62 ?_
      refine lv_aload_n hx hb dX7_amends_63 rfl (lv_at hl 0 rfl) ?_
      refine r_get (C := RX7) (T := TX7) (N := 49) (ci := 10) (fs := fl_30 ad ν a3 0 (σ 30 0)) hx hb hts hown hE hW 30 0 rfl rfl rfl (fun w h => List.mem_cons_of_mem _ (List.mem_append_right _ h)) 21 (by decide) (List.mem_of_getElem? (i := 7) rfl) rfl (v := .ref (ad 121 0)) rfl dX7_amends_64 ?_
      refine lv_iconst (v := (4 : Int32)) hx hb dX7_amends_67 (by decide) ?_
      refine lv_iload_n hx hb dX7_amends_68 rfl (lv_at hl 1 rfl) ?_
      refine lv_imul hx hb dX7_amends_69 ?_
      refine lv_iload hx hb dX7_amends_70 (lv_at hl 3 rfl) ?_
      refine lv_iadd hx hb dX7_amends_72 ?_
      obtain ⟨b12, h⟩ := h
      refine r_iald hx hb hE hW 121 0 ⟨rfl, by decide, by decide⟩ (n := 160) (f := a3 21) rfl b12 (v := a3 21 ((((4 : Int32)) * p1) + x4).toNatClampNeg) rfl dX7_amends_73 ?_
      obtain ⟨b13, h⟩ := h
      refine r_iastM hx hb hE hW hS 44 (k := 144) rfl ⟨rfl, by decide, by decide⟩ (n := 160) (fun _ => rfl) (fun t q => by simp [fl_30, q]) b13 dX7_amends_74 (fun t14 e15 H locs hW hS => ?_)
      have h := h t14 e15
      refine lv_iinc (v := x4 + (1 : Int32)) (lv' := [(4, .int (x4 + (1 : Int32))), (0, .ref (ad 30 0)), (1, .int p1), (3, .int x3)]) hx hb dX7_amends_75 hl (k := 3) rfl rfl (by decide) rfl (fun ls hl => ?_)
      refine lv_goto (tgt := 47) hx hb dX7_amends_78 (by decide) ?_
      exact ih t14 x3 (x4 + (1 : Int32)) hW hS (lv_sub hl [1, 2, 3, 0] rfl) h
set_option maxHeartbeats 4000000 in
set_option maxRecDepth 100000 in
theorem mtX7_amends (l : Launch) (z : Nat) (G : Gl) (ad : Nat → Nat → Nat) (σ : SG) (ν : NU) (ρ : RH) (lo : Int64) (p1 : Int32) (p2 : Int32) (post : Int32 → RH → Prop) (h : wpX7_amends ρ p1 p2 post) : Met l yX7_amends wsX7_amends ({ frames := 0, cells := 0, slots := 0, locals := 0 } : Room) (Pcs z G ad (σ, ν, ρ, lo) [.ref (ad 30 0), .int p1, .int p2]) (Qis z G ad (fun r S1 => ∃ t : RH, S1 = (σ, ν, t, lo) ∧ post r t)) 0 0 (Az z) := by
  refine Met.ofW (cc := cX7_amends) (maxL := 5) (ret := (some .boolean)) (by decide) rfl ?_
  intro p e s m args below meth c s₁ B hml hv
  obtain ⟨rfl, hz, hW, hE⟩ := hv
  have hx := B.exec
  have hb := B.bytes
  have hr := B.returns
  have hts := atoms_spec (ws := wsX7_amends) B.pre
  have hown : s.vm.findClass RX7 = some m.cls := findClass_of_methodNamed B.named
  have hlocks := B.notSynchronized
  have X : Cx p l e s m _ below meth c cX7_amends (some .boolean) 5 RX7 wsX7_amends z G := ⟨hx, hb, hr, hml, hown, hts, hlocks, hE, hz⟩
  have hS : va_S (Az z) s.heap s.heap [] := va_S.rf
  have hl := lv_entry [.ref (ad 30 0), .int p1, .int p2] (n := 5) (Nat.le_of_ble_eq_true rfl)
  rw [lg_entry_eq]
  generalize (lg_sl [.ref (ad 30 0), .int p1, .int p2] ++ List.replicate (5 - (lg_sl [.ref (ad 30 0), .int p1, .int p2]).length) Slot.unset).toArray = ls at hl ⊢
  have hl : lv_has ls 5 [(0, .ref (ad 30 0)), (1, .int p1), (2, .int p2)] := hl
  unfold wpX7_amends at h
  refine lv_aload_n hx hb dX7_amends_0 rfl (lv_at hl 0 rfl) ?_
  refine r_get (C := RX7) (T := TX7) (N := 49) (ci := 10) (fs := fl_30 ad ν ρ 0 (σ 30 0)) hx hb hts hown hE hW 30 0 rfl rfl rfl (fun w h => List.mem_cons_of_mem _ (List.mem_append_right _ h)) 15 (by decide) (List.mem_of_getElem? (i := 1) rfl) rfl (v := .ref (ad 115 0)) rfl dX7_amends_1 ?_
  refine lv_iload_n hx hb dX7_amends_4 rfl (lv_at hl 1 rfl) ?_
  obtain ⟨b1, h⟩ := h
  refine r_iald hx hb hE hW 115 0 ⟨rfl, by decide, by decide⟩ (n := 40) (f := ρ 15) rfl b1 (v := ρ 15 p1.toNatClampNeg) rfl dX7_amends_5 ?_
  refine lv_istore_n (lv' := [(3, .int (ρ 15 p1.toNatClampNeg)), (0, .ref (ad 30 0)), (1, .int p1), (2, .int p2)]) hx hb dX7_amends_6 rfl hl (by decide) rfl (fun ls hl => ?_)
  refine lv_aload_n hx hb dX7_amends_7 rfl (lv_at hl 1 rfl) ?_
  refine r_get (C := RX7) (T := TX7) (N := 49) (ci := 10) (fs := fl_30 ad ν ρ 0 (σ 30 0)) hx hb hts hown hE hW 30 0 rfl rfl rfl (fun w h => List.mem_cons_of_mem _ (List.mem_append_right _ h)) 36 (by decide) (List.mem_of_getElem? (i := 2) rfl) rfl (v := .ref (ad 136 0)) rfl dX7_amends_8 ?_
  refine lv_iload_n hx hb dX7_amends_11 rfl (lv_at hl 0 rfl) ?_
  obtain ⟨b2, h⟩ := h
  refine r_iald hx hb hE hW 136 0 ⟨rfl, by decide, by decide⟩ (n := 40) (f := ρ 36) rfl b2 (v := ρ 36 (ρ 15 p1.toNatClampNeg).toNatClampNeg) rfl dX7_amends_12 ?_
  refine r_if_eq hx hb rfl (tgt := 18) dX7_amends_13 (by decide) (fun c3 => ?_) (fun c3 => ?_)
  · have h := ite_t c3 h
    refine lv_iload_n hx hb dX7_amends_18 rfl (lv_at hl 3 rfl) ?_
    refine r_if_eq hx hb rfl (tgt := 81) dX7_amends_19 (by decide) (fun c4 => ?_) (fun c4 => ?_)
    · have h := ite_t c4 h
      refine lv_iconst (v := (1 : Int32)) hx hb dX7_amends_81 (by decide) ?_
      exact W.zret (v := (1 : Int32)) (ty := .boolean) hx hb hr rfl (fun t ht _ => ⟨⟨_, (σ, ν, ρ, lo), rfl, ⟨_, rfl, h⟩, WP.at9 ht hW⟩, hS.F ht⟩) hS.2.2 dX7_amends_82 (hlocks := hlocks)
    · have h := ite_f c4 h
      refine lv_aload_n hx hb dX7_amends_22 rfl (lv_at hl 1 rfl) ?_
      refine r_get (C := RX7) (T := TX7) (N := 49) (ci := 10) (fs := fl_30 ad ν ρ 0 (σ 30 0)) hx hb hts hown hE hW 30 0 rfl rfl rfl (fun w h => List.mem_cons_of_mem _ (List.mem_append_right _ h)) 13 (by decide) (List.mem_of_getElem? (i := 3) rfl) rfl (v := .ref (ad 113 0)) rfl dX7_amends_23 ?_
      refine lv_iload_n hx hb dX7_amends_26 rfl (lv_at hl 0 rfl) ?_
      obtain ⟨b5, h⟩ := h
      refine r_iald hx hb hE hW 113 0 ⟨rfl, by decide, by decide⟩ (n := 40) (f := ρ 13) rfl b5 (v := ρ 13 (ρ 15 p1.toNatClampNeg).toNatClampNeg) rfl dX7_amends_27 ?_
      refine lv_iconst (v := (2 : Int32)) hx hb dX7_amends_28 (by decide) ?_
      refine r_icmp_gt hx hb rfl (show (2 : Int32).toInt = 2 by decide) (tgt := 81) dX7_amends_29 (by decide) (fun c6 => ?_) (fun c6 => ?_)
      · have h := ite_f c6 h
        refine lv_iconst (v := (1 : Int32)) hx hb dX7_amends_81 (by decide) ?_
        exact W.zret (v := (1 : Int32)) (ty := .boolean) hx hb hr rfl (fun t ht _ => ⟨⟨_, (σ, ν, ρ, lo), rfl, ⟨_, rfl, h⟩, WP.at9 ht hW⟩, hS.F ht⟩) hS.2.2 dX7_amends_82 (hlocks := hlocks)
      · have h := ite_t c6 h
        refine lv_aload_n hx hb dX7_amends_32 rfl (lv_at hl 1 rfl) ?_
        refine r_get (C := RX7) (T := TX7) (N := 49) (ci := 10) (fs := fl_30 ad ν ρ 0 (σ 30 0)) hx hb hts hown hE hW 30 0 rfl rfl rfl (fun w h => List.mem_cons_of_mem _ (List.mem_append_right _ h)) 43 (by decide) (List.mem_of_getElem? (i := 4) rfl) rfl (v := .ref (ad 143 0)) rfl dX7_amends_33 ?_
        refine lv_iload_n hx hb dX7_amends_36 rfl (lv_at hl 0 rfl) ?_
        refine lv_aload_n hx hb dX7_amends_37 rfl (lv_at hl 1 rfl) ?_
        refine r_get (C := RX7) (T := TX7) (N := 49) (ci := 10) (fs := fl_30 ad ν ρ 0 (σ 30 0)) hx hb hts hown hE hW 30 0 rfl rfl rfl (fun w h => List.mem_cons_of_mem _ (List.mem_append_right _ h)) 20 (by decide) (List.mem_of_getElem? (i := 5) rfl) rfl (v := .ref (ad 120 0)) rfl dX7_amends_38 ?_
        refine lv_iload_n hx hb dX7_amends_41 rfl (lv_at hl 2 rfl) ?_
        obtain ⟨b7, h⟩ := h
        refine r_iald hx hb hE hW 120 0 ⟨rfl, by decide, by decide⟩ (n := 40) (f := ρ 20) rfl b7 (v := ρ 20 p1.toNatClampNeg) rfl dX7_amends_42 ?_
        obtain ⟨b8, h⟩ := h
        refine r_iastM hx hb hE hW hS 43 (k := 143) rfl ⟨rfl, by decide, by decide⟩ (n := 40) (fun _ => rfl) (fun t q => by simp [fl_30, q]) b8 dX7_amends_43 (fun t9 e10 H locs hW hS => ?_)
        have h := h t9 e10
        refine lv_iconst (v := (0 : Int32)) hx hb dX7_amends_44 (by decide) ?_
        refine lv_istore (lv' := [(4, .int ((0 : Int32))), (3, .int (ρ 15 p1.toNatClampNeg)), (0, .ref (ad 30 0)), (1, .int p1), (2, .int p2)]) hx hb dX7_amends_45 hl (by decide) rfl (fun ls hl => ?_)
        obtain ⟨n16, h⟩ := h
        exact tX7_amends_47 (σ := σ) (ρ := ρ) X p1 p2 post  n16 t9 (ρ 15 p1.toNatClampNeg) ((0 : Int32)) hW hS (lv_sub hl [2, 3, 1, 0] rfl) h
  · have h := ite_f c3 h
    refine lv_iconst (v := (0 : Int32)) hx hb dX7_amends_16 (by decide) ?_
    exact W.zret (v := (0 : Int32)) (ty := .boolean) hx hb hr rfl (fun t ht _ => ⟨⟨_, (σ, ν, ρ, lo), rfl, ⟨_, rfl, h⟩, WP.at9 ht hW⟩, hS.F ht⟩) hS.2.2 dX7_amends_17 (hlocks := hlocks)
set_option maxHeartbeats 4000000 in
set_option maxRecDepth 100000 in
theorem mtX7_does (l : Launch) (z : Nat) (G : Gl) (ad : Nat → Nat → Nat) (σ : SG) (ν : NU) (ρ : RH) (lo : Int64) (p1 : Int32) (p2 : Int32) (p3 : Int32) (p4 : Int32) (post : Int32 → RH → Prop) (h : wpX7_does ρ p1 p2 p3 p4 post) : Met l yX7_does wsX7_does ({ frames := 3, cells := 0, slots := 0, locals := 73 } : Room) (Pcs z G ad (σ, ν, ρ, lo) [.ref (ad 30 0), .int p1, .int p2, .int p3, .int p4]) (Qis z G ad (fun r S1 => ∃ t : RH, S1 = (σ, ν, t, lo) ∧ post r t)) 0 0 (Az z) := by
  refine Met.ofW (cc := cX7_does) (maxL := 7) (ret := (some .boolean)) (by decide) rfl ?_
  intro p e s m args below meth c s₁ B hml hv
  obtain ⟨rfl, hz, hW, hE⟩ := hv
  have hx := B.exec
  have hb := B.bytes
  have hr := B.returns
  have hts := atoms_spec (ws := wsX7_does) B.pre
  have hown : s.vm.findClass RX7 = some m.cls := findClass_of_methodNamed B.named
  have hlocks := B.notSynchronized
  have X : Cx p l e s m _ below meth c cX7_does (some .boolean) 7 RX7 wsX7_does z G := ⟨hx, hb, hr, hml, hown, hts, hlocks, hE, hz⟩
  have hS : va_S (Az z) s.heap s.heap [] := va_S.rf
  have hl := lv_entry [.ref (ad 30 0), .int p1, .int p2, .int p3, .int p4] (n := 7) (Nat.le_of_ble_eq_true rfl)
  rw [lg_entry_eq]
  generalize (lg_sl [.ref (ad 30 0), .int p1, .int p2, .int p3, .int p4] ++ List.replicate (7 - (lg_sl [.ref (ad 30 0), .int p1, .int p2, .int p3, .int p4]).length) Slot.unset).toArray = ls at hl ⊢
  have hl : lv_has ls 7 [(0, .ref (ad 30 0)), (1, .int p1), (2, .int p2), (3, .int p3), (4, .int p4)] := hl
  unfold wpX7_does at h
  refine lv_aload_n hx hb dX7_does_0 rfl (lv_at hl 0 rfl) ?_
  refine r_get (C := RX7) (T := TX7) (N := 49) (ci := 10) (fs := fl_30 ad ν ρ 0 (σ 30 0)) hx hb hts hown hE hW 30 0 rfl rfl rfl (fun w h => List.mem_cons_of_mem _ (List.mem_append_right _ h)) 13 (by decide) (List.mem_of_getElem? (i := 1) rfl) rfl (v := .ref (ad 113 0)) rfl dX7_does_1 ?_
  refine lv_iload_n hx hb dX7_does_4 rfl (lv_at hl 1 rfl) ?_
  obtain ⟨b1, h⟩ := h
  refine r_iald hx hb hE hW 113 0 ⟨rfl, by decide, by decide⟩ (n := 40) (f := ρ 13) rfl b1 (v := ρ 13 p1.toNatClampNeg) rfl dX7_does_5 ?_
  refine lv_istore (lv' := [(5, .int (ρ 13 p1.toNatClampNeg)), (0, .ref (ad 30 0)), (1, .int p1), (2, .int p2), (3, .int p3), (4, .int p4)]) hx hb dX7_does_6 hl (by decide) rfl (fun ls hl => ?_)
  refine lv_aload_n hx hb dX7_does_8 rfl (lv_at hl 1 rfl) ?_
  refine r_get (C := RX7) (T := TX7) (N := 49) (ci := 10) (fs := fl_30 ad ν ρ 0 (σ 30 0)) hx hb hts hown hE hW 30 0 rfl rfl rfl (fun w h => List.mem_cons_of_mem _ (List.mem_append_right _ h)) 15 (by decide) (List.mem_of_getElem? (i := 2) rfl) rfl (v := .ref (ad 115 0)) rfl dX7_does_9 ?_
  refine lv_iload_n hx hb dX7_does_12 rfl (lv_at hl 2 rfl) ?_
  obtain ⟨b2, h⟩ := h
  refine r_iald hx hb hE hW 115 0 ⟨rfl, by decide, by decide⟩ (n := 40) (f := ρ 15) rfl b2 (v := ρ 15 p1.toNatClampNeg) rfl dX7_does_13 ?_
  refine lv_istore (lv' := [(6, .int (ρ 15 p1.toNatClampNeg)), (5, .int (ρ 13 p1.toNatClampNeg)), (0, .ref (ad 30 0)), (1, .int p1), (2, .int p2), (3, .int p3), (4, .int p4)]) hx hb dX7_does_14 hl (by decide) rfl (fun ls hl => ?_)
  refine lv_aload_n hx hb dX7_does_16 rfl (lv_at hl 2 rfl) ?_
  refine lv_iconst (v := (0 : Int32)) hx hb dX7_does_17 (by decide) ?_
  refine r_putM hx hb hts hown hE hW hS (fun w h => List.mem_cons_of_mem _ (List.mem_append_right _ h)) 45 (by decide) (List.mem_of_getElem? (i := 3) rfl) rfl rfl rfl (x := (0 : Int32)) rfl rfl dX7_does_18 (fun t3 e4 H locs hW hS => ?_)
  have h := h t3 e4
  refine lv_iload hx hb dX7_does_21 (lv_at hl 1 rfl) ?_
  refine r_if_ne hx hb rfl (tgt := 32) dX7_does_23 (by decide) (fun c5 => ?_) (fun c5 => ?_)
  · have h := ite_f c5 h
    refine lv_iload hx hb dX7_does_32 (lv_at hl 1 rfl) ?_
    refine lv_bipush (v := (7 : Int32)) hx hb dX7_does_34 (by decide) ?_
    refine r_icmp_ne hx hb rfl (show (7 : Int32).toInt = 7 by decide) (tgt := 55) dX7_does_36 (by decide) (fun c6 => ?_) (fun c6 => ?_)
    · have h := ite_f c6 h
      refine lv_aload_n hx hb dX7_does_55 rfl (lv_at hl 2 rfl) ?_
      refine r_get (C := RX7) (T := TX7) (N := 49) (ci := 10) (fs := fl_30 ad ν t3 0 (σ 30 0)) hx hb hts hown hE hW 30 0 rfl rfl rfl (fun w h => List.mem_cons_of_mem _ (List.mem_append_right _ h)) 37 (by decide) (List.mem_of_getElem? (i := 4) rfl) rfl (v := .ref (ad 137 0)) rfl dX7_does_56 ?_
      refine lv_iload hx hb dX7_does_59 (lv_at hl 0 rfl) ?_
      obtain ⟨b7, h⟩ := h
      refine r_zald hx hb hE hW 137 0 ⟨rfl, by decide, by decide⟩ (n := 20) (f := t3 37) rfl b7 (v := t3 37 (ρ 15 p1.toNatClampNeg).toNatClampNeg) rfl dX7_does_61 ?_
      refine r_if_ne hx hb rfl (tgt := 67) dX7_does_62 (by decide) (fun c8 => ?_) (fun c8 => ?_)
      · have h := ite_f c8 h
        refine lv_iload hx hb dX7_does_67 (lv_at hl 1 rfl) ?_
        refine lv_iconst (v := (1 : Int32)) hx hb dX7_does_69 (by decide) ?_
        refine r_icmp_ne hx hb rfl (show (1 : Int32).toInt = 1 by decide) (tgt := 83) dX7_does_70 (by decide) (fun c9 => ?_) (fun c9 => ?_)
        · have h := ite_f c9 h
          refine lv_iload hx hb dX7_does_83 (lv_at hl 1 rfl) ?_
          refine lv_iconst (v := (2 : Int32)) hx hb dX7_does_85 (by decide) ?_
          refine r_icmp_ne hx hb rfl (show (2 : Int32).toInt = 2 by decide) (tgt := 99) dX7_does_86 (by decide) (fun c10 => ?_) (fun c10 => ?_)
          · have h := ite_f c10 h
            refine lv_iload hx hb dX7_does_99 (lv_at hl 1 rfl) ?_
            refine lv_iconst (v := (3 : Int32)) hx hb dX7_does_101 (by decide) ?_
            refine r_icmp_ne hx hb rfl (show (3 : Int32).toInt = 3 by decide) (tgt := 115) dX7_does_102 (by decide) (fun c11 => ?_) (fun c11 => ?_)
            · have h := ite_f c11 h
              refine lv_iload hx hb dX7_does_115 (lv_at hl 1 rfl) ?_
              refine lv_iconst (v := (4 : Int32)) hx hb dX7_does_117 (by decide) ?_
              refine r_icmp_ne hx hb rfl (show (4 : Int32).toInt = 4 by decide) (tgt := 131) dX7_does_118 (by decide) (fun c12 => ?_) (fun c12 => ?_)
              · have h := ite_f c12 h
                refine lv_iload hx hb dX7_does_131 (lv_at hl 1 rfl) ?_
                refine lv_iconst (v := (5 : Int32)) hx hb dX7_does_133 (by decide) ?_
                refine r_icmp_ne hx hb rfl (show (5 : Int32).toInt = 5 by decide) (tgt := 147) dX7_does_134 (by decide) (fun c13 => ?_) (fun c13 => ?_)
                · have h := ite_f c13 h
                  refine lv_aload_n hx hb dX7_does_147 rfl (lv_at hl 2 rfl) ?_
                  refine lv_iload hx hb dX7_does_148 (lv_at hl 0 rfl) ?_
                  refine k_Vi (rest := []) (As := [.int (ρ 15 p1.toNatClampNeg)]) ⟨hx, hb, hml, hown, hts⟩ hE hz hS hW (mtX7_repeals l z G ad σ ν t3 lo (ρ 15 p1.toNatClampNeg) _ h) (cwV 1 hts gX7_does_X7_repeals rfl rfl rfl (by decide +kernel) ⟨Nat.le_of_ble_eq_true rfl, Nat.le_of_ble_eq_true rfl⟩) (r_recv hE hW 30 0 rfl (ci := 10) rfl rfl) rfl hl.1 rfl (Nat.le_of_ble_eq_true rfl) dX7_does_150 ⟨Nat.le_of_ble_eq_true rfl, Nat.le_of_ble_eq_true rfl⟩ (fun r14 S1 H locs hp hW hS => ?_)
                  obtain ⟨t15, rfl, h⟩ := hp
                  obtain ⟨g16, h⟩ := h
                  exact W.zret (v := r14) (ty := .boolean) hx hb hr (narrow_bo g16) (fun t ht _ => ⟨⟨_, (σ, ν, t15, lo), rfl, ⟨_, rfl, h⟩, WP.at9 ht hW⟩, hS.F ht⟩) hS.2.2 dX7_does_153 (hlocks := hlocks)
                · have h := ite_t c13 h
                  refine lv_aload_n hx hb dX7_does_137 rfl (lv_at hl 2 rfl) ?_
                  refine lv_iload_n hx hb dX7_does_138 rfl (lv_at hl 3 rfl) ?_
                  refine lv_iload hx hb dX7_does_139 (lv_at hl 0 rfl) ?_
                  refine k_Vi (rest := []) (As := [.int p1, .int (ρ 15 p1.toNatClampNeg)]) ⟨hx, hb, hml, hown, hts⟩ hE hz hS hW (mtX7_moves l z G ad σ ν t3 lo p1 (ρ 15 p1.toNatClampNeg) _ h) (cwV 2 hts gX7_does_X7_moves rfl rfl rfl (by decide +kernel) ⟨Nat.le_of_ble_eq_true rfl, Nat.le_of_ble_eq_true rfl⟩) (r_recv hE hW 30 0 rfl (ci := 10) rfl rfl) rfl hl.1 rfl (Nat.le_of_ble_eq_true rfl) dX7_does_141 ⟨Nat.le_of_ble_eq_true rfl, Nat.le_of_ble_eq_true rfl⟩ (fun r17 S1 H locs hp hW hS => ?_)
                  obtain ⟨t18, rfl, h⟩ := hp
                  refine lv_goto (tgt := 153) hx hb dX7_does_144 (by decide) ?_
                  obtain ⟨g19, h⟩ := h
                  exact W.zret (v := r17) (ty := .boolean) hx hb hr (narrow_bo g19) (fun t ht _ => ⟨⟨_, (σ, ν, t18, lo), rfl, ⟨_, rfl, h⟩, WP.at9 ht hW⟩, hS.F ht⟩) hS.2.2 dX7_does_153 (hlocks := hlocks)
              · have h := ite_t c12 h
                refine lv_aload_n hx hb dX7_does_121 rfl (lv_at hl 2 rfl) ?_
                refine lv_iload_n hx hb dX7_does_122 rfl (lv_at hl 3 rfl) ?_
                refine lv_iload hx hb dX7_does_123 (lv_at hl 0 rfl) ?_
                refine k_Vi (rest := []) (As := [.int p1, .int (ρ 15 p1.toNatClampNeg)]) ⟨hx, hb, hml, hown, hts⟩ hE hz hS hW (mtX7_renumbers l z G ad σ ν t3 lo p1 (ρ 15 p1.toNatClampNeg) _ h) (cwV 2 hts gX7_does_X7_renumbers rfl rfl rfl (by decide +kernel) ⟨Nat.le_of_ble_eq_true rfl, Nat.le_of_ble_eq_true rfl⟩) (r_recv hE hW 30 0 rfl (ci := 10) rfl rfl) rfl hl.1 rfl (Nat.le_of_ble_eq_true rfl) dX7_does_125 ⟨Nat.le_of_ble_eq_true rfl, Nat.le_of_ble_eq_true rfl⟩ (fun r20 S1 H locs hp hW hS => ?_)
                obtain ⟨t21, rfl, h⟩ := hp
                refine lv_goto (tgt := 153) hx hb dX7_does_128 (by decide) ?_
                obtain ⟨g22, h⟩ := h
                exact W.zret (v := r20) (ty := .boolean) hx hb hr (narrow_bo g22) (fun t ht _ => ⟨⟨_, (σ, ν, t21, lo), rfl, ⟨_, rfl, h⟩, WP.at9 ht hW⟩, hS.F ht⟩) hS.2.2 dX7_does_153 (hlocks := hlocks)
            · have h := ite_t c11 h
              refine lv_aload_n hx hb dX7_does_105 rfl (lv_at hl 2 rfl) ?_
              refine lv_iload_n hx hb dX7_does_106 rfl (lv_at hl 3 rfl) ?_
              refine lv_iload hx hb dX7_does_107 (lv_at hl 0 rfl) ?_
              refine k_Vi (rest := []) (As := [.int p1, .int (ρ 15 p1.toNatClampNeg)]) ⟨hx, hb, hml, hown, hts⟩ hE hz hS hW (mtX7_omits l z G ad σ ν t3 lo p1 (ρ 15 p1.toNatClampNeg) _ h) (cwV 2 hts gX7_does_X7_omits rfl rfl rfl (by decide +kernel) ⟨Nat.le_of_ble_eq_true rfl, Nat.le_of_ble_eq_true rfl⟩) (r_recv hE hW 30 0 rfl (ci := 10) rfl rfl) rfl hl.1 rfl (Nat.le_of_ble_eq_true rfl) dX7_does_109 ⟨Nat.le_of_ble_eq_true rfl, Nat.le_of_ble_eq_true rfl⟩ (fun r23 S1 H locs hp hW hS => ?_)
              obtain ⟨t24, rfl, h⟩ := hp
              refine lv_goto (tgt := 153) hx hb dX7_does_112 (by decide) ?_
              obtain ⟨g25, h⟩ := h
              exact W.zret (v := r23) (ty := .boolean) hx hb hr (narrow_bo g25) (fun t ht _ => ⟨⟨_, (σ, ν, t24, lo), rfl, ⟨_, rfl, h⟩, WP.at9 ht hW⟩, hS.F ht⟩) hS.2.2 dX7_does_153 (hlocks := hlocks)
          · have h := ite_t c10 h
            refine lv_aload_n hx hb dX7_does_89 rfl (lv_at hl 2 rfl) ?_
            refine lv_iload_n hx hb dX7_does_90 rfl (lv_at hl 3 rfl) ?_
            refine lv_iload hx hb dX7_does_91 (lv_at hl 0 rfl) ?_
            refine k_Vi (rest := []) (As := [.int p1, .int (ρ 15 p1.toNatClampNeg)]) ⟨hx, hb, hml, hown, hts⟩ hE hz hS hW (mtX7_substitutes l z G ad σ ν t3 lo p1 (ρ 15 p1.toNatClampNeg) _ h) (cwV 2 hts gX7_does_X7_substitutes rfl rfl rfl (by decide +kernel) ⟨Nat.le_of_ble_eq_true rfl, Nat.le_of_ble_eq_true rfl⟩) (r_recv hE hW 30 0 rfl (ci := 10) rfl rfl) rfl hl.1 rfl (Nat.le_of_ble_eq_true rfl) dX7_does_93 ⟨Nat.le_of_ble_eq_true rfl, Nat.le_of_ble_eq_true rfl⟩ (fun r26 S1 H locs hp hW hS => ?_)
            obtain ⟨t27, rfl, h⟩ := hp
            refine lv_goto (tgt := 153) hx hb dX7_does_96 (by decide) ?_
            obtain ⟨g28, h⟩ := h
            exact W.zret (v := r26) (ty := .boolean) hx hb hr (narrow_bo g28) (fun t ht _ => ⟨⟨_, (σ, ν, t27, lo), rfl, ⟨_, rfl, h⟩, WP.at9 ht hW⟩, hS.F ht⟩) hS.2.2 dX7_does_153 (hlocks := hlocks)
        · have h := ite_t c9 h
          refine lv_aload_n hx hb dX7_does_73 rfl (lv_at hl 2 rfl) ?_
          refine lv_iload_n hx hb dX7_does_74 rfl (lv_at hl 3 rfl) ?_
          refine lv_iload hx hb dX7_does_75 (lv_at hl 0 rfl) ?_
          refine k_Vi (rest := []) (As := [.int p1, .int (ρ 15 p1.toNatClampNeg)]) ⟨hx, hb, hml, hown, hts⟩ hE hz hS hW (mtX7_inserts l z G ad σ ν t3 lo p1 (ρ 15 p1.toNatClampNeg) _ h) (cwV 2 hts gX7_does_X7_inserts rfl rfl rfl (by decide +kernel) ⟨Nat.le_of_ble_eq_true rfl, Nat.le_of_ble_eq_true rfl⟩) (r_recv hE hW 30 0 rfl (ci := 10) rfl rfl) rfl hl.1 rfl (Nat.le_of_ble_eq_true rfl) dX7_does_77 ⟨Nat.le_of_ble_eq_true rfl, Nat.le_of_ble_eq_true rfl⟩ (fun r29 S1 H locs hp hW hS => ?_)
          obtain ⟨t30, rfl, h⟩ := hp
          refine lv_goto (tgt := 153) hx hb dX7_does_80 (by decide) ?_
          obtain ⟨g31, h⟩ := h
          exact W.zret (v := r29) (ty := .boolean) hx hb hr (narrow_bo g31) (fun t ht _ => ⟨⟨_, (σ, ν, t30, lo), rfl, ⟨_, rfl, h⟩, WP.at9 ht hW⟩, hS.F ht⟩) hS.2.2 dX7_does_153 (hlocks := hlocks)
      · have h := ite_t c8 h
        refine lv_iconst (v := (0 : Int32)) hx hb dX7_does_65 (by decide) ?_
        exact W.zret (v := (0 : Int32)) (ty := .boolean) hx hb hr rfl (fun t ht _ => ⟨⟨_, (σ, ν, t3, lo), rfl, ⟨_, rfl, h⟩, WP.at9 ht hW⟩, hS.F ht⟩) hS.2.2 dX7_does_66 (hlocks := hlocks)
    · have h := ite_t c6 h
      refine lv_aload_n hx hb dX7_does_39 rfl (lv_at hl 2 rfl) ?_
      refine lv_iload_n hx hb dX7_does_40 rfl (lv_at hl 3 rfl) ?_
      refine lv_aload_n hx hb dX7_does_41 rfl (lv_at hl 2 rfl) ?_
      refine lv_iload hx hb dX7_does_42 (lv_at hl 0 rfl) ?_
      refine lv_iload_n hx hb dX7_does_44 rfl (lv_at hl 4 rfl) ?_
      refine lv_iload_n hx hb dX7_does_45 rfl (lv_at hl 5 rfl) ?_
      refine lv_iload hx hb dX7_does_46 (lv_at hl 6 rfl) ?_
      refine k_Vi (rest := [.int p1, .ref (ad 30 0)]) (As := [.int (ρ 15 p1.toNatClampNeg), .int p2, .int p3, .int p4]) ⟨hx, hb, hml, hown, hts⟩ hE hz hS hW (mtX7_isInEffect l z G ad σ ν t3 lo (ρ 15 p1.toNatClampNeg) p2 p3 p4 _ h) (cwV 4 hts gX7_does_X7_isInEffect rfl rfl rfl (by decide +kernel) ⟨Nat.le_of_ble_eq_true rfl, Nat.le_of_ble_eq_true rfl⟩) (r_recv hE hW 30 0 rfl (ci := 10) rfl rfl) rfl hl.1 rfl (Nat.le_of_ble_eq_true rfl) dX7_does_48 ⟨Nat.le_of_ble_eq_true rfl, Nat.le_of_ble_eq_true rfl⟩ (fun r32 S1 H locs hp hW hS => ?_)
      obtain ⟨rfl, h⟩ := hp
      refine k_Vi (rest := []) (As := [.int p1, .int r32]) ⟨hx, hb, hml, hown, hts⟩ hE hz hS hW (mtX7_amends l z G ad σ ν t3 lo p1 r32 _ h) (cwV 2 hts gX7_does_X7_amends rfl rfl rfl (by decide +kernel) ⟨Nat.le_of_ble_eq_true rfl, Nat.le_of_ble_eq_true rfl⟩) (r_recv hE hW 30 0 rfl (ci := 10) rfl rfl) rfl hl.1 rfl (Nat.le_of_ble_eq_true rfl) dX7_does_51 ⟨Nat.le_of_ble_eq_true rfl, Nat.le_of_ble_eq_true rfl⟩ (fun r33 S1 H locs hp hW hS => ?_)
      obtain ⟨t34, rfl, h⟩ := hp
      obtain ⟨g35, h⟩ := h
      exact W.zret (v := r33) (ty := .boolean) hx hb hr (narrow_bo g35) (fun t ht _ => ⟨⟨_, (σ, ν, t34, lo), rfl, ⟨_, rfl, h⟩, WP.at9 ht hW⟩, hS.F ht⟩) hS.2.2 dX7_does_54 (hlocks := hlocks)
  · have h := ite_t c5 h
    refine lv_aload_n hx hb dX7_does_26 rfl (lv_at hl 2 rfl) ?_
    refine lv_iload_n hx hb dX7_does_27 rfl (lv_at hl 3 rfl) ?_
    refine k_Vi (rest := []) (As := [.int p1]) ⟨hx, hb, hml, hown, hts⟩ hE hz hS hW (mtX7_enacts l z G ad σ ν t3 lo p1 _ h) (cwV 1 hts gX7_does_X7_enacts rfl rfl rfl (by decide +kernel) ⟨Nat.le_of_ble_eq_true rfl, Nat.le_of_ble_eq_true rfl⟩) (r_recv hE hW 30 0 rfl (ci := 10) rfl rfl) rfl hl.1 rfl (Nat.le_of_ble_eq_true rfl) dX7_does_28 ⟨Nat.le_of_ble_eq_true rfl, Nat.le_of_ble_eq_true rfl⟩ (fun r36 S1 H locs hp hW hS => ?_)
    obtain ⟨t37, rfl, h⟩ := hp
    obtain ⟨g38, h⟩ := h
    exact W.zret (v := r36) (ty := .boolean) hx hb hr (narrow_bo g38) (fun t ht _ => ⟨⟨_, (σ, ν, t37, lo), rfl, ⟨_, rfl, h⟩, WP.at9 ht hW⟩, hS.F ht⟩) hS.2.2 dX7_does_31 (hlocks := hlocks)
set_option maxHeartbeats 4000000 in
set_option maxRecDepth 100000 in
theorem tX7_views_261 {p : Program} {l : Launch} {e : Env} {s : State} {m : MethodId} {args : Array Value} {below : List Frame} {meth : Method} {c : Code} {z : Nat} {G : Gl} {ad : Nat → Nat → Nat} {σ : SG} {ν : NU} {ρ : RH} {lo : Int64} (X : Cx p l e s m args below meth c cX7_views none 12 RX7 wsX7_views z G) (p1 : Int32) (p2 : Int32) (p3 : Int32) (κ120 : RH → Int32 → Int32 → Int32 → Prop) (post : RH → Prop) (hk120 : ∀ (a3 : RH) (x4 : Int32) (x5 : Int32) (x6 : Int32) {H : Heap} {locs : List Loc} {ls : Array Slot}, WP z G ad (σ, ν, a3, lo) H → va_S (Az z) s.heap H locs → lv_has ls 12 [(0, .ref (ad 30 0)), (1, .int p1), (2, .int p2), (3, .int p3), (4, .int x4), (5, .int x5), (6, .int x6)] → κ120 a3 x4 x5 x6 → W p l e ({ frames := 4, cells := 0, slots := 0, locals := 99 } : Room) s m args below meth c H locs 0 0 (MQ below (Qvs z G ad (fun S1 => ∃ t : RH, S1 = (σ, ν, t, lo) ∧ post t)) args s 0 0 (Az z)) (F0 m 120 ls [])) : ∀ (a3 : RH) (x4 : Int32) (x7 : Int32) (x8 : Int32) (y0 : Nat) (y1 : Int32) (y2 : Int32) {H : Heap} {locs : List Loc} {ls : Array Slot}, WP z G ad (σ, ν, a3, lo) H → va_S (Az z) s.heap H locs → lv_has ls 12 [(0, .ref (ad 30 0)), (1, .int p1), (2, .int p2), (3, .int p3), (4, .int x4), (7, .int x7), (8, .int x8)] → jX7_views_261 p1 p2 p3 κ120 post a3 x4 x7 x8 y0 y1 y2 → W p l e ({ frames := 4, cells := 0, slots := 0, locals := 99 } : Room) s m args below meth c H locs 0 0 (MQ below (Qvs z G ad (fun S1 => ∃ t : RH, S1 = (σ, ν, t, lo) ∧ post t)) args s 0 0 (Az z)) (F0 m 261 ls [.int y2, .int y1, .ref (ad 136 0)]) := by
  obtain ⟨hx, hb, hr, hml, hown, hts, hlocks, hE, hz⟩ := id X
  intro a3 x4 x7 x8 y0 y1 y2 H locs ls hW hS hl h
  unfold jX7_views_261 at h
  obtain ⟨b10, h⟩ := h
  refine r_iastM hx hb hE hW hS 36 (k := 136) rfl ⟨rfl, by decide, by decide⟩ (n := 40) (fun _ => rfl) (fun t q => by simp [fl_30, q]) b10 dX7_views_261 (fun t11 e12 H locs hW hS => ?_)
  have h := h t11 e12
  refine lv_iload hx hb dX7_views_262 (lv_at hl 6 rfl) ?_
  refine lv_istore (lv' := [(5, .int x8), (0, .ref (ad 30 0)), (1, .int p1), (2, .int p2), (3, .int p3), (4, .int x4), (7, .int x7), (8, .int x8)]) hx hb dX7_views_264 hl (by decide) rfl (fun ls hl => ?_)
  refine lv_iload hx hb dX7_views_266 (lv_at hl 6 rfl) ?_
  refine lv_istore (lv' := [(6, .int x7), (5, .int x8), (0, .ref (ad 30 0)), (1, .int p1), (2, .int p2), (3, .int p3), (4, .int x4), (7, .int x7), (8, .int x8)]) hx hb dX7_views_268 hl (by decide) rfl (fun ls hl => ?_)
  refine lv_goto (tgt := 120) hx hb dX7_views_270 (by decide) ?_
  exact hk120 t11 x4 x8 x7 hW hS (lv_sub hl [2, 3, 4, 5, 6, 1, 0] rfl) h
set_option maxHeartbeats 4000000 in
set_option maxRecDepth 100000 in
theorem tX7_views_231 {p : Program} {l : Launch} {e : Env} {s : State} {m : MethodId} {args : Array Value} {below : List Frame} {meth : Method} {c : Code} {z : Nat} {G : Gl} {ad : Nat → Nat → Nat} {σ : SG} {ν : NU} {ρ : RH} {lo : Int64} (X : Cx p l e s m args below meth c cX7_views none 12 RX7 wsX7_views z G) (p1 : Int32) (p2 : Int32) (p3 : Int32) (κ120 : RH → Int32 → Int32 → Int32 → Prop) (post : RH → Prop) (hk120 : ∀ (a3 : RH) (x4 : Int32) (x5 : Int32) (x6 : Int32) {H : Heap} {locs : List Loc} {ls : Array Slot}, WP z G ad (σ, ν, a3, lo) H → va_S (Az z) s.heap H locs → lv_has ls 12 [(0, .ref (ad 30 0)), (1, .int p1), (2, .int p2), (3, .int p3), (4, .int x4), (5, .int x5), (6, .int x6)] → κ120 a3 x4 x5 x6 → W p l e ({ frames := 4, cells := 0, slots := 0, locals := 99 } : Room) s m args below meth c H locs 0 0 (MQ below (Qvs z G ad (fun S1 => ∃ t : RH, S1 = (σ, ν, t, lo) ∧ post t)) args s 0 0 (Az z)) (F0 m 120 ls [])) : ∀ (a3 : RH) (x5 : Int32) (x6 : Int32) (x7 : Int32) (x8 : Int32) (y0 : Int32) {H : Heap} {locs : List Loc} {ls : Array Slot}, WP z G ad (σ, ν, a3, lo) H → va_S (Az z) s.heap H locs → lv_has ls 12 [(0, .ref (ad 30 0)), (1, .int p1), (2, .int p2), (3, .int p3), (5, .int x5), (6, .int x6), (7, .int x7), (8, .int x8)] → jX7_views_231 p1 p2 p3 κ120 post a3 x5 x6 x7 x8 y0 → W p l e ({ frames := 4, cells := 0, slots := 0, locals := 99 } : Room) s m args below meth c H locs 0 0 (MQ below (Qvs z G ad (fun S1 => ∃ t : RH, S1 = (σ, ν, t, lo) ∧ post t)) args s 0 0 (Az z)) (F0 m 231 ls [.int y0]) := by
  obtain ⟨hx, hb, hr, hml, hown, hts, hlocks, hE, hz⟩ := id X
  intro a3 x5 x6 x7 x8 y0 H locs ls hW hS hl h
  unfold jX7_views_231 at h
  refine lv_istore (lv' := [(4, .int y0), (0, .ref (ad 30 0)), (1, .int p1), (2, .int p2), (3, .int p3), (5, .int x5), (6, .int x6), (7, .int x7), (8, .int x8)]) hx hb dX7_views_231 hl (by decide) rfl (fun ls hl => ?_)
  refine lv_iload hx hb dX7_views_233 (lv_at hl 0 rfl) ?_
  refine r_if_eq hx hb rfl (tgt := 270) dX7_views_235 (by decide) (fun c6 => ?_) (fun c6 => ?_)
  · have h := ite_t c6 h
    refine lv_goto (tgt := 120) hx hb dX7_views_270 (by decide) ?_
    exact hk120 a3 y0 x5 x6 hW hS (lv_sub hl [1, 2, 3, 4, 0, 5, 6] rfl) h
  · have h := ite_f c6 h
    refine lv_aload_n hx hb dX7_views_238 rfl (lv_at hl 1 rfl) ?_
    refine r_get (C := RX7) (T := TX7) (N := 49) (ci := 10) (fs := fl_30 ad ν a3 0 (σ 30 0)) hx hb hts hown hE hW 30 0 rfl rfl rfl (fun w h => List.mem_cons_of_mem _ (List.mem_append_right _ h)) 36 (by decide) (List.mem_of_getElem? (i := 4) rfl) rfl (v := .ref (ad 136 0)) rfl dX7_views_239 ?_
    refine lv_iload hx hb dX7_views_242 (lv_at hl 7 rfl) ?_
    refine lv_aload_n hx hb dX7_views_244 rfl (lv_at hl 1 rfl) ?_
    refine lv_iload hx hb dX7_views_245 (lv_at hl 7 rfl) ?_
    refine lv_iload_n hx hb dX7_views_247 rfl (lv_at hl 2 rfl) ?_
    refine lv_iload_n hx hb dX7_views_248 rfl (lv_at hl 3 rfl) ?_
    refine lv_iload_n hx hb dX7_views_249 rfl (lv_at hl 4 rfl) ?_
    refine k_Vi (rest := [.int x7, .ref (ad 136 0)]) (As := [.int x7, .int p1, .int p2, .int p3]) ⟨hx, hb, hml, hown, hts⟩ hE hz hS hW (mtX7_does l z G ad σ ν a3 lo x7 p1 p2 p3 _ h) (cwV 4 hts gX7_views_X7_does rfl rfl rfl (by decide +kernel) ⟨Nat.le_of_ble_eq_true rfl, Nat.le_of_ble_eq_true rfl⟩) (r_recv hE hW 30 0 rfl (ci := 10) rfl rfl) rfl hl.1 rfl (Nat.le_of_ble_eq_true rfl) dX7_views_250 ⟨Nat.le_of_ble_eq_true rfl, Nat.le_of_ble_eq_true rfl⟩ (fun r7 S1 H locs hp hW hS => ?_)
    obtain ⟨t8, rfl, h⟩ := hp
    refine r_if_eq hx hb rfl (tgt := 260) dX7_views_253 (by decide) (fun c9 => ?_) (fun c9 => ?_)
    · have h := ite_t c9 h
      refine lv_iconst (v := (2 : Int32)) hx hb dX7_views_260 (by decide) ?_
      exact tX7_views_261 (σ := σ) (ρ := ρ) X p1 p2 p3 κ120 post hk120 t8 y0 x7 x8 0 x7 ((2 : Int32)) hW hS (lv_sub hl [1, 2, 3, 4, 0, 7, 8] rfl) h
    · have h := ite_f c9 h
      refine lv_iconst (v := (1 : Int32)) hx hb dX7_views_256 (by decide) ?_
      refine lv_goto (tgt := 261) hx hb dX7_views_257 (by decide) ?_
      exact tX7_views_261 (σ := σ) (ρ := ρ) X p1 p2 p3 κ120 post hk120 t8 y0 x7 x8 0 x7 ((1 : Int32)) hW hS (lv_sub hl [1, 2, 3, 4, 0, 7, 8] rfl) h
set_option maxHeartbeats 4000000 in
set_option maxRecDepth 100000 in
theorem tX7_views_180 {p : Program} {l : Launch} {e : Env} {s : State} {m : MethodId} {args : Array Value} {below : List Frame} {meth : Method} {c : Code} {z : Nat} {G : Gl} {ad : Nat → Nat → Nat} {σ : SG} {ν : NU} {ρ : RH} {lo : Int64} (X : Cx p l e s m args below meth c cX7_views none 12 RX7 wsX7_views z G) (p1 : Int32) (p2 : Int32) (p3 : Int32) (κ120 : RH → Int32 → Int32 → Int32 → Prop) (κ136 : RH → Int32 → Int32 → Int32 → Int32 → Int32 → Prop) (post : RH → Prop) (hk120 : ∀ (a3 : RH) (x4 : Int32) (x5 : Int32) (x6 : Int32) {H : Heap} {locs : List Loc} {ls : Array Slot}, WP z G ad (σ, ν, a3, lo) H → va_S (Az z) s.heap H locs → lv_has ls 12 [(0, .ref (ad 30 0)), (1, .int p1), (2, .int p2), (3, .int p3), (4, .int x4), (5, .int x5), (6, .int x6)] → κ120 a3 x4 x5 x6 → W p l e ({ frames := 4, cells := 0, slots := 0, locals := 99 } : Room) s m args below meth c H locs 0 0 (MQ below (Qvs z G ad (fun S1 => ∃ t : RH, S1 = (σ, ν, t, lo) ∧ post t)) args s 0 0 (Az z)) (F0 m 120 ls [])) (hk136 : ∀ (a3 : RH) (x5 : Int32) (x6 : Int32) (x7 : Int32) (x8 : Int32) (x9 : Int32) {H : Heap} {locs : List Loc} {ls : Array Slot}, WP z G ad (σ, ν, a3, lo) H → va_S (Az z) s.heap H locs → lv_has ls 12 [(0, .ref (ad 30 0)), (1, .int p1), (2, .int p2), (3, .int p3), (5, .int x5), (6, .int x6), (7, .int x7), (8, .int x8), (9, .int x9)] → κ136 a3 x5 x6 x7 x8 x9 → W p l e ({ frames := 4, cells := 0, slots := 0, locals := 99 } : Room) s m args below meth c H locs 0 0 (MQ below (Qvs z G ad (fun S1 => ∃ t : RH, S1 = (σ, ν, t, lo) ∧ post t)) args s 0 0 (Az z)) (F0 m 136 ls [])) : ∀ (a3 : RH) (x5 : Int32) (x6 : Int32) (x7 : Int32) (x8 : Int32) (x9 : Int32) (x10 : Int32) (y0 : Int32) {H : Heap} {locs : List Loc} {ls : Array Slot}, WP z G ad (σ, ν, a3, lo) H → va_S (Az z) s.heap H locs → lv_has ls 12 [(0, .ref (ad 30 0)), (1, .int p1), (2, .int p2), (3, .int p3), (5, .int x5), (6, .int x6), (7, .int x7), (8, .int x8), (9, .int x9), (10, .int x10)] → jX7_views_180 p1 p2 p3 κ120 κ136 post a3 x5 x6 x7 x8 x9 x10 y0 → W p l e ({ frames := 4, cells := 0, slots := 0, locals := 99 } : Room) s m args below meth c H locs 0 0 (MQ below (Qvs z G ad (fun S1 => ∃ t : RH, S1 = (σ, ν, t, lo) ∧ post t)) args s 0 0 (Az z)) (F0 m 180 ls [.int y0]) := by
  obtain ⟨hx, hb, hr, hml, hown, hts, hlocks, hE, hz⟩ := id X
  intro a3 x5 x6 x7 x8 x9 x10 y0 H locs ls hW hS hl h
  unfold jX7_views_180 at h
  refine lv_istore (lv' := [(11, .int y0), (0, .ref (ad 30 0)), (1, .int p1), (2, .int p2), (3, .int p3), (5, .int x5), (6, .int x6), (7, .int x7), (8, .int x8), (9, .int x9), (10, .int x10)]) hx hb dX7_views_180 hl (by decide) rfl (fun ls hl => ?_)
  refine lv_aload_n hx hb dX7_views_182 rfl (lv_at hl 1 rfl) ?_
  refine lv_iload hx hb dX7_views_183 (lv_at hl 9 rfl) ?_
  refine lv_iload_n hx hb dX7_views_185 rfl (lv_at hl 2 rfl) ?_
  refine lv_iload_n hx hb dX7_views_186 rfl (lv_at hl 3 rfl) ?_
  refine lv_iload_n hx hb dX7_views_187 rfl (lv_at hl 4 rfl) ?_
  refine k_Vi (rest := []) (As := [.int x9, .int p1, .int p2, .int p3]) ⟨hx, hb, hml, hown, hts⟩ hE hz hS hW (mtX7_isInEffect l z G ad σ ν a3 lo x9 p1 p2 p3 _ h) (cwV 4 hts gX7_views_X7_isInEffect rfl rfl rfl (by decide +kernel) ⟨Nat.le_of_ble_eq_true rfl, Nat.le_of_ble_eq_true rfl⟩) (r_recv hE hW 30 0 rfl (ci := 10) rfl rfl) rfl hl.1 rfl (Nat.le_of_ble_eq_true rfl) dX7_views_188 ⟨Nat.le_of_ble_eq_true rfl, Nat.le_of_ble_eq_true rfl⟩ (fun r15 S1 H locs hp hW hS => ?_)
  obtain ⟨rfl, h⟩ := hp
  refine r_if_eq hx hb rfl (tgt := 214) dX7_views_191 (by decide) (fun c16 => ?_) (fun c16 => ?_)
  · have h := ite_t c16 h
    refine lv_iinc (v := x9 + (1 : Int32)) (lv' := [(9, .int (x9 + (1 : Int32))), (11, .int y0), (0, .ref (ad 30 0)), (1, .int p1), (2, .int p2), (3, .int p3), (5, .int x5), (6, .int x6), (7, .int x7), (8, .int x8), (10, .int x10)]) hx hb dX7_views_214 hl (k := 9) rfl rfl (by decide) rfl (fun ls hl => ?_)
    refine lv_goto (tgt := 136) hx hb dX7_views_217 (by decide) ?_
    exact hk136 a3 x5 x6 x7 x8 (x9 + (1 : Int32)) hW hS (lv_sub hl [2, 3, 4, 5, 6, 7, 8, 9, 0] rfl) h
  · have h := ite_f c16 h
    refine lv_iload hx hb dX7_views_194 (lv_at hl 0 rfl) ?_
    refine r_if_eq hx hb rfl (tgt := 214) dX7_views_196 (by decide) (fun c17 => ?_) (fun c17 => ?_)
    · have h := ite_t c17 h
      refine lv_iinc (v := x9 + (1 : Int32)) (lv' := [(9, .int (x9 + (1 : Int32))), (11, .int y0), (0, .ref (ad 30 0)), (1, .int p1), (2, .int p2), (3, .int p3), (5, .int x5), (6, .int x6), (7, .int x7), (8, .int x8), (10, .int x10)]) hx hb dX7_views_214 hl (k := 9) rfl rfl (by decide) rfl (fun ls hl => ?_)
      refine lv_goto (tgt := 136) hx hb dX7_views_217 (by decide) ?_
      exact hk136 a3 x5 x6 x7 x8 (x9 + (1 : Int32)) hW hS (lv_sub hl [2, 3, 4, 5, 6, 7, 8, 9, 0] rfl) h
    · have h := ite_f c17 h
      refine lv_iload hx hb dX7_views_199 (lv_at hl 10 rfl) ?_
      refine lv_iload hx hb dX7_views_201 (lv_at hl 8 rfl) ?_
      refine r_icmp_ge hx hb rfl rfl (tgt := 214) dX7_views_203 (by decide) (fun c18 => ?_) (fun c18 => ?_)
      · have h := ite_f c18 h
        refine lv_iinc (v := x9 + (1 : Int32)) (lv' := [(9, .int (x9 + (1 : Int32))), (11, .int y0), (0, .ref (ad 30 0)), (1, .int p1), (2, .int p2), (3, .int p3), (5, .int x5), (6, .int x6), (7, .int x7), (8, .int x8), (10, .int x10)]) hx hb dX7_views_214 hl (k := 9) rfl rfl (by decide) rfl (fun ls hl => ?_)
        refine lv_goto (tgt := 136) hx hb dX7_views_217 (by decide) ?_
        exact hk136 a3 x5 x6 x7 x8 (x9 + (1 : Int32)) hW hS (lv_sub hl [2, 3, 4, 5, 6, 7, 8, 9, 0] rfl) h
      · have h := ite_t c18 h
        refine lv_iload hx hb dX7_views_206 (lv_at hl 9 rfl) ?_
        refine lv_istore (lv' := [(7, .int x9), (11, .int y0), (0, .ref (ad 30 0)), (1, .int p1), (2, .int p2), (3, .int p3), (5, .int x5), (6, .int x6), (8, .int x8), (9, .int x9), (10, .int x10)]) hx hb dX7_views_208 hl (by decide) rfl (fun ls hl => ?_)
        refine lv_iload hx hb dX7_views_210 (lv_at hl 10 rfl) ?_
        refine lv_istore (lv' := [(8, .int x10), (7, .int x9), (11, .int y0), (0, .ref (ad 30 0)), (1, .int p1), (2, .int p2), (3, .int p3), (5, .int x5), (6, .int x6), (9, .int x9), (10, .int x10)]) hx hb dX7_views_212 hl (by decide) rfl (fun ls hl => ?_)
        refine lv_iinc (v := x9 + (1 : Int32)) (lv' := [(9, .int (x9 + (1 : Int32))), (8, .int x10), (7, .int x9), (11, .int y0), (0, .ref (ad 30 0)), (1, .int p1), (2, .int p2), (3, .int p3), (5, .int x5), (6, .int x6), (10, .int x10)]) hx hb dX7_views_214 hl (k := 9) rfl rfl (by decide) rfl (fun ls hl => ?_)
        refine lv_goto (tgt := 136) hx hb dX7_views_217 (by decide) ?_
        exact hk136 a3 x5 x6 x9 x10 (x9 + (1 : Int32)) hW hS (lv_sub hl [4, 5, 6, 7, 8, 9, 2, 1, 0] rfl) h
set_option maxHeartbeats 4000000 in
set_option maxRecDepth 100000 in
theorem tX7_views_136 {p : Program} {l : Launch} {e : Env} {s : State} {m : MethodId} {args : Array Value} {below : List Frame} {meth : Method} {c : Code} {z : Nat} {G : Gl} {ad : Nat → Nat → Nat} {σ : SG} {ν : NU} {ρ : RH} {lo : Int64} (X : Cx p l e s m args below meth c cX7_views none 12 RX7 wsX7_views z G) (p1 : Int32) (p2 : Int32) (p3 : Int32) (κ120 : RH → Int32 → Int32 → Int32 → Prop) (post : RH → Prop) (hk120 : ∀ (a3 : RH) (x4 : Int32) (x5 : Int32) (x6 : Int32) {H : Heap} {locs : List Loc} {ls : Array Slot}, WP z G ad (σ, ν, a3, lo) H → va_S (Az z) s.heap H locs → lv_has ls 12 [(0, .ref (ad 30 0)), (1, .int p1), (2, .int p2), (3, .int p3), (4, .int x4), (5, .int x5), (6, .int x6)] → κ120 a3 x4 x5 x6 → W p l e ({ frames := 4, cells := 0, slots := 0, locals := 99 } : Room) s m args below meth c H locs 0 0 (MQ below (Qvs z G ad (fun S1 => ∃ t : RH, S1 = (σ, ν, t, lo) ∧ post t)) args s 0 0 (Az z)) (F0 m 120 ls [])) : ∀ (n : Nat) (a3 : RH) (x5 : Int32) (x6 : Int32) (x7 : Int32) (x8 : Int32) (x9 : Int32) {H : Heap} {locs : List Loc} {ls : Array Slot}, WP z G ad (σ, ν, a3, lo) H → va_S (Az z) s.heap H locs → lv_has ls 12 [(0, .ref (ad 30 0)), (1, .int p1), (2, .int p2), (3, .int p3), (5, .int x5), (6, .int x6), (7, .int x7), (8, .int x8), (9, .int x9)] → wX7_views_136 p1 p2 p3 κ120 post n a3 x5 x6 x7 x8 x9 → W p l e ({ frames := 4, cells := 0, slots := 0, locals := 99 } : Room) s m args below meth c H locs 0 0 (MQ below (Qvs z G ad (fun S1 => ∃ t : RH, S1 = (σ, ν, t, lo) ∧ post t)) args s 0 0 (Az z)) (F0 m 136 ls []) := by
  obtain ⟨hx, hb, hr, hml, hown, hts, hlocks, hE, hz⟩ := id X
  intro n
  induction n with
  | zero =>
    intro a3 x5 x6 x7 x8 x9 H locs ls hW hS hl h
    exact absurd h id
  | succ n ih =>
    intro a3 x5 x6 x7 x8 x9 H locs ls hW hS hl h
    unfold wX7_views_136 at h
    refine lv_iload hx hb dX7_views_136 (lv_at hl 8 rfl) ?_
    refine lv_aload_n hx hb dX7_views_138 rfl (lv_at hl 0 rfl) ?_
    refine r_get (C := RX7) (T := TX7) (N := 49) (ci := 10) (fs := fl_30 ad ν a3 0 (σ 30 0)) hx hb hts hown hE hW 30 0 rfl rfl rfl (fun w h => List.mem_cons_of_mem _ (List.mem_append_right _ h)) 11 (by decide) (List.mem_of_getElem? (i := 3) rfl) rfl (v := .int (a3 11 0)) rfl dX7_views_139 ?_
    refine r_icmp_ge hx hb rfl rfl (tgt := 220) dX7_views_142 (by decide) (fun c4 => ?_) (fun c4 => ?_)
    · have h := ite_f c4 h
      refine lv_iload hx hb dX7_views_220 (lv_at hl 6 rfl) ?_
      refine lv_iconst (v := (-1 : Int32)) hx hb dX7_views_222 (by decide) ?_
      refine r_icmp_eq hx hb rfl (show (-1 : Int32).toInt = (-1) by decide) (tgt := 230) dX7_views_223 (by decide) (fun c5 => ?_) (fun c5 => ?_)
      · have h := ite_t c5 h
        refine lv_iconst (v := (0 : Int32)) hx hb dX7_views_230 (by decide) ?_
        exact tX7_views_231 (σ := σ) (ρ := ρ) X p1 p2 p3 κ120 post hk120 a3 x5 x6 x7 x8 ((0 : Int32)) hW hS (lv_sub hl [0, 1, 2, 3, 4, 5, 6, 7] rfl) h
      · have h := ite_f c5 h
        refine lv_iconst (v := (1 : Int32)) hx hb dX7_views_226 (by decide) ?_
        refine lv_goto (tgt := 231) hx hb dX7_views_227 (by decide) ?_
        exact tX7_views_231 (σ := σ) (ρ := ρ) X p1 p2 p3 κ120 post hk120 a3 x5 x6 x7 x8 ((1 : Int32)) hW hS (lv_sub hl [0, 1, 2, 3, 4, 5, 6, 7] rfl) h
    · have h := ite_t c4 h
      refine lv_aload_n hx hb dX7_views_145 rfl (lv_at hl 0 rfl) ?_
      refine lv_iload hx hb dX7_views_146 (lv_at hl 8 rfl) ?_
      refine lv_iload_n hx hb dX7_views_148 rfl (lv_at hl 2 rfl) ?_
      refine k_Vi (rest := []) (As := [.int x9, .int p2]) ⟨hx, hb, hml, hown, hts⟩ hE hz hS hW (mtX7_commencesBy l z G ad σ ν a3 lo x9 p2 _ h) (cwV 2 hts gX7_views_X7_commencesBy rfl rfl rfl (by decide +kernel) ⟨Nat.le_of_ble_eq_true rfl, Nat.le_of_ble_eq_true rfl⟩) (r_recv hE hW 30 0 rfl (ci := 10) rfl rfl) rfl hl.1 rfl (Nat.le_of_ble_eq_true rfl) dX7_views_149 ⟨Nat.le_of_ble_eq_true rfl, Nat.le_of_ble_eq_true rfl⟩ (fun r13 S1 H locs hp hW hS => ?_)
      obtain ⟨rfl, h⟩ := hp
      refine lv_istore (lv' := [(10, .int r13), (0, .ref (ad 30 0)), (1, .int p1), (2, .int p2), (3, .int p3), (5, .int x5), (6, .int x6), (7, .int x7), (8, .int x8), (9, .int x9)]) hx hb dX7_views_152 hl (by decide) rfl (fun ls hl => ?_)
      refine lv_iload hx hb dX7_views_154 (lv_at hl 0 rfl) ?_
      refine lv_iload hx hb dX7_views_156 (lv_at hl 5 rfl) ?_
      refine r_icmp_gt hx hb rfl rfl (tgt := 175) dX7_views_158 (by decide) (fun c14 => ?_) (fun c14 => ?_)
      · have h := ite_f c14 h
        refine lv_iconst (v := (1 : Int32)) hx hb dX7_views_175 (by decide) ?_
        refine lv_goto (tgt := 180) hx hb dX7_views_176 (by decide) ?_
        exact tX7_views_180 (σ := σ) (ρ := ρ) X p1 p2 p3 κ120 (wX7_views_136 p1 p2 p3 κ120 post n) post hk120 ih a3 x5 x6 x7 x8 x9 r13 ((1 : Int32)) hW hS (lv_sub hl [1, 2, 3, 4, 5, 6, 7, 8, 9, 0] rfl) h
      · have h := ite_t c14 h
        refine lv_iload hx hb dX7_views_161 (lv_at hl 0 rfl) ?_
        refine lv_iload hx hb dX7_views_163 (lv_at hl 5 rfl) ?_
        refine r_icmp_ne hx hb rfl rfl (tgt := 179) dX7_views_165 (by decide) (fun c19 => ?_) (fun c19 => ?_)
        · have h := ite_f c19 h
          refine lv_iconst (v := (0 : Int32)) hx hb dX7_views_179 (by decide) ?_
          exact tX7_views_180 (σ := σ) (ρ := ρ) X p1 p2 p3 κ120 (wX7_views_136 p1 p2 p3 κ120 post n) post hk120 ih a3 x5 x6 x7 x8 x9 r13 ((0 : Int32)) hW hS (lv_sub hl [1, 2, 3, 4, 5, 6, 7, 8, 9, 0] rfl) h
        · have h := ite_t c19 h
          refine lv_iload hx hb dX7_views_168 (lv_at hl 9 rfl) ?_
          refine lv_iload hx hb dX7_views_170 (lv_at hl 6 rfl) ?_
          refine r_icmp_le hx hb rfl rfl (tgt := 179) dX7_views_172 (by decide) (fun c20 => ?_) (fun c20 => ?_)
          · have h := ite_t c20 h
            refine lv_iconst (v := (0 : Int32)) hx hb dX7_views_179 (by decide) ?_
            exact tX7_views_180 (σ := σ) (ρ := ρ) X p1 p2 p3 κ120 (wX7_views_136 p1 p2 p3 κ120 post n) post hk120 ih a3 x5 x6 x7 x8 x9 r13 ((0 : Int32)) hW hS (lv_sub hl [1, 2, 3, 4, 5, 6, 7, 8, 9, 0] rfl) h
          · have h := ite_f c20 h
            refine lv_iconst (v := (1 : Int32)) hx hb dX7_views_175 (by decide) ?_
            refine lv_goto (tgt := 180) hx hb dX7_views_176 (by decide) ?_
            exact tX7_views_180 (σ := σ) (ρ := ρ) X p1 p2 p3 κ120 (wX7_views_136 p1 p2 p3 κ120 post n) post hk120 ih a3 x5 x6 x7 x8 x9 r13 ((1 : Int32)) hW hS (lv_sub hl [1, 2, 3, 4, 5, 6, 7, 8, 9, 0] rfl) h
set_option maxHeartbeats 4000000 in
set_option maxRecDepth 100000 in
theorem tX7_views_120 {p : Program} {l : Launch} {e : Env} {s : State} {m : MethodId} {args : Array Value} {below : List Frame} {meth : Method} {c : Code} {z : Nat} {G : Gl} {ad : Nat → Nat → Nat} {σ : SG} {ν : NU} {ρ : RH} {lo : Int64} (X : Cx p l e s m args below meth c cX7_views none 12 RX7 wsX7_views z G) (p1 : Int32) (p2 : Int32) (p3 : Int32)  (post : RH → Prop) : ∀ (n : Nat) (a3 : RH) (x4 : Int32) (x5 : Int32) (x6 : Int32) {H : Heap} {locs : List Loc} {ls : Array Slot}, WP z G ad (σ, ν, a3, lo) H → va_S (Az z) s.heap H locs → lv_has ls 12 [(0, .ref (ad 30 0)), (1, .int p1), (2, .int p2), (3, .int p3), (4, .int x4), (5, .int x5), (6, .int x6)] → wX7_views_120 p1 p2 p3 post n a3 x4 x5 x6 → W p l e ({ frames := 4, cells := 0, slots := 0, locals := 99 } : Room) s m args below meth c H locs 0 0 (MQ below (Qvs z G ad (fun S1 => ∃ t : RH, S1 = (σ, ν, t, lo) ∧ post t)) args s 0 0 (Az z)) (F0 m 120 ls []) := by
  obtain ⟨hx, hb, hr, hml, hown, hts, hlocks, hE, hz⟩ := id X
  intro n
  induction n with
  | zero =>
    intro a3 x4 x5 x6 H locs ls hW hS hl h
    exact absurd h id
  | succ n ih =>
    intro a3 x4 x5 x6 H locs ls hW hS hl h
    unfold wX7_views_120 at h
    refine lv_iload hx hb dX7_views_120 (lv_at hl 4 rfl) ?_
    refine r_if_eq hx hb rfl (tgt := 273) dX7_views_122 (by decide) (fun c3 => ?_) (fun c3 => ?_)
    · have h := ite_t c3 h
      exact W.vret hx hb hr (fun t ht _ => ⟨⟨(σ, ν, a3, lo), rfl, ⟨_, rfl, h⟩, WP.at9 ht hW⟩, hS.F ht⟩) hS.2.2 dX7_views_273 (hlocks := hlocks)
    · have h := ite_f c3 h
      refine lv_iconst (v := (-1 : Int32)) hx hb dX7_views_125 (by decide) ?_
      refine lv_istore (lv' := [(7, .int ((-1 : Int32))), (0, .ref (ad 30 0)), (1, .int p1), (2, .int p2), (3, .int p3), (4, .int x4), (5, .int x5), (6, .int x6)]) hx hb dX7_views_126 hl (by decide) rfl (fun ls hl => ?_)
      refine lv_sipush (v := (5001 : Int32)) hx hb dX7_views_128 (by decide) ?_
      refine lv_istore (lv' := [(8, .int ((5001 : Int32))), (7, .int ((-1 : Int32))), (0, .ref (ad 30 0)), (1, .int p1), (2, .int p2), (3, .int p3), (4, .int x4), (5, .int x5), (6, .int x6)]) hx hb dX7_views_131 hl (by decide) rfl (fun ls hl => ?_)
      refine lv_iconst (v := (0 : Int32)) hx hb dX7_views_133 (by decide) ?_
      refine lv_istore (lv' := [(9, .int ((0 : Int32))), (8, .int ((5001 : Int32))), (7, .int ((-1 : Int32))), (0, .ref (ad 30 0)), (1, .int p1), (2, .int p2), (3, .int p3), (4, .int x4), (5, .int x5), (6, .int x6)]) hx hb dX7_views_134 hl (by decide) rfl (fun ls hl => ?_)
      obtain ⟨n21, h⟩ := h
      exact tX7_views_136 (σ := σ) (ρ := ρ) X p1 p2 p3 (wX7_views_120 p1 p2 p3 post n) post ih n21 a3 x5 x6 ((-1 : Int32)) ((5001 : Int32)) ((0 : Int32)) hW hS (lv_sub hl [3, 4, 5, 6, 8, 9, 2, 1, 0] rfl) h
set_option maxHeartbeats 4000000 in
set_option maxRecDepth 100000 in
theorem tX7_views_69 {p : Program} {l : Launch} {e : Env} {s : State} {m : MethodId} {args : Array Value} {below : List Frame} {meth : Method} {c : Code} {z : Nat} {G : Gl} {ad : Nat → Nat → Nat} {σ : SG} {ν : NU} {ρ : RH} {lo : Int64} (X : Cx p l e s m args below meth c cX7_views none 12 RX7 wsX7_views z G) (p1 : Int32) (p2 : Int32) (p3 : Int32) (κ35 : RH → Int32 → Prop) (post : RH → Prop) (hk35 : ∀ (a3 : RH) (x4 : Int32) {H : Heap} {locs : List Loc} {ls : Array Slot}, WP z G ad (σ, ν, a3, lo) H → va_S (Az z) s.heap H locs → lv_has ls 12 [(0, .ref (ad 30 0)), (1, .int p1), (2, .int p2), (3, .int p3), (4, .int x4)] → κ35 a3 x4 → W p l e ({ frames := 4, cells := 0, slots := 0, locals := 99 } : Room) s m args below meth c H locs 0 0 (MQ below (Qvs z G ad (fun S1 => ∃ t : RH, S1 = (σ, ν, t, lo) ∧ post t)) args s 0 0 (Az z)) (F0 m 35 ls [])) : ∀ (n : Nat) (a3 : RH) (x4 : Int32) (x5 : Int32) {H : Heap} {locs : List Loc} {ls : Array Slot}, WP z G ad (σ, ν, a3, lo) H → va_S (Az z) s.heap H locs → lv_has ls 12 [(0, .ref (ad 30 0)), (1, .int p1), (2, .int p2), (3, .int p3), (4, .int x4), (5, .int x5)] → wX7_views_69 p1 p2 p3 κ35 post n a3 x4 x5 → W p l e ({ frames := 4, cells := 0, slots := 0, locals := 99 } : Room) s m args below meth c H locs 0 0 (MQ below (Qvs z G ad (fun S1 => ∃ t : RH, S1 = (σ, ν, t, lo) ∧ post t)) args s 0 0 (Az z)) (F0 m 69 ls []) := by
  obtain ⟨hx, hb, hr, hml, hown, hts, hlocks, hE, hz⟩ := id X
  intro n
  induction n with
  | zero =>
    intro a3 x4 x5 H locs ls hW hS hl h
    exact absurd h id
  | succ n ih =>
    intro a3 x4 x5 H locs ls hW hS hl h
    unfold wX7_views_69 at h
    refine lv_iload hx hb dX7_views_69 (lv_at hl 5 rfl) ?_
    refine lv_iconst (v := (4 : Int32)) hx hb dX7_views_71 (by decide) ?_
    refine r_icmp_ge hx hb rfl (show (4 : Int32).toInt = 4 by decide) (tgt := 105) dX7_views_72 (by decide) (fun c30 => ?_) (fun c30 => ?_)
    · have h := ite_f c30 h
      refine lv_iinc (v := x4 + (1 : Int32)) (lv' := [(4, .int (x4 + (1 : Int32))), (0, .ref (ad 30 0)), (1, .int p1), (2, .int p2), (3, .int p3), (5, .int x5)]) hx hb dX7_views_105 hl (k := 4) rfl rfl (by decide) rfl (fun ls hl => ?_)
      refine lv_goto (tgt := 35) hx hb dX7_views_108 (by decide) ?_
      exact hk35 a3 (x4 + (1 : Int32)) hW hS (lv_sub hl [1, 2, 3, 4, 0] rfl) h
    · have h := ite_t c30 h
      refine lv_aload_n hx hb dX7_views_75 rfl (lv_at hl 0 rfl) ?_
      refine r_get (C := RX7) (T := TX7) (N := 49) (ci := 10) (fs := fl_30 ad ν a3 0 (σ 30 0)) hx hb hts hown hE hW 30 0 rfl rfl rfl (fun w h => List.mem_cons_of_mem _ (List.mem_append_right _ h)) 44 (by decide) (List.mem_of_getElem? (i := 7) rfl) rfl (v := .ref (ad 144 0)) rfl dX7_views_76 ?_
      refine lv_iconst (v := (4 : Int32)) hx hb dX7_views_79 (by decide) ?_
      refine lv_iload hx hb dX7_views_80 (lv_at hl 4 rfl) ?_
      refine lv_imul hx hb dX7_views_82 ?_
      refine lv_iload hx hb dX7_views_83 (lv_at hl 5 rfl) ?_
      refine lv_iadd hx hb dX7_views_85 ?_
      refine lv_aload_n hx hb dX7_views_86 rfl (lv_at hl 0 rfl) ?_
      refine r_get (C := RX7) (T := TX7) (N := 49) (ci := 10) (fs := fl_30 ad ν a3 0 (σ 30 0)) hx hb hts hown hE hW 30 0 rfl rfl rfl (fun w h => List.mem_cons_of_mem _ (List.mem_append_right _ h)) 21 (by decide) (List.mem_of_getElem? (i := 8) rfl) rfl (v := .ref (ad 121 0)) rfl dX7_views_87 ?_
      refine lv_iconst (v := (4 : Int32)) hx hb dX7_views_90 (by decide) ?_
      refine lv_iload hx hb dX7_views_91 (lv_at hl 4 rfl) ?_
      refine lv_imul hx hb dX7_views_93 ?_
      refine lv_iload hx hb dX7_views_94 (lv_at hl 5 rfl) ?_
      refine lv_iadd hx hb dX7_views_96 ?_
      obtain ⟨b31, h⟩ := h
      refine r_iald hx hb hE hW 121 0 ⟨rfl, by decide, by decide⟩ (n := 160) (f := a3 21) rfl b31 (v := a3 21 ((((4 : Int32)) * x4) + x5).toNatClampNeg) rfl dX7_views_97 ?_
      obtain ⟨b32, h⟩ := h
      refine r_iastM hx hb hE hW hS 44 (k := 144) rfl ⟨rfl, by decide, by decide⟩ (n := 160) (fun _ => rfl) (fun t q => by simp [fl_30, q]) b32 dX7_views_98 (fun t33 e34 H locs hW hS => ?_)
      have h := h t33 e34
      refine lv_iinc (v := x5 + (1 : Int32)) (lv' := [(5, .int (x5 + (1 : Int32))), (0, .ref (ad 30 0)), (1, .int p1), (2, .int p2), (3, .int p3), (4, .int x4)]) hx hb dX7_views_99 hl (k := 5) rfl rfl (by decide) rfl (fun ls hl => ?_)
      refine lv_goto (tgt := 69) hx hb dX7_views_102 (by decide) ?_
      exact ih t33 x4 (x5 + (1 : Int32)) hW hS (lv_sub hl [1, 2, 3, 4, 5, 0] rfl) h
set_option maxHeartbeats 4000000 in
set_option maxRecDepth 100000 in
theorem tX7_views_35 {p : Program} {l : Launch} {e : Env} {s : State} {m : MethodId} {args : Array Value} {below : List Frame} {meth : Method} {c : Code} {z : Nat} {G : Gl} {ad : Nat → Nat → Nat} {σ : SG} {ν : NU} {ρ : RH} {lo : Int64} (X : Cx p l e s m args below meth c cX7_views none 12 RX7 wsX7_views z G) (p1 : Int32) (p2 : Int32) (p3 : Int32)  (post : RH → Prop) : ∀ (n : Nat) (a3 : RH) (x4 : Int32) {H : Heap} {locs : List Loc} {ls : Array Slot}, WP z G ad (σ, ν, a3, lo) H → va_S (Az z) s.heap H locs → lv_has ls 12 [(0, .ref (ad 30 0)), (1, .int p1), (2, .int p2), (3, .int p3), (4, .int x4)] → wX7_views_35 p1 p2 p3 post n a3 x4 → W p l e ({ frames := 4, cells := 0, slots := 0, locals := 99 } : Room) s m args below meth c H locs 0 0 (MQ below (Qvs z G ad (fun S1 => ∃ t : RH, S1 = (σ, ν, t, lo) ∧ post t)) args s 0 0 (Az z)) (F0 m 35 ls []) := by
  obtain ⟨hx, hb, hr, hml, hown, hts, hlocks, hE, hz⟩ := id X
  intro n
  induction n with
  | zero =>
    intro a3 x4 H locs ls hW hS hl h
    exact absurd h id
  | succ n ih =>
    intro a3 x4 H locs ls hW hS hl h
    unfold wX7_views_35 at h
    refine lv_iload hx hb dX7_views_35 (lv_at hl 4 rfl) ?_
    refine lv_aload_n hx hb dX7_views_37 rfl (lv_at hl 0 rfl) ?_
    refine r_get (C := RX7) (T := TX7) (N := 49) (ci := 10) (fs := fl_30 ad ν a3 0 (σ 30 0)) hx hb hts hown hE hW 30 0 rfl rfl rfl (fun w h => List.mem_cons_of_mem _ (List.mem_append_right _ h)) 11 (by decide) (List.mem_of_getElem? (i := 3) rfl) rfl (v := .int (a3 11 0)) rfl dX7_views_38 ?_
    refine r_icmp_ge hx hb rfl rfl (tgt := 111) dX7_views_41 (by decide) (fun c2 => ?_) (fun c2 => ?_)
    · have h := ite_f c2 h
      refine lv_iconst (v := (1 : Int32)) hx hb dX7_views_111 (by decide) ?_
      refine lv_istore (lv' := [(4, .int ((1 : Int32))), (0, .ref (ad 30 0)), (1, .int p1), (2, .int p2), (3, .int p3)]) hx hb dX7_views_112 hl (by decide) rfl (fun ls hl => ?_)
      refine lv_iconst (v := (-1 : Int32)) hx hb dX7_views_114 (by decide) ?_
      refine lv_istore (lv' := [(5, .int ((-1 : Int32))), (4, .int ((1 : Int32))), (0, .ref (ad 30 0)), (1, .int p1), (2, .int p2), (3, .int p3)]) hx hb dX7_views_115 hl (by decide) rfl (fun ls hl => ?_)
      refine lv_iconst (v := (-1 : Int32)) hx hb dX7_views_117 (by decide) ?_
      refine lv_istore (lv' := [(6, .int ((-1 : Int32))), (5, .int ((-1 : Int32))), (4, .int ((1 : Int32))), (0, .ref (ad 30 0)), (1, .int p1), (2, .int p2), (3, .int p3)]) hx hb dX7_views_118 hl (by decide) rfl (fun ls hl => ?_)
      obtain ⟨n22, h⟩ := h
      exact tX7_views_120 (σ := σ) (ρ := ρ) X p1 p2 p3 post  n22 a3 ((1 : Int32)) ((-1 : Int32)) ((-1 : Int32)) hW hS (lv_sub hl [3, 4, 5, 6, 2, 1, 0] rfl) h
    · have h := ite_t c2 h
      refine lv_aload_n hx hb dX7_views_44 rfl (lv_at hl 0 rfl) ?_
      refine r_get (C := RX7) (T := TX7) (N := 49) (ci := 10) (fs := fl_30 ad ν a3 0 (σ 30 0)) hx hb hts hown hE hW 30 0 rfl rfl rfl (fun w h => List.mem_cons_of_mem _ (List.mem_append_right _ h)) 36 (by decide) (List.mem_of_getElem? (i := 4) rfl) rfl (v := .ref (ad 136 0)) rfl dX7_views_45 ?_
      refine lv_iload hx hb dX7_views_48 (lv_at hl 4 rfl) ?_
      refine lv_iconst (v := (0 : Int32)) hx hb dX7_views_50 (by decide) ?_
      obtain ⟨b23, h⟩ := h
      refine r_iastM hx hb hE hW hS 36 (k := 136) rfl ⟨rfl, by decide, by decide⟩ (n := 40) (fun _ => rfl) (fun t q => by simp [fl_30, q]) b23 dX7_views_51 (fun t24 e25 H locs hW hS => ?_)
      have h := h t24 e25
      refine lv_aload_n hx hb dX7_views_52 rfl (lv_at hl 0 rfl) ?_
      refine r_get (C := RX7) (T := TX7) (N := 49) (ci := 10) (fs := fl_30 ad ν t24 0 (σ 30 0)) hx hb hts hown hE hW 30 0 rfl rfl rfl (fun w h => List.mem_cons_of_mem _ (List.mem_append_right _ h)) 43 (by decide) (List.mem_of_getElem? (i := 5) rfl) rfl (v := .ref (ad 143 0)) rfl dX7_views_53 ?_
      refine lv_iload hx hb dX7_views_56 (lv_at hl 4 rfl) ?_
      refine lv_aload_n hx hb dX7_views_58 rfl (lv_at hl 0 rfl) ?_
      refine r_get (C := RX7) (T := TX7) (N := 49) (ci := 10) (fs := fl_30 ad ν t24 0 (σ 30 0)) hx hb hts hown hE hW 30 0 rfl rfl rfl (fun w h => List.mem_cons_of_mem _ (List.mem_append_right _ h)) 20 (by decide) (List.mem_of_getElem? (i := 6) rfl) rfl (v := .ref (ad 120 0)) rfl dX7_views_59 ?_
      refine lv_iload hx hb dX7_views_62 (lv_at hl 4 rfl) ?_
      obtain ⟨b26, h⟩ := h
      refine r_iald hx hb hE hW 120 0 ⟨rfl, by decide, by decide⟩ (n := 40) (f := t24 20) rfl b26 (v := t24 20 x4.toNatClampNeg) rfl dX7_views_64 ?_
      obtain ⟨b27, h⟩ := h
      refine r_iastM hx hb hE hW hS 43 (k := 143) rfl ⟨rfl, by decide, by decide⟩ (n := 40) (fun _ => rfl) (fun t q => by simp [fl_30, q]) b27 dX7_views_65 (fun t28 e29 H locs hW hS => ?_)
      have h := h t28 e29
      refine lv_iconst (v := (0 : Int32)) hx hb dX7_views_66 (by decide) ?_
      refine lv_istore (lv' := [(5, .int ((0 : Int32))), (0, .ref (ad 30 0)), (1, .int p1), (2, .int p2), (3, .int p3), (4, .int x4)]) hx hb dX7_views_67 hl (by decide) rfl (fun ls hl => ?_)
      obtain ⟨n35, h⟩ := h
      exact tX7_views_69 (σ := σ) (ρ := ρ) X p1 p2 p3 (wX7_views_35 p1 p2 p3 post n) post ih n35 t28 x4 ((0 : Int32)) hW hS (lv_sub hl [1, 2, 3, 4, 5, 0] rfl) h
set_option maxHeartbeats 4000000 in
set_option maxRecDepth 100000 in
theorem tX7_views_3 {p : Program} {l : Launch} {e : Env} {s : State} {m : MethodId} {args : Array Value} {below : List Frame} {meth : Method} {c : Code} {z : Nat} {G : Gl} {ad : Nat → Nat → Nat} {σ : SG} {ν : NU} {ρ : RH} {lo : Int64} (X : Cx p l e s m args below meth c cX7_views none 12 RX7 wsX7_views z G) (p1 : Int32) (p2 : Int32) (p3 : Int32)  (post : RH → Prop) : ∀ (n : Nat) (a3 : RH) (x4 : Int32) {H : Heap} {locs : List Loc} {ls : Array Slot}, WP z G ad (σ, ν, a3, lo) H → va_S (Az z) s.heap H locs → lv_has ls 12 [(0, .ref (ad 30 0)), (1, .int p1), (2, .int p2), (3, .int p3), (4, .int x4)] → wX7_views_3 p1 p2 p3 post n a3 x4 → W p l e ({ frames := 4, cells := 0, slots := 0, locals := 99 } : Room) s m args below meth c H locs 0 0 (MQ below (Qvs z G ad (fun S1 => ∃ t : RH, S1 = (σ, ν, t, lo) ∧ post t)) args s 0 0 (Az z)) (F0 m 3 ls []) := by
  obtain ⟨hx, hb, hr, hml, hown, hts, hlocks, hE, hz⟩ := id X
  intro n
  induction n with
  | zero =>
    intro a3 x4 H locs ls hW hS hl h
    exact absurd h id
  | succ n ih =>
    intro a3 x4 H locs ls hW hS hl h
    unfold wX7_views_3 at h
    refine lv_iload hx hb dX7_views_3 (lv_at hl 4 rfl) ?_
    refine lv_bipush (v := (20 : Int32)) hx hb dX7_views_5 (by decide) ?_
    refine r_icmp_ge hx hb rfl (show (20 : Int32).toInt = 20 by decide) (tgt := 32) dX7_views_7 (by decide) (fun c1 => ?_) (fun c1 => ?_)
    · have h := ite_f c1 h
      refine lv_iconst (v := (0 : Int32)) hx hb dX7_views_32 (by decide) ?_
      refine lv_istore (lv' := [(4, .int ((0 : Int32))), (0, .ref (ad 30 0)), (1, .int p1), (2, .int p2), (3, .int p3)]) hx hb dX7_views_33 hl (by decide) rfl (fun ls hl => ?_)
      obtain ⟨n36, h⟩ := h
      exact tX7_views_35 (σ := σ) (ρ := ρ) X p1 p2 p3 post  n36 a3 ((0 : Int32)) hW hS (lv_sub hl [1, 2, 3, 4, 0] rfl) h
    · have h := ite_t c1 h
      refine lv_aload_n hx hb dX7_views_10 rfl (lv_at hl 0 rfl) ?_
      refine r_get (C := RX7) (T := TX7) (N := 49) (ci := 10) (fs := fl_30 ad ν a3 0 (σ 30 0)) hx hb hts hown hE hW 30 0 rfl rfl rfl (fun w h => List.mem_cons_of_mem _ (List.mem_append_right _ h)) 37 (by decide) (List.mem_of_getElem? (i := 1) rfl) rfl (v := .ref (ad 137 0)) rfl dX7_views_11 ?_
      refine lv_iload hx hb dX7_views_14 (lv_at hl 4 rfl) ?_
      refine lv_iconst (v := (0 : Int32)) hx hb dX7_views_16 (by decide) ?_
      obtain ⟨b37, h⟩ := h
      refine r_zastM hx hb hE hW hS 37 (k := 137) rfl ⟨rfl, by decide, by decide⟩ (n := 20) (fun _ => rfl) (fun t q => by simp [fl_30, q]) b37 dX7_views_17 (fun t38 e39 H locs hW hS => ?_)
      have h := h t38 e39
      refine lv_aload_n hx hb dX7_views_18 rfl (lv_at hl 0 rfl) ?_
      refine r_get (C := RX7) (T := TX7) (N := 49) (ci := 10) (fs := fl_30 ad ν t38 0 (σ 30 0)) hx hb hts hown hE hW 30 0 rfl rfl rfl (fun w h => List.mem_cons_of_mem _ (List.mem_append_right _ h)) 40 (by decide) (List.mem_of_getElem? (i := 2) rfl) rfl (v := .ref (ad 140 0)) rfl dX7_views_19 ?_
      refine lv_iload hx hb dX7_views_22 (lv_at hl 4 rfl) ?_
      refine lv_iconst (v := (0 : Int32)) hx hb dX7_views_24 (by decide) ?_
      obtain ⟨b40, h⟩ := h
      refine r_iastM hx hb hE hW hS 40 (k := 140) rfl ⟨rfl, by decide, by decide⟩ (n := 20) (fun _ => rfl) (fun t q => by simp [fl_30, q]) b40 dX7_views_25 (fun t41 e42 H locs hW hS => ?_)
      have h := h t41 e42
      refine lv_iinc (v := x4 + (1 : Int32)) (lv' := [(4, .int (x4 + (1 : Int32))), (0, .ref (ad 30 0)), (1, .int p1), (2, .int p2), (3, .int p3)]) hx hb dX7_views_26 hl (k := 4) rfl rfl (by decide) rfl (fun ls hl => ?_)
      refine lv_goto (tgt := 3) hx hb dX7_views_29 (by decide) ?_
      exact ih t41 (x4 + (1 : Int32)) hW hS (lv_sub hl [1, 2, 3, 4, 0] rfl) h
set_option maxHeartbeats 4000000 in
set_option maxRecDepth 100000 in
theorem mtX7_views (l : Launch) (z : Nat) (G : Gl) (ad : Nat → Nat → Nat) (σ : SG) (ν : NU) (ρ : RH) (lo : Int64) (p1 : Int32) (p2 : Int32) (p3 : Int32) (post : RH → Prop) (h : wpX7_views ρ p1 p2 p3 post) : Met l yX7_views wsX7_views ({ frames := 4, cells := 0, slots := 0, locals := 99 } : Room) (Pcs z G ad (σ, ν, ρ, lo) [.ref (ad 30 0), .int p1, .int p2, .int p3]) (Qvs z G ad (fun S1 => ∃ t : RH, S1 = (σ, ν, t, lo) ∧ post t)) 0 0 (Az z) := by
  refine Met.ofW (cc := cX7_views) (maxL := 12) (ret := none) (by decide) rfl ?_
  intro p e s m args below meth c s₁ B hml hv
  obtain ⟨rfl, hz, hW, hE⟩ := hv
  have hx := B.exec
  have hb := B.bytes
  have hr := B.returns
  have hts := atoms_spec (ws := wsX7_views) B.pre
  have hown : s.vm.findClass RX7 = some m.cls := findClass_of_methodNamed B.named
  have hlocks := B.notSynchronized
  have X : Cx p l e s m _ below meth c cX7_views none 12 RX7 wsX7_views z G := ⟨hx, hb, hr, hml, hown, hts, hlocks, hE, hz⟩
  have hS : va_S (Az z) s.heap s.heap [] := va_S.rf
  have hl := lv_entry [.ref (ad 30 0), .int p1, .int p2, .int p3] (n := 12) (Nat.le_of_ble_eq_true rfl)
  rw [lg_entry_eq]
  generalize (lg_sl [.ref (ad 30 0), .int p1, .int p2, .int p3] ++ List.replicate (12 - (lg_sl [.ref (ad 30 0), .int p1, .int p2, .int p3]).length) Slot.unset).toArray = ls at hl ⊢
  have hl : lv_has ls 12 [(0, .ref (ad 30 0)), (1, .int p1), (2, .int p2), (3, .int p3)] := hl
  unfold wpX7_views at h
  refine lv_iconst (v := (0 : Int32)) hx hb dX7_views_0 (by decide) ?_
  refine lv_istore (lv' := [(4, .int ((0 : Int32))), (0, .ref (ad 30 0)), (1, .int p1), (2, .int p2), (3, .int p3)]) hx hb dX7_views_1 hl (by decide) rfl (fun ls hl => ?_)
  obtain ⟨n43, h⟩ := h
  exact tX7_views_3 (σ := σ) (ρ := ρ) X p1 p2 p3 post  n43 ρ ((0 : Int32)) hW hS (lv_sub hl [1, 2, 3, 4, 0] rfl) h
set_option maxHeartbeats 4000000 in
set_option maxRecDepth 100000 in
theorem mtX7_laysView (l : Launch) (z : Nat) (G : Gl) (ad : Nat → Nat → Nat) (σ : SG) (ν : NU) (ρ : RH) (lo : Int64)  (post : RH → Prop) (h : wpX7_laysView ρ  post) : Met l yX7_laysView wsX7_laysView ({ frames := 5, cells := 0, slots := 0, locals := 130 } : Room) (Pcs z G ad (σ, ν, ρ, lo) [.ref (ad 30 0)]) (Qvs z G ad (fun S1 => ∃ t : RH, S1 = (σ, ν, t, lo) ∧ post t)) 0 0 (Az z) := by
  refine Met.ofW (cc := cX7_laysView) (maxL := 1) (ret := none) (by decide) rfl ?_
  intro p e s m args below meth c s₁ B hml hv
  obtain ⟨rfl, hz, hW, hE⟩ := hv
  have hx := B.exec
  have hb := B.bytes
  have hr := B.returns
  have hts := atoms_spec (ws := wsX7_laysView) B.pre
  have hown : s.vm.findClass RX7 = some m.cls := findClass_of_methodNamed B.named
  have hlocks := B.notSynchronized
  have X : Cx p l e s m _ below meth c cX7_laysView none 1 RX7 wsX7_laysView z G := ⟨hx, hb, hr, hml, hown, hts, hlocks, hE, hz⟩
  have hS : va_S (Az z) s.heap s.heap [] := va_S.rf
  have hl := lv_entry [.ref (ad 30 0)] (n := 1) (Nat.le_of_ble_eq_true rfl)
  rw [lg_entry_eq]
  generalize (lg_sl [.ref (ad 30 0)] ++ List.replicate (1 - (lg_sl [.ref (ad 30 0)]).length) Slot.unset).toArray = ls at hl ⊢
  have hl : lv_has ls 1 [(0, .ref (ad 30 0))] := hl
  unfold wpX7_laysView at h
  refine lv_aload_n hx hb dX7_laysView_0 rfl (lv_at hl 0 rfl) ?_
  refine lv_aload_n hx hb dX7_laysView_1 rfl (lv_at hl 0 rfl) ?_
  refine r_get (C := RX7) (T := TX7) (N := 49) (ci := 10) (fs := fl_30 ad ν ρ 0 (σ 30 0)) hx hb hts hown hE hW 30 0 rfl rfl rfl (fun w h => List.mem_cons_of_mem _ (List.mem_append_right _ h)) 33 (by decide) (List.mem_of_getElem? (i := 1) rfl) rfl (v := .int (ρ 33 0)) rfl dX7_laysView_2 ?_
  refine lv_aload_n hx hb dX7_laysView_5 rfl (lv_at hl 0 rfl) ?_
  refine r_get (C := RX7) (T := TX7) (N := 49) (ci := 10) (fs := fl_30 ad ν ρ 0 (σ 30 0)) hx hb hts hown hE hW 30 0 rfl rfl rfl (fun w h => List.mem_cons_of_mem _ (List.mem_append_right _ h)) 34 (by decide) (List.mem_of_getElem? (i := 2) rfl) rfl (v := .int (ρ 34 0)) rfl dX7_laysView_6 ?_
  refine lv_aload_n hx hb dX7_laysView_9 rfl (lv_at hl 0 rfl) ?_
  refine r_get (C := RX7) (T := TX7) (N := 49) (ci := 10) (fs := fl_30 ad ν ρ 0 (σ 30 0)) hx hb hts hown hE hW 30 0 rfl rfl rfl (fun w h => List.mem_cons_of_mem _ (List.mem_append_right _ h)) 35 (by decide) (List.mem_of_getElem? (i := 3) rfl) rfl (v := .int (ρ 35 0)) rfl dX7_laysView_10 ?_
  refine k_Vv (rest := []) (As := [.int (ρ 33 0), .int (ρ 34 0), .int (ρ 35 0)]) ⟨hx, hb, hml, hown, hts⟩ hE hz hS hW (mtX7_views l z G ad σ ν ρ lo (ρ 33 0) (ρ 34 0) (ρ 35 0) _ h) (cwV 3 hts gX7_laysView_X7_views rfl rfl rfl (by decide +kernel) ⟨Nat.le_of_ble_eq_true rfl, Nat.le_of_ble_eq_true rfl⟩) (r_recv hE hW 30 0 rfl (ci := 10) rfl rfl) rfl hl.1 rfl (Nat.le_of_ble_eq_true rfl) dX7_laysView_13 ⟨Nat.le_of_ble_eq_true rfl, Nat.le_of_ble_eq_true rfl⟩ (fun S1 H locs hp hW hS => ?_)
  obtain ⟨t1, rfl, h⟩ := hp
  exact W.vret hx hb hr (fun t ht _ => ⟨⟨(σ, ν, t1, lo), rfl, ⟨_, rfl, h⟩, WP.at9 ht hW⟩, hS.F ht⟩) hS.2.2 dX7_laysView_16 (hlocks := hlocks)
set_option maxHeartbeats 4000000 in
set_option maxRecDepth 100000 in
theorem tX7_there_27 {p : Program} {l : Launch} {e : Env} {s : State} {m : MethodId} {args : Array Value} {below : List Frame} {meth : Method} {c : Code} {z : Nat} {G : Gl} {ad : Nat → Nat → Nat} {σ : SG} {ν : NU} {ρ : RH} {lo : Int64} (X : Cx p l e s m args below meth c cX7_there (some .int) 3 RX7 wsX7_there z G)  (κ4 : RH → Int32 → Int32 → Prop) (post : Int32 → Prop) (hk4 : ∀ (x1 : Int32) (x2 : Int32) {H : Heap} {locs : List Loc} {ls : Array Slot}, WP z G ad (σ, ν, ρ, lo) H → va_S (Az z) s.heap H locs → lv_has ls 3 [(0, .ref (ad 30 0)), (1, .int x1), (2, .int x2)] → κ4 ρ x1 x2 → W p l e ({ frames := 0, cells := 0, slots := 0, locals := 0 } : Room) s m args below meth c H locs 0 0 (MQ below (Qis z G ad (fun r S1 => S1 = (σ, ν, ρ, lo) ∧ post r)) args s 0 0 (Az z)) (F0 m 4 ls [])) : ∀ (x2 : Int32) (y0 : Int32) (y1 : Int32) {H : Heap} {locs : List Loc} {ls : Array Slot}, WP z G ad (σ, ν, ρ, lo) H → va_S (Az z) s.heap H locs → lv_has ls 3 [(0, .ref (ad 30 0)), (2, .int x2)] → jX7_there_27  κ4 post ρ x2 y0 y1 → W p l e ({ frames := 0, cells := 0, slots := 0, locals := 0 } : Room) s m args below meth c H locs 0 0 (MQ below (Qis z G ad (fun r S1 => S1 = (σ, ν, ρ, lo) ∧ post r)) args s 0 0 (Az z)) (F0 m 27 ls [.int y1, .int y0]) := by
  obtain ⟨hx, hb, hr, hml, hown, hts, hlocks, hE, hz⟩ := id X
  intro x2 y0 y1 H locs ls hW hS hl h
  unfold jX7_there_27 at h
  refine lv_iadd hx hb dX7_there_27 ?_
  refine lv_istore_n (lv' := [(1, .int (y0 + y1)), (0, .ref (ad 30 0)), (2, .int x2)]) hx hb dX7_there_28 rfl hl (by decide) rfl (fun ls hl => ?_)
  refine lv_iinc (v := x2 + (1 : Int32)) (lv' := [(2, .int (x2 + (1 : Int32))), (1, .int (y0 + y1)), (0, .ref (ad 30 0))]) hx hb dX7_there_29 hl (k := 2) rfl rfl (by decide) rfl (fun ls hl => ?_)
  refine lv_goto (tgt := 4) hx hb dX7_there_32 (by decide) ?_
  exact hk4 (y0 + y1) (x2 + (1 : Int32)) hW hS (lv_sub hl [2, 1, 0] rfl) h
set_option maxHeartbeats 4000000 in
set_option maxRecDepth 100000 in
theorem tX7_there_4 {p : Program} {l : Launch} {e : Env} {s : State} {m : MethodId} {args : Array Value} {below : List Frame} {meth : Method} {c : Code} {z : Nat} {G : Gl} {ad : Nat → Nat → Nat} {σ : SG} {ν : NU} {ρ : RH} {lo : Int64} (X : Cx p l e s m args below meth c cX7_there (some .int) 3 RX7 wsX7_there z G)   (post : Int32 → Prop) : ∀ (n : Nat) (x1 : Int32) (x2 : Int32) {H : Heap} {locs : List Loc} {ls : Array Slot}, WP z G ad (σ, ν, ρ, lo) H → va_S (Az z) s.heap H locs → lv_has ls 3 [(0, .ref (ad 30 0)), (1, .int x1), (2, .int x2)] → wX7_there_4  post n ρ x1 x2 → W p l e ({ frames := 0, cells := 0, slots := 0, locals := 0 } : Room) s m args below meth c H locs 0 0 (MQ below (Qis z G ad (fun r S1 => S1 = (σ, ν, ρ, lo) ∧ post r)) args s 0 0 (Az z)) (F0 m 4 ls []) := by
  obtain ⟨hx, hb, hr, hml, hown, hts, hlocks, hE, hz⟩ := id X
  intro n
  induction n with
  | zero =>
    intro x1 x2 H locs ls hW hS hl h
    exact absurd h id
  | succ n ih =>
    intro x1 x2 H locs ls hW hS hl h
    unfold wX7_there_4 at h
    refine lv_iload_n hx hb dX7_there_4 rfl (lv_at hl 2 rfl) ?_
    refine lv_aload_n hx hb dX7_there_5 rfl (lv_at hl 0 rfl) ?_
    refine r_get (C := RX7) (T := TX7) (N := 49) (ci := 10) (fs := fl_30 ad ν ρ 0 (σ 30 0)) hx hb hts hown hE hW 30 0 rfl rfl rfl (fun w h => List.mem_cons_of_mem _ (List.mem_append_right _ h)) 12 (by decide) (List.mem_of_getElem? (i := 1) rfl) rfl (v := .int (ρ 12 0)) rfl dX7_there_6 ?_
    refine r_icmp_ge hx hb rfl rfl (tgt := 35) dX7_there_9 (by decide) (fun c1 => ?_) (fun c1 => ?_)
    · have h := ite_f c1 h
      refine lv_iload_n hx hb dX7_there_35 rfl (lv_at hl 1 rfl) ?_
      exact W.iret (v := x1) hx hb hr (fun t ht _ => ⟨⟨_, (σ, ν, ρ, lo), rfl, ⟨rfl, h⟩, WP.at9 ht hW⟩, hS.F ht⟩) hS.2.2 dX7_there_36 (hlocks := hlocks)
    · have h := ite_t c1 h
      refine lv_iload_n hx hb dX7_there_12 rfl (lv_at hl 1 rfl) ?_
      refine lv_aload_n hx hb dX7_there_13 rfl (lv_at hl 0 rfl) ?_
      refine r_get (C := RX7) (T := TX7) (N := 49) (ci := 10) (fs := fl_30 ad ν ρ 0 (σ 30 0)) hx hb hts hown hE hW 30 0 rfl rfl rfl (fun w h => List.mem_cons_of_mem _ (List.mem_append_right _ h)) 37 (by decide) (List.mem_of_getElem? (i := 2) rfl) rfl (v := .ref (ad 137 0)) rfl dX7_there_14 ?_
      refine lv_iload_n hx hb dX7_there_17 rfl (lv_at hl 2 rfl) ?_
      obtain ⟨b2, h⟩ := h
      refine r_zald hx hb hE hW 137 0 ⟨rfl, by decide, by decide⟩ (n := 20) (f := ρ 37) rfl b2 (v := ρ 37 x2.toNatClampNeg) rfl dX7_there_18 ?_
      refine r_if_eq hx hb rfl (tgt := 26) dX7_there_19 (by decide) (fun c3 => ?_) (fun c3 => ?_)
      · have h := ite_t c3 h
        refine lv_iconst (v := (0 : Int32)) hx hb dX7_there_26 (by decide) ?_
        exact tX7_there_27 (σ := σ) (ρ := ρ) X  (wX7_there_4  post n) post ih x2 x1 ((0 : Int32)) hW hS (lv_sub hl [0, 2] rfl) h
      · have h := ite_f c3 h
        refine lv_iconst (v := (1 : Int32)) hx hb dX7_there_22 (by decide) ?_
        refine lv_goto (tgt := 27) hx hb dX7_there_23 (by decide) ?_
        exact tX7_there_27 (σ := σ) (ρ := ρ) X  (wX7_there_4  post n) post ih x2 x1 ((1 : Int32)) hW hS (lv_sub hl [0, 2] rfl) h
set_option maxHeartbeats 4000000 in
set_option maxRecDepth 100000 in
theorem mtX7_there (l : Launch) (z : Nat) (G : Gl) (ad : Nat → Nat → Nat) (σ : SG) (ν : NU) (ρ : RH) (lo : Int64)  (post : Int32 → Prop) (h : wpX7_there ρ  post) : Met l yX7_there wsX7_there ({ frames := 0, cells := 0, slots := 0, locals := 0 } : Room) (Pcs z G ad (σ, ν, ρ, lo) [.ref (ad 30 0)]) (Qis z G ad (fun r S1 => S1 = (σ, ν, ρ, lo) ∧ post r)) 0 0 (Az z) := by
  refine Met.ofW (cc := cX7_there) (maxL := 3) (ret := (some .int)) (by decide) rfl ?_
  intro p e s m args below meth c s₁ B hml hv
  obtain ⟨rfl, hz, hW, hE⟩ := hv
  have hx := B.exec
  have hb := B.bytes
  have hr := B.returns
  have hts := atoms_spec (ws := wsX7_there) B.pre
  have hown : s.vm.findClass RX7 = some m.cls := findClass_of_methodNamed B.named
  have hlocks := B.notSynchronized
  have X : Cx p l e s m _ below meth c cX7_there (some .int) 3 RX7 wsX7_there z G := ⟨hx, hb, hr, hml, hown, hts, hlocks, hE, hz⟩
  have hS : va_S (Az z) s.heap s.heap [] := va_S.rf
  have hl := lv_entry [.ref (ad 30 0)] (n := 3) (Nat.le_of_ble_eq_true rfl)
  rw [lg_entry_eq]
  generalize (lg_sl [.ref (ad 30 0)] ++ List.replicate (3 - (lg_sl [.ref (ad 30 0)]).length) Slot.unset).toArray = ls at hl ⊢
  have hl : lv_has ls 3 [(0, .ref (ad 30 0))] := hl
  unfold wpX7_there at h
  refine lv_iconst (v := (0 : Int32)) hx hb dX7_there_0 (by decide) ?_
  refine lv_istore_n (lv' := [(1, .int ((0 : Int32))), (0, .ref (ad 30 0))]) hx hb dX7_there_1 rfl hl (by decide) rfl (fun ls hl => ?_)
  refine lv_iconst (v := (0 : Int32)) hx hb dX7_there_2 (by decide) ?_
  refine lv_istore_n (lv' := [(2, .int ((0 : Int32))), (1, .int ((0 : Int32))), (0, .ref (ad 30 0))]) hx hb dX7_there_3 rfl hl (by decide) rfl (fun ls hl => ?_)
  obtain ⟨n4, h⟩ := h
  exact tX7_there_4 (σ := σ) (ρ := ρ) X  post  n4 ((0 : Int32)) ((0 : Int32)) hW hS (lv_sub hl [2, 1, 0] rfl) h
set_option maxHeartbeats 4000000 in
set_option maxRecDepth 100000 in
theorem tX7_look_34 {p : Program} {l : Launch} {e : Env} {s : State} {m : MethodId} {args : Array Value} {below : List Frame} {meth : Method} {c : Code} {z : Nat} {G : Gl} {ad : Nat → Nat → Nat} {σ : SG} {ν : NU} {ρ : RH} {lo : Int64} (X : Cx p l e s m args below meth c cX7_look (some .int) 4 RX7 wsX7_look z G) (p1 : Int32) (p2 : Int32) (p3 : Int32)  (post : Int32 → RH → Prop) : ∀ (a3 : RH) (y0 : Nat) (y1 : Int32) {H : Heap} {locs : List Loc} {ls : Array Slot}, WP z G ad (σ, ν, a3, lo) H → va_S (Az z) s.heap H locs → lv_has ls 4 [(0, .ref (ad 30 0)), (1, .int p1), (2, .int p2), (3, .int p3)] → jX7_look_34 p1 p2 p3 post a3 y0 y1 → W p l e ({ frames := 6, cells := 0, slots := 0, locals := 150 } : Room) s m args below meth c H locs 0 0 (MQ below (Qis z G ad (fun r S1 => ∃ t : RH, S1 = (σ, ν, t, lo) ∧ post r t)) args s 0 0 (Az z)) (F0 m 34 ls [.int y1, .ref (ad 30 0)]) := by
  obtain ⟨hx, hb, hr, hml, hown, hts, hlocks, hE, hz⟩ := id X
  intro a3 y0 y1 H locs ls hW hS hl h
  unfold jX7_look_34 at h
  refine k_Vi (rest := []) (As := [.int y1]) ⟨hx, hb, hml, hown, hts⟩ hE hz hS hW (mtX7_goes l z G ad σ ν a3 lo y1 _ h) (cwV 1 hts gX7_look_X7_goes rfl rfl rfl (by decide +kernel) ⟨Nat.le_of_ble_eq_true rfl, Nat.le_of_ble_eq_true rfl⟩) (r_recv hE hW 30 0 rfl (ci := 10) rfl rfl) rfl hl.1 rfl (Nat.le_of_ble_eq_true rfl) dX7_look_34 ⟨Nat.le_of_ble_eq_true rfl, Nat.le_of_ble_eq_true rfl⟩ (fun r3 S1 H locs hp hW hS => ?_)
  obtain ⟨t4, rfl, h⟩ := hp
  refine r_if_ne hx hb rfl (tgt := 42) dX7_look_37 (by decide) (fun c5 => ?_) (fun c5 => ?_)
  · have h := ite_f c5 h
    refine lv_aload_n hx hb dX7_look_42 rfl (lv_at hl 0 rfl) ?_
    refine lv_iload_n hx hb dX7_look_43 rfl (lv_at hl 1 rfl) ?_
    refine r_putM hx hb hts hown hE hW hS (fun w h => List.mem_cons_of_mem _ (List.mem_append_right _ h)) 33 (by decide) (List.mem_of_getElem? (i := 2) rfl) rfl rfl rfl (x := p1) rfl rfl dX7_look_44 (fun t6 e7 H locs hW hS => ?_)
    have h := h t6 e7
    refine lv_aload_n hx hb dX7_look_47 rfl (lv_at hl 0 rfl) ?_
    refine lv_iload_n hx hb dX7_look_48 rfl (lv_at hl 2 rfl) ?_
    refine r_putM hx hb hts hown hE hW hS (fun w h => List.mem_cons_of_mem _ (List.mem_append_right _ h)) 34 (by decide) (List.mem_of_getElem? (i := 3) rfl) rfl rfl rfl (x := p2) rfl rfl dX7_look_49 (fun t8 e9 H locs hW hS => ?_)
    have h := h t8 e9
    refine lv_aload_n hx hb dX7_look_52 rfl (lv_at hl 0 rfl) ?_
    refine lv_iload_n hx hb dX7_look_53 rfl (lv_at hl 3 rfl) ?_
    refine r_putM hx hb hts hown hE hW hS (fun w h => List.mem_cons_of_mem _ (List.mem_append_right _ h)) 35 (by decide) (List.mem_of_getElem? (i := 4) rfl) rfl rfl rfl (x := p3) rfl rfl dX7_look_54 (fun t10 e11 H locs hW hS => ?_)
    have h := h t10 e11
    refine lv_aload_n hx hb dX7_look_57 rfl (lv_at hl 0 rfl) ?_
    refine k_Vv (rest := []) (As := []) ⟨hx, hb, hml, hown, hts⟩ hE hz hS hW (mtX7_laysView l z G ad σ ν t10 lo  _ h) (cwV 0 hts gX7_look_X7_laysView rfl rfl rfl (by decide +kernel) ⟨Nat.le_of_ble_eq_true rfl, Nat.le_of_ble_eq_true rfl⟩) (r_recv hE hW 30 0 rfl (ci := 10) rfl rfl) rfl hl.1 rfl (Nat.le_of_ble_eq_true rfl) dX7_look_58 ⟨Nat.le_of_ble_eq_true rfl, Nat.le_of_ble_eq_true rfl⟩ (fun S1 H locs hp hW hS => ?_)
    obtain ⟨t12, rfl, h⟩ := hp
    refine lv_aload_n hx hb dX7_look_61 rfl (lv_at hl 0 rfl) ?_
    refine k_Vi (rest := []) (As := []) ⟨hx, hb, hml, hown, hts⟩ hE hz hS hW (mtX7_there l z G ad σ ν t12 lo  _ h) (cwV 0 hts gX7_look_X7_there rfl rfl rfl (by decide +kernel) ⟨Nat.le_of_ble_eq_true rfl, Nat.le_of_ble_eq_true rfl⟩) (r_recv hE hW 30 0 rfl (ci := 10) rfl rfl) rfl hl.1 rfl (Nat.le_of_ble_eq_true rfl) dX7_look_62 ⟨Nat.le_of_ble_eq_true rfl, Nat.le_of_ble_eq_true rfl⟩ (fun r13 S1 H locs hp hW hS => ?_)
    obtain ⟨rfl, h⟩ := hp
    exact W.iret (v := r13) hx hb hr (fun t ht _ => ⟨⟨_, (σ, ν, t12, lo), rfl, ⟨_, rfl, h⟩, WP.at9 ht hW⟩, hS.F ht⟩) hS.2.2 dX7_look_65 (hlocks := hlocks)
  · have h := ite_t c5 h
    refine lv_iconst (v := (0 : Int32)) hx hb dX7_look_40 (by decide) ?_
    exact W.iret (v := (0 : Int32)) hx hb hr (fun t ht _ => ⟨⟨_, (σ, ν, t4, lo), rfl, ⟨_, rfl, h⟩, WP.at9 ht hW⟩, hS.F ht⟩) hS.2.2 dX7_look_41 (hlocks := hlocks)
set_option maxHeartbeats 4000000 in
set_option maxRecDepth 100000 in
theorem mtX7_look (l : Launch) (z : Nat) (G : Gl) (ad : Nat → Nat → Nat) (σ : SG) (ν : NU) (ρ : RH) (lo : Int64) (p1 : Int32) (p2 : Int32) (p3 : Int32) (post : Int32 → RH → Prop) (h : wpX7_look ρ p1 p2 p3 post) : Met l yX7_look wsX7_look ({ frames := 6, cells := 0, slots := 0, locals := 150 } : Room) (Pcs z G ad (σ, ν, ρ, lo) [.ref (ad 30 0), .int p1, .int p2, .int p3]) (Qis z G ad (fun r S1 => ∃ t : RH, S1 = (σ, ν, t, lo) ∧ post r t)) 0 0 (Az z) := by
  refine Met.ofW (cc := cX7_look) (maxL := 4) (ret := (some .int)) (by decide) rfl ?_
  intro p e s m args below meth c s₁ B hml hv
  obtain ⟨rfl, hz, hW, hE⟩ := hv
  have hx := B.exec
  have hb := B.bytes
  have hr := B.returns
  have hts := atoms_spec (ws := wsX7_look) B.pre
  have hown : s.vm.findClass RX7 = some m.cls := findClass_of_methodNamed B.named
  have hlocks := B.notSynchronized
  have X : Cx p l e s m _ below meth c cX7_look (some .int) 4 RX7 wsX7_look z G := ⟨hx, hb, hr, hml, hown, hts, hlocks, hE, hz⟩
  have hS : va_S (Az z) s.heap s.heap [] := va_S.rf
  have hl := lv_entry [.ref (ad 30 0), .int p1, .int p2, .int p3] (n := 4) (Nat.le_of_ble_eq_true rfl)
  rw [lg_entry_eq]
  generalize (lg_sl [.ref (ad 30 0), .int p1, .int p2, .int p3] ++ List.replicate (4 - (lg_sl [.ref (ad 30 0), .int p1, .int p2, .int p3]).length) Slot.unset).toArray = ls at hl ⊢
  have hl : lv_has ls 4 [(0, .ref (ad 30 0)), (1, .int p1), (2, .int p2), (3, .int p3)] := hl
  unfold wpX7_look at h
  refine lv_aload_n hx hb dX7_look_0 rfl (lv_at hl 0 rfl) ?_
  refine lv_iload_n hx hb dX7_look_1 rfl (lv_at hl 1 rfl) ?_
  refine k_Si (rest := [.ref (ad 30 0)]) (As := [.int p1]) ⟨hx, hb, hml, hown, hts⟩ hE hz hS hW (mtX7_isDay l z G ad σ ν ρ lo p1 _ h) (va_cwS 1 hts gX7_look_X7_isDay rfl rfl rfl (by decide +kernel) ⟨Nat.le_of_ble_eq_true rfl, Nat.le_of_ble_eq_true rfl⟩) rfl hl.1 rfl (Nat.le_of_ble_eq_true rfl) dX7_look_2 ⟨Nat.le_of_ble_eq_true rfl, Nat.le_of_ble_eq_true rfl⟩ (fun r1 S1 H locs hp hW hS => ?_)
  obtain ⟨rfl, h⟩ := hp
  refine r_if_eq hx hb rfl (tgt := 33) dX7_look_5 (by decide) (fun c2 => ?_) (fun c2 => ?_)
  · have h := ite_t c2 h
    refine lv_iconst (v := (1 : Int32)) hx hb dX7_look_33 (by decide) ?_
    exact tX7_look_34 (σ := σ) (ρ := ρ) X p1 p2 p3 post  ρ 0 ((1 : Int32)) hW hS (lv_sub hl [0, 1, 2, 3] rfl) h
  · have h := ite_f c2 h
    refine lv_iload_n hx hb dX7_look_8 rfl (lv_at hl 2 rfl) ?_
    refine lv_iconst (v := (0 : Int32)) hx hb dX7_look_9 (by decide) ?_
    refine lv_aload_n hx hb dX7_look_10 rfl (lv_at hl 0 rfl) ?_
    refine r_get (C := RX7) (T := TX7) (N := 49) (ci := 10) (fs := fl_30 ad ν ρ 0 (σ 30 0)) hx hb hts hown hE hW 30 0 rfl rfl rfl (fun w h => List.mem_cons_of_mem _ (List.mem_append_right _ h)) 0 (by decide) (List.mem_of_getElem? (i := 1) rfl) rfl (v := .int (ρ 0 0)) rfl dX7_look_11 ?_
    refine k_Si (rest := [.ref (ad 30 0)]) (As := [.int p2, .int ((0 : Int32)), .int (ρ 0 0)]) ⟨hx, hb, hml, hown, hts⟩ hE hz hS hW (mtX7_isIn l z G ad σ ν ρ lo p2 ((0 : Int32)) (ρ 0 0) _ h) (va_cwS 3 hts gX7_look_X7_isIn rfl rfl rfl (by decide +kernel) ⟨Nat.le_of_ble_eq_true rfl, Nat.le_of_ble_eq_true rfl⟩) rfl hl.1 rfl (Nat.le_of_ble_eq_true rfl) dX7_look_14 ⟨Nat.le_of_ble_eq_true rfl, Nat.le_of_ble_eq_true rfl⟩ (fun r14 S1 H locs hp hW hS => ?_)
    obtain ⟨rfl, h⟩ := hp
    refine r_if_eq hx hb rfl (tgt := 33) dX7_look_17 (by decide) (fun c15 => ?_) (fun c15 => ?_)
    · have h := ite_t c15 h
      refine lv_iconst (v := (1 : Int32)) hx hb dX7_look_33 (by decide) ?_
      exact tX7_look_34 (σ := σ) (ρ := ρ) X p1 p2 p3 post  ρ 0 ((1 : Int32)) hW hS (lv_sub hl [0, 1, 2, 3] rfl) h
    · have h := ite_f c15 h
      refine lv_iload_n hx hb dX7_look_20 rfl (lv_at hl 3 rfl) ?_
      refine lv_iconst (v := (0 : Int32)) hx hb dX7_look_21 (by decide) ?_
      refine lv_iconst (v := (2 : Int32)) hx hb dX7_look_22 (by decide) ?_
      refine k_Si (rest := [.ref (ad 30 0)]) (As := [.int p3, .int ((0 : Int32)), .int ((2 : Int32))]) ⟨hx, hb, hml, hown, hts⟩ hE hz hS hW (mtX7_isIn l z G ad σ ν ρ lo p3 ((0 : Int32)) ((2 : Int32)) _ h) (va_cwS 3 hts gX7_look_X7_isIn rfl rfl rfl (by decide +kernel) ⟨Nat.le_of_ble_eq_true rfl, Nat.le_of_ble_eq_true rfl⟩) rfl hl.1 rfl (Nat.le_of_ble_eq_true rfl) dX7_look_23 ⟨Nat.le_of_ble_eq_true rfl, Nat.le_of_ble_eq_true rfl⟩ (fun r16 S1 H locs hp hW hS => ?_)
      obtain ⟨rfl, h⟩ := hp
      refine r_if_eq hx hb rfl (tgt := 33) dX7_look_26 (by decide) (fun c17 => ?_) (fun c17 => ?_)
      · have h := ite_t c17 h
        refine lv_iconst (v := (1 : Int32)) hx hb dX7_look_33 (by decide) ?_
        exact tX7_look_34 (σ := σ) (ρ := ρ) X p1 p2 p3 post  ρ 0 ((1 : Int32)) hW hS (lv_sub hl [0, 1, 2, 3] rfl) h
      · have h := ite_f c17 h
        refine lv_iconst (v := (0 : Int32)) hx hb dX7_look_29 (by decide) ?_
        refine lv_goto (tgt := 34) hx hb dX7_look_30 (by decide) ?_
        exact tX7_look_34 (σ := σ) (ρ := ρ) X p1 p2 p3 post  ρ 0 ((0 : Int32)) hW hS (lv_sub hl [0, 1, 2, 3] rfl) h
set_option maxHeartbeats 4000000 in
set_option maxRecDepth 100000 in
theorem mtX7_key (l : Launch) (z : Nat) (G : Gl) (ad : Nat → Nat → Nat) (σ : SG) (ν : NU) (ρ : RH) (lo : Int64) (p0 : Int32) (post : Int32 → Prop) (h : wpX7_key ρ p0 post) : Met l yX7_key wsX7_key ({ frames := 0, cells := 0, slots := 0, locals := 0 } : Room) (Pcs z G ad (σ, ν, ρ, lo) [.int p0]) (Qis z G ad (fun r S1 => S1 = (σ, ν, ρ, lo) ∧ post r)) 0 0 (Az z) := by
  refine Met.ofW (cc := cX7_key) (maxL := 2) (ret := (some .int)) (by decide) rfl ?_
  intro p e s m args below meth c s₁ B hml hv
  obtain ⟨rfl, hz, hW, hE⟩ := hv
  have hx := B.exec
  have hb := B.bytes
  have hr := B.returns
  have hts := atoms_spec (ws := wsX7_key) B.pre
  have hown : s.vm.findClass RX7 = some m.cls := findClass_of_methodNamed B.named
  have hlocks := B.notSynchronized
  have X : Cx p l e s m _ below meth c cX7_key (some .int) 2 RX7 wsX7_key z G := ⟨hx, hb, hr, hml, hown, hts, hlocks, hE, hz⟩
  have hS : va_S (Az z) s.heap s.heap [] := va_S.rf
  have hl := lv_entry [.int p0] (n := 2) (Nat.le_of_ble_eq_true rfl)
  rw [lg_entry_eq]
  generalize (lg_sl [.int p0] ++ List.replicate (2 - (lg_sl [.int p0]).length) Slot.unset).toArray = ls at hl ⊢
  have hl : lv_has ls 2 [(0, .int p0)] := hl
  unfold wpX7_key at h
  refine lv_iload_n hx hb dX7_key_0 rfl (lv_at hl 0 rfl) ?_
  refine lv_sipush (v := (1000 : Int32)) hx hb dX7_key_1 (by decide) ?_
  refine lv_irem hx hb dX7_key_4 (by decide) ?_
  refine lv_istore_n (lv' := [(1, .int (p0 - p0 / ((1000 : Int32)) * ((1000 : Int32)))), (0, .int p0)]) hx hb dX7_key_5 rfl hl (by decide) rfl (fun ls hl => ?_)
  refine lv_sipush (v := (1000 : Int32)) hx hb dX7_key_6 (by decide) ?_
  refine lv_iload_n hx hb dX7_key_9 rfl (lv_at hl 1 rfl) ?_
  refine lv_sipush (v := (1000 : Int32)) hx hb dX7_key_10 (by decide) ?_
  refine lv_idiv hx hb dX7_key_13 (by decide) ?_
  refine lv_imul hx hb dX7_key_14 ?_
  refine lv_iload_n hx hb dX7_key_15 rfl (lv_at hl 0 rfl) ?_
  refine lv_bipush (v := (27 : Int32)) hx hb dX7_key_16 (by decide) ?_
  refine r_icmp_ge hx hb rfl (show (27 : Int32).toInt = 27 by decide) (tgt := 28) dX7_key_18 (by decide) (fun c1 => ?_) (fun c1 => ?_)
  · have h := ite_f c1 h
    refine lv_iload_n hx hb dX7_key_28 rfl (lv_at hl 0 rfl) ?_
    refine lv_iadd hx hb dX7_key_29 ?_
    exact W.iret (v := (((1000 : Int32)) * (p0 / ((1000 : Int32)))) + (p0 - p0 / ((1000 : Int32)) * ((1000 : Int32)))) hx hb hr (fun t ht _ => ⟨⟨_, (σ, ν, ρ, lo), rfl, ⟨rfl, h⟩, WP.at9 ht hW⟩, hS.F ht⟩) hS.2.2 dX7_key_30 (hlocks := hlocks)
  · have h := ite_t c1 h
    refine lv_bipush (v := (27 : Int32)) hx hb dX7_key_21 (by decide) ?_
    refine lv_iload_n hx hb dX7_key_23 rfl (lv_at hl 0 rfl) ?_
    refine lv_imul hx hb dX7_key_24 ?_
    refine lv_goto (tgt := 29) hx hb dX7_key_25 (by decide) ?_
    refine lv_iadd hx hb dX7_key_29 ?_
    exact W.iret (v := (((1000 : Int32)) * (p0 / ((1000 : Int32)))) + (((27 : Int32)) * (p0 - p0 / ((1000 : Int32)) * ((1000 : Int32))))) hx hb hr (fun t ht _ => ⟨⟨_, (σ, ν, ρ, lo), rfl, ⟨rfl, h⟩, WP.at9 ht hW⟩, hS.F ht⟩) hS.2.2 dX7_key_30 (hlocks := hlocks)
set_option maxHeartbeats 4000000 in
set_option maxRecDepth 100000 in
theorem tX7_nextChild_54 {p : Program} {l : Launch} {e : Env} {s : State} {m : MethodId} {args : Array Value} {below : List Frame} {meth : Method} {c : Code} {z : Nat} {G : Gl} {ad : Nat → Nat → Nat} {σ : SG} {ν : NU} {ρ : RH} {lo : Int64} (X : Cx p l e s m args below meth c cX7_nextChild (some .int) 6 RX7 wsX7_nextChild z G) (p1 : Int32) (p2 : Int32) (κ5 : RH → Int32 → Int32 → Prop) (post : Int32 → Prop) (hk5 : ∀ (x3 : Int32) (x4 : Int32) {H : Heap} {locs : List Loc} {ls : Array Slot}, WP z G ad (σ, ν, ρ, lo) H → va_S (Az z) s.heap H locs → lv_has ls 6 [(0, .ref (ad 30 0)), (1, .int p1), (2, .int p2), (3, .int x3), (4, .int x4)] → κ5 ρ x3 x4 → W p l e ({ frames := 1, cells := 0, slots := 0, locals := 21 } : Room) s m args below meth c H locs 0 0 (MQ below (Qis z G ad (fun r S1 => S1 = (σ, ν, ρ, lo) ∧ post r)) args s 0 0 (Az z)) (F0 m 5 ls [])) : ∀ (x3 : Int32) (x4 : Int32) (y0 : Int32) {H : Heap} {locs : List Loc} {ls : Array Slot}, WP z G ad (σ, ν, ρ, lo) H → va_S (Az z) s.heap H locs → lv_has ls 6 [(0, .ref (ad 30 0)), (1, .int p1), (2, .int p2), (3, .int x3), (4, .int x4)] → jX7_nextChild_54 p1 p2 κ5 post ρ x3 x4 y0 → W p l e ({ frames := 1, cells := 0, slots := 0, locals := 21 } : Room) s m args below meth c H locs 0 0 (MQ below (Qis z G ad (fun r S1 => S1 = (σ, ν, ρ, lo) ∧ post r)) args s 0 0 (Az z)) (F0 m 54 ls [.int y0]) := by
  obtain ⟨hx, hb, hr, hml, hown, hts, hlocks, hE, hz⟩ := id X
  intro x3 x4 y0 H locs ls hW hS hl h
  unfold jX7_nextChild_54 at h
  refine lv_istore (lv' := [(5, .int y0), (0, .ref (ad 30 0)), (1, .int p1), (2, .int p2), (3, .int x3), (4, .int x4)]) hx hb dX7_nextChild_54 hl (by decide) rfl (fun ls hl => ?_)
  refine lv_iload hx hb dX7_nextChild_56 (lv_at hl 0 rfl) ?_
  refine r_if_eq hx hb rfl (tgt := 93) dX7_nextChild_58 (by decide) (fun c4 => ?_) (fun c4 => ?_)
  · have h := ite_t c4 h
    refine lv_iload_n hx hb dX7_nextChild_93 rfl (lv_at hl 4 rfl) ?_
    refine lv_istore_n (lv' := [(3, .int x3), (5, .int y0), (0, .ref (ad 30 0)), (1, .int p1), (2, .int p2), (4, .int x4)]) hx hb dX7_nextChild_94 rfl hl (by decide) rfl (fun ls hl => ?_)
    refine lv_iinc (v := x4 + (1 : Int32)) (lv' := [(4, .int (x4 + (1 : Int32))), (3, .int x3), (5, .int y0), (0, .ref (ad 30 0)), (1, .int p1), (2, .int p2)]) hx hb dX7_nextChild_95 hl (k := 5) rfl rfl (by decide) rfl (fun ls hl => ?_)
    refine lv_goto (tgt := 5) hx hb dX7_nextChild_98 (by decide) ?_
    exact hk5 x3 (x4 + (1 : Int32)) hW hS (lv_sub hl [3, 4, 5, 1, 0] rfl) h
  · have h := ite_f c4 h
    refine lv_iload_n hx hb dX7_nextChild_61 rfl (lv_at hl 4 rfl) ?_
    refine lv_iconst (v := (-1 : Int32)) hx hb dX7_nextChild_62 (by decide) ?_
    refine r_icmp_eq hx hb rfl (show (-1 : Int32).toInt = (-1) by decide) (tgt := 88) dX7_nextChild_63 (by decide) (fun c5 => ?_) (fun c5 => ?_)
    · have h := ite_t c5 h
      refine lv_iload hx hb dX7_nextChild_88 (lv_at hl 5 rfl) ?_
      refine lv_goto (tgt := 94) hx hb dX7_nextChild_90 (by decide) ?_
      refine lv_istore_n (lv' := [(3, .int x4), (5, .int y0), (0, .ref (ad 30 0)), (1, .int p1), (2, .int p2), (4, .int x4)]) hx hb dX7_nextChild_94 rfl hl (by decide) rfl (fun ls hl => ?_)
      refine lv_iinc (v := x4 + (1 : Int32)) (lv' := [(4, .int (x4 + (1 : Int32))), (3, .int x4), (5, .int y0), (0, .ref (ad 30 0)), (1, .int p1), (2, .int p2)]) hx hb dX7_nextChild_95 hl (k := 5) rfl rfl (by decide) rfl (fun ls hl => ?_)
      refine lv_goto (tgt := 5) hx hb dX7_nextChild_98 (by decide) ?_
      exact hk5 x4 (x4 + (1 : Int32)) hW hS (lv_sub hl [3, 4, 5, 1, 0] rfl) h
    · have h := ite_f c5 h
      refine lv_aload_n hx hb dX7_nextChild_66 rfl (lv_at hl 1 rfl) ?_
      refine r_get (C := RX7) (T := TX7) (N := 49) (ci := 10) (fs := fl_30 ad ν ρ 0 (σ 30 0)) hx hb hts hown hE hW 30 0 rfl rfl rfl (fun w h => List.mem_cons_of_mem _ (List.mem_append_right _ h)) 38 (by decide) (List.mem_of_getElem? (i := 4) rfl) rfl (v := .ref (ad 138 0)) rfl dX7_nextChild_67 ?_
      refine lv_iload hx hb dX7_nextChild_70 (lv_at hl 5 rfl) ?_
      obtain ⟨b6, h⟩ := h
      refine r_iald hx hb hE hW 138 0 ⟨rfl, by decide, by decide⟩ (n := 20) (f := ρ 38) rfl b6 (v := ρ 38 x4.toNatClampNeg) rfl dX7_nextChild_72 ?_
      refine k_Si (rest := []) (As := [.int (ρ 38 x4.toNatClampNeg)]) ⟨hx, hb, hml, hown, hts⟩ hE hz hS hW (mtX7_key l z G ad σ ν ρ lo (ρ 38 x4.toNatClampNeg) _ h) (va_cwS 1 hts gX7_nextChild_X7_key rfl rfl rfl (by decide +kernel) ⟨Nat.le_of_ble_eq_true rfl, Nat.le_of_ble_eq_true rfl⟩) rfl hl.1 rfl (Nat.le_of_ble_eq_true rfl) dX7_nextChild_73 ⟨Nat.le_of_ble_eq_true rfl, Nat.le_of_ble_eq_true rfl⟩ (fun r7 S1 H locs hp hW hS => ?_)
      obtain ⟨rfl, h⟩ := hp
      refine lv_aload_n hx hb dX7_nextChild_76 rfl (lv_at hl 1 rfl) ?_
      refine r_get (C := RX7) (T := TX7) (N := 49) (ci := 10) (fs := fl_30 ad ν ρ 0 (σ 30 0)) hx hb hts hown hE hW 30 0 rfl rfl rfl (fun w h => List.mem_cons_of_mem _ (List.mem_append_right _ h)) 38 (by decide) (List.mem_of_getElem? (i := 4) rfl) rfl (v := .ref (ad 138 0)) rfl dX7_nextChild_77 ?_
      refine lv_iload_n hx hb dX7_nextChild_80 rfl (lv_at hl 4 rfl) ?_
      obtain ⟨b8, h⟩ := h
      refine r_iald hx hb hE hW 138 0 ⟨rfl, by decide, by decide⟩ (n := 20) (f := ρ 38) rfl b8 (v := ρ 38 x3.toNatClampNeg) rfl dX7_nextChild_81 ?_
      refine k_Si (rest := [.int r7]) (As := [.int (ρ 38 x3.toNatClampNeg)]) ⟨hx, hb, hml, hown, hts⟩ hE hz hS hW (mtX7_key l z G ad σ ν ρ lo (ρ 38 x3.toNatClampNeg) _ h) (va_cwS 1 hts gX7_nextChild_X7_key rfl rfl rfl (by decide +kernel) ⟨Nat.le_of_ble_eq_true rfl, Nat.le_of_ble_eq_true rfl⟩) rfl hl.1 rfl (Nat.le_of_ble_eq_true rfl) dX7_nextChild_82 ⟨Nat.le_of_ble_eq_true rfl, Nat.le_of_ble_eq_true rfl⟩ (fun r9 S1 H locs hp hW hS => ?_)
      obtain ⟨rfl, h⟩ := hp
      refine r_icmp_ge hx hb rfl rfl (tgt := 93) dX7_nextChild_85 (by decide) (fun c10 => ?_) (fun c10 => ?_)
      · have h := ite_f c10 h
        refine lv_iload_n hx hb dX7_nextChild_93 rfl (lv_at hl 4 rfl) ?_
        refine lv_istore_n (lv' := [(3, .int x3), (5, .int y0), (0, .ref (ad 30 0)), (1, .int p1), (2, .int p2), (4, .int x4)]) hx hb dX7_nextChild_94 rfl hl (by decide) rfl (fun ls hl => ?_)
        refine lv_iinc (v := x4 + (1 : Int32)) (lv' := [(4, .int (x4 + (1 : Int32))), (3, .int x3), (5, .int y0), (0, .ref (ad 30 0)), (1, .int p1), (2, .int p2)]) hx hb dX7_nextChild_95 hl (k := 5) rfl rfl (by decide) rfl (fun ls hl => ?_)
        refine lv_goto (tgt := 5) hx hb dX7_nextChild_98 (by decide) ?_
        exact hk5 x3 (x4 + (1 : Int32)) hW hS (lv_sub hl [3, 4, 5, 1, 0] rfl) h
      · have h := ite_t c10 h
        refine lv_iload hx hb dX7_nextChild_88 (lv_at hl 5 rfl) ?_
        refine lv_goto (tgt := 94) hx hb dX7_nextChild_90 (by decide) ?_
        refine lv_istore_n (lv' := [(3, .int x4), (5, .int y0), (0, .ref (ad 30 0)), (1, .int p1), (2, .int p2), (4, .int x4)]) hx hb dX7_nextChild_94 rfl hl (by decide) rfl (fun ls hl => ?_)
        refine lv_iinc (v := x4 + (1 : Int32)) (lv' := [(4, .int (x4 + (1 : Int32))), (3, .int x4), (5, .int y0), (0, .ref (ad 30 0)), (1, .int p1), (2, .int p2)]) hx hb dX7_nextChild_95 hl (k := 5) rfl rfl (by decide) rfl (fun ls hl => ?_)
        refine lv_goto (tgt := 5) hx hb dX7_nextChild_98 (by decide) ?_
        exact hk5 x4 (x4 + (1 : Int32)) hW hS (lv_sub hl [3, 4, 5, 1, 0] rfl) h
set_option maxHeartbeats 4000000 in
set_option maxRecDepth 100000 in
theorem tX7_nextChild_5 {p : Program} {l : Launch} {e : Env} {s : State} {m : MethodId} {args : Array Value} {below : List Frame} {meth : Method} {c : Code} {z : Nat} {G : Gl} {ad : Nat → Nat → Nat} {σ : SG} {ν : NU} {ρ : RH} {lo : Int64} (X : Cx p l e s m args below meth c cX7_nextChild (some .int) 6 RX7 wsX7_nextChild z G) (p1 : Int32) (p2 : Int32)  (post : Int32 → Prop) : ∀ (n : Nat) (x3 : Int32) (x4 : Int32) {H : Heap} {locs : List Loc} {ls : Array Slot}, WP z G ad (σ, ν, ρ, lo) H → va_S (Az z) s.heap H locs → lv_has ls 6 [(0, .ref (ad 30 0)), (1, .int p1), (2, .int p2), (3, .int x3), (4, .int x4)] → wX7_nextChild_5 p1 p2 post n ρ x3 x4 → W p l e ({ frames := 1, cells := 0, slots := 0, locals := 21 } : Room) s m args below meth c H locs 0 0 (MQ below (Qis z G ad (fun r S1 => S1 = (σ, ν, ρ, lo) ∧ post r)) args s 0 0 (Az z)) (F0 m 5 ls []) := by
  obtain ⟨hx, hb, hr, hml, hown, hts, hlocks, hE, hz⟩ := id X
  intro n
  induction n with
  | zero =>
    intro x3 x4 H locs ls hW hS hl h
    exact absurd h id
  | succ n ih =>
    intro x3 x4 H locs ls hW hS hl h
    unfold wX7_nextChild_5 at h
    refine lv_iload hx hb dX7_nextChild_5 (lv_at hl 4 rfl) ?_
    refine lv_aload_n hx hb dX7_nextChild_7 rfl (lv_at hl 0 rfl) ?_
    refine r_get (C := RX7) (T := TX7) (N := 49) (ci := 10) (fs := fl_30 ad ν ρ 0 (σ 30 0)) hx hb hts hown hE hW 30 0 rfl rfl rfl (fun w h => List.mem_cons_of_mem _ (List.mem_append_right _ h)) 12 (by decide) (List.mem_of_getElem? (i := 1) rfl) rfl (v := .int (ρ 12 0)) rfl dX7_nextChild_8 ?_
    refine r_icmp_ge hx hb rfl rfl (tgt := 101) dX7_nextChild_11 (by decide) (fun c1 => ?_) (fun c1 => ?_)
    · have h := ite_f c1 h
      refine lv_iload_n hx hb dX7_nextChild_101 rfl (lv_at hl 3 rfl) ?_
      exact W.iret (v := x3) hx hb hr (fun t ht _ => ⟨⟨_, (σ, ν, ρ, lo), rfl, ⟨rfl, h⟩, WP.at9 ht hW⟩, hS.F ht⟩) hS.2.2 dX7_nextChild_102 (hlocks := hlocks)
    · have h := ite_t c1 h
      refine lv_aload_n hx hb dX7_nextChild_14 rfl (lv_at hl 0 rfl) ?_
      refine r_get (C := RX7) (T := TX7) (N := 49) (ci := 10) (fs := fl_30 ad ν ρ 0 (σ 30 0)) hx hb hts hown hE hW 30 0 rfl rfl rfl (fun w h => List.mem_cons_of_mem _ (List.mem_append_right _ h)) 37 (by decide) (List.mem_of_getElem? (i := 2) rfl) rfl (v := .ref (ad 137 0)) rfl dX7_nextChild_15 ?_
      refine lv_iload hx hb dX7_nextChild_18 (lv_at hl 4 rfl) ?_
      obtain ⟨b2, h⟩ := h
      refine r_zald hx hb hE hW 137 0 ⟨rfl, by decide, by decide⟩ (n := 20) (f := ρ 37) rfl b2 (v := ρ 37 x4.toNatClampNeg) rfl dX7_nextChild_20 ?_
      refine r_if_eq hx hb rfl (tgt := 53) dX7_nextChild_21 (by decide) (fun c3 => ?_) (fun c3 => ?_)
      · have h := ite_t c3 h
        refine lv_iconst (v := (0 : Int32)) hx hb dX7_nextChild_53 (by decide) ?_
        exact tX7_nextChild_54 (σ := σ) (ρ := ρ) X p1 p2 (wX7_nextChild_5 p1 p2 post n) post ih x3 x4 ((0 : Int32)) hW hS (lv_sub hl [0, 1, 2, 3, 4] rfl) h
      · have h := ite_f c3 h
        refine lv_aload_n hx hb dX7_nextChild_24 rfl (lv_at hl 0 rfl) ?_
        refine r_get (C := RX7) (T := TX7) (N := 49) (ci := 10) (fs := fl_30 ad ν ρ 0 (σ 30 0)) hx hb hts hown hE hW 30 0 rfl rfl rfl (fun w h => List.mem_cons_of_mem _ (List.mem_append_right _ h)) 39 (by decide) (List.mem_of_getElem? (i := 3) rfl) rfl (v := .ref (ad 139 0)) rfl dX7_nextChild_25 ?_
        refine lv_iload hx hb dX7_nextChild_28 (lv_at hl 4 rfl) ?_
        obtain ⟨b11, h⟩ := h
        refine r_iald hx hb hE hW 139 0 ⟨rfl, by decide, by decide⟩ (n := 20) (f := ρ 39) rfl b11 (v := ρ 39 x4.toNatClampNeg) rfl dX7_nextChild_30 ?_
        refine lv_iload_n hx hb dX7_nextChild_31 rfl (lv_at hl 1 rfl) ?_
        refine r_icmp_ne hx hb rfl rfl (tgt := 53) dX7_nextChild_32 (by decide) (fun c12 => ?_) (fun c12 => ?_)
        · have h := ite_f c12 h
          refine lv_iconst (v := (0 : Int32)) hx hb dX7_nextChild_53 (by decide) ?_
          exact tX7_nextChild_54 (σ := σ) (ρ := ρ) X p1 p2 (wX7_nextChild_5 p1 p2 post n) post ih x3 x4 ((0 : Int32)) hW hS (lv_sub hl [0, 1, 2, 3, 4] rfl) h
        · have h := ite_t c12 h
          refine lv_aload_n hx hb dX7_nextChild_35 rfl (lv_at hl 0 rfl) ?_
          refine r_get (C := RX7) (T := TX7) (N := 49) (ci := 10) (fs := fl_30 ad ν ρ 0 (σ 30 0)) hx hb hts hown hE hW 30 0 rfl rfl rfl (fun w h => List.mem_cons_of_mem _ (List.mem_append_right _ h)) 38 (by decide) (List.mem_of_getElem? (i := 4) rfl) rfl (v := .ref (ad 138 0)) rfl dX7_nextChild_36 ?_
          refine lv_iload hx hb dX7_nextChild_39 (lv_at hl 4 rfl) ?_
          obtain ⟨b13, h⟩ := h
          refine r_iald hx hb hE hW 138 0 ⟨rfl, by decide, by decide⟩ (n := 20) (f := ρ 38) rfl b13 (v := ρ 38 x4.toNatClampNeg) rfl dX7_nextChild_41 ?_
          refine k_Si (rest := []) (As := [.int (ρ 38 x4.toNatClampNeg)]) ⟨hx, hb, hml, hown, hts⟩ hE hz hS hW (mtX7_key l z G ad σ ν ρ lo (ρ 38 x4.toNatClampNeg) _ h) (va_cwS 1 hts gX7_nextChild_X7_key rfl rfl rfl (by decide +kernel) ⟨Nat.le_of_ble_eq_true rfl, Nat.le_of_ble_eq_true rfl⟩) rfl hl.1 rfl (Nat.le_of_ble_eq_true rfl) dX7_nextChild_42 ⟨Nat.le_of_ble_eq_true rfl, Nat.le_of_ble_eq_true rfl⟩ (fun r14 S1 H locs hp hW hS => ?_)
          obtain ⟨rfl, h⟩ := hp
          refine lv_iload_n hx hb dX7_nextChild_45 rfl (lv_at hl 2 rfl) ?_
          refine r_icmp_le hx hb rfl rfl (tgt := 53) dX7_nextChild_46 (by decide) (fun c15 => ?_) (fun c15 => ?_)
          · have h := ite_t c15 h
            refine lv_iconst (v := (0 : Int32)) hx hb dX7_nextChild_53 (by decide) ?_
            exact tX7_nextChild_54 (σ := σ) (ρ := ρ) X p1 p2 (wX7_nextChild_5 p1 p2 post n) post ih x3 x4 ((0 : Int32)) hW hS (lv_sub hl [0, 1, 2, 3, 4] rfl) h
          · have h := ite_f c15 h
            refine lv_iconst (v := (1 : Int32)) hx hb dX7_nextChild_49 (by decide) ?_
            refine lv_goto (tgt := 54) hx hb dX7_nextChild_50 (by decide) ?_
            exact tX7_nextChild_54 (σ := σ) (ρ := ρ) X p1 p2 (wX7_nextChild_5 p1 p2 post n) post ih x3 x4 ((1 : Int32)) hW hS (lv_sub hl [0, 1, 2, 3, 4] rfl) h
set_option maxHeartbeats 4000000 in
set_option maxRecDepth 100000 in
theorem mtX7_nextChild (l : Launch) (z : Nat) (G : Gl) (ad : Nat → Nat → Nat) (σ : SG) (ν : NU) (ρ : RH) (lo : Int64) (p1 : Int32) (p2 : Int32) (post : Int32 → Prop) (h : wpX7_nextChild ρ p1 p2 post) : Met l yX7_nextChild wsX7_nextChild ({ frames := 1, cells := 0, slots := 0, locals := 21 } : Room) (Pcs z G ad (σ, ν, ρ, lo) [.ref (ad 30 0), .int p1, .int p2]) (Qis z G ad (fun r S1 => S1 = (σ, ν, ρ, lo) ∧ post r)) 0 0 (Az z) := by
  refine Met.ofW (cc := cX7_nextChild) (maxL := 6) (ret := (some .int)) (by decide) rfl ?_
  intro p e s m args below meth c s₁ B hml hv
  obtain ⟨rfl, hz, hW, hE⟩ := hv
  have hx := B.exec
  have hb := B.bytes
  have hr := B.returns
  have hts := atoms_spec (ws := wsX7_nextChild) B.pre
  have hown : s.vm.findClass RX7 = some m.cls := findClass_of_methodNamed B.named
  have hlocks := B.notSynchronized
  have X : Cx p l e s m _ below meth c cX7_nextChild (some .int) 6 RX7 wsX7_nextChild z G := ⟨hx, hb, hr, hml, hown, hts, hlocks, hE, hz⟩
  have hS : va_S (Az z) s.heap s.heap [] := va_S.rf
  have hl := lv_entry [.ref (ad 30 0), .int p1, .int p2] (n := 6) (Nat.le_of_ble_eq_true rfl)
  rw [lg_entry_eq]
  generalize (lg_sl [.ref (ad 30 0), .int p1, .int p2] ++ List.replicate (6 - (lg_sl [.ref (ad 30 0), .int p1, .int p2]).length) Slot.unset).toArray = ls at hl ⊢
  have hl : lv_has ls 6 [(0, .ref (ad 30 0)), (1, .int p1), (2, .int p2)] := hl
  unfold wpX7_nextChild at h
  refine lv_iconst (v := (-1 : Int32)) hx hb dX7_nextChild_0 (by decide) ?_
  refine lv_istore_n (lv' := [(3, .int ((-1 : Int32))), (0, .ref (ad 30 0)), (1, .int p1), (2, .int p2)]) hx hb dX7_nextChild_1 rfl hl (by decide) rfl (fun ls hl => ?_)
  refine lv_iconst (v := (0 : Int32)) hx hb dX7_nextChild_2 (by decide) ?_
  refine lv_istore (lv' := [(4, .int ((0 : Int32))), (3, .int ((-1 : Int32))), (0, .ref (ad 30 0)), (1, .int p1), (2, .int p2)]) hx hb dX7_nextChild_3 hl (by decide) rfl (fun ls hl => ?_)
  obtain ⟨n16, h⟩ := h
  exact tX7_nextChild_5 (σ := σ) (ρ := ρ) X p1 p2 post  n16 ((-1 : Int32)) ((0 : Int32)) hW hS (lv_sub hl [2, 3, 4, 1, 0] rfl) h
set_option maxHeartbeats 4000000 in
set_option maxRecDepth 100000 in
theorem tX7_behind_9 {p : Program} {l : Launch} {e : Env} {s : State} {m : MethodId} {args : Array Value} {below : List Frame} {meth : Method} {c : Code} {z : Nat} {G : Gl} {ad : Nat → Nat → Nat} {σ : SG} {ν : NU} {ρ : RH} {lo : Int64} (X : Cx p l e s m args below meth c cX7_behind (some .int) 4 RX7 wsX7_behind z G) (p1 : Int32)  (post : Int32 → Prop) : ∀ (n : Nat) (x2 : Int32) (x3 : Int32) {H : Heap} {locs : List Loc} {ls : Array Slot}, WP z G ad (σ, ν, ρ, lo) H → va_S (Az z) s.heap H locs → lv_has ls 4 [(0, .ref (ad 30 0)), (2, .int x2), (3, .int x3)] → wX7_behind_9 p1 post n ρ x2 x3 → W p l e ({ frames := 2, cells := 0, slots := 0, locals := 46 } : Room) s m args below meth c H locs 0 0 (MQ below (Qis z G ad (fun r S1 => S1 = (σ, ν, ρ, lo) ∧ post r)) args s 0 0 (Az z)) (F0 m 9 ls []) := by
  obtain ⟨hx, hb, hr, hml, hown, hts, hlocks, hE, hz⟩ := id X
  intro n
  induction n with
  | zero =>
    intro x2 x3 H locs ls hW hS hl h
    exact absurd h id
  | succ n ih =>
    intro x2 x3 H locs ls hW hS hl h
    unfold wX7_behind_9 at h
    refine lv_iload_n hx hb dX7_behind_9 rfl (lv_at hl 1 rfl) ?_
    refine lv_iconst (v := (-1 : Int32)) hx hb dX7_behind_10 (by decide) ?_
    refine r_icmp_ne hx hb rfl (show (-1 : Int32).toInt = (-1) by decide) (tgt := 49) dX7_behind_11 (by decide) (fun c2 => ?_) (fun c2 => ?_)
    · have h := ite_f c2 h
      refine lv_iload_n hx hb dX7_behind_49 rfl (lv_at hl 1 rfl) ?_
      exact W.iret (v := x2) hx hb hr (fun t ht _ => ⟨⟨_, (σ, ν, ρ, lo), rfl, ⟨rfl, h⟩, WP.at9 ht hW⟩, hS.F ht⟩) hS.2.2 dX7_behind_50 (hlocks := hlocks)
    · have h := ite_t c2 h
      refine lv_iload_n hx hb dX7_behind_14 rfl (lv_at hl 2 rfl) ?_
      refine lv_iconst (v := (-1 : Int32)) hx hb dX7_behind_15 (by decide) ?_
      refine r_icmp_eq hx hb rfl (show (-1 : Int32).toInt = (-1) by decide) (tgt := 49) dX7_behind_16 (by decide) (fun c3 => ?_) (fun c3 => ?_)
      · have h := ite_t c3 h
        refine lv_iload_n hx hb dX7_behind_49 rfl (lv_at hl 1 rfl) ?_
        exact W.iret (v := x2) hx hb hr (fun t ht _ => ⟨⟨_, (σ, ν, ρ, lo), rfl, ⟨rfl, h⟩, WP.at9 ht hW⟩, hS.F ht⟩) hS.2.2 dX7_behind_50 (hlocks := hlocks)
      · have h := ite_f c3 h
        refine lv_aload_n hx hb dX7_behind_19 rfl (lv_at hl 0 rfl) ?_
        refine lv_aload_n hx hb dX7_behind_20 rfl (lv_at hl 0 rfl) ?_
        refine r_get (C := RX7) (T := TX7) (N := 49) (ci := 10) (fs := fl_30 ad ν ρ 0 (σ 30 0)) hx hb hts hown hE hW 30 0 rfl rfl rfl (fun w h => List.mem_cons_of_mem _ (List.mem_append_right _ h)) 39 (by decide) (List.mem_of_getElem? (i := 1) rfl) rfl (v := .ref (ad 139 0)) rfl dX7_behind_21 ?_
        refine lv_iload_n hx hb dX7_behind_24 rfl (lv_at hl 2 rfl) ?_
        obtain ⟨b4, h⟩ := h
        refine r_iald hx hb hE hW 139 0 ⟨rfl, by decide, by decide⟩ (n := 20) (f := ρ 39) rfl b4 (v := ρ 39 x3.toNatClampNeg) rfl dX7_behind_25 ?_
        refine lv_aload_n hx hb dX7_behind_26 rfl (lv_at hl 0 rfl) ?_
        refine r_get (C := RX7) (T := TX7) (N := 49) (ci := 10) (fs := fl_30 ad ν ρ 0 (σ 30 0)) hx hb hts hown hE hW 30 0 rfl rfl rfl (fun w h => List.mem_cons_of_mem _ (List.mem_append_right _ h)) 38 (by decide) (List.mem_of_getElem? (i := 2) rfl) rfl (v := .ref (ad 138 0)) rfl dX7_behind_27 ?_
        refine lv_iload_n hx hb dX7_behind_30 rfl (lv_at hl 2 rfl) ?_
        obtain ⟨b5, h⟩ := h
        refine r_iald hx hb hE hW 138 0 ⟨rfl, by decide, by decide⟩ (n := 20) (f := ρ 38) rfl b5 (v := ρ 38 x3.toNatClampNeg) rfl dX7_behind_31 ?_
        refine k_Si (rest := [.int (ρ 39 x3.toNatClampNeg), .ref (ad 30 0)]) (As := [.int (ρ 38 x3.toNatClampNeg)]) ⟨hx, hb, hml, hown, hts⟩ hE hz hS hW (mtX7_key l z G ad σ ν ρ lo (ρ 38 x3.toNatClampNeg) _ h) (va_cwS 1 hts gX7_behind_X7_key rfl rfl rfl (by decide +kernel) ⟨Nat.le_of_ble_eq_true rfl, Nat.le_of_ble_eq_true rfl⟩) rfl hl.1 rfl (Nat.le_of_ble_eq_true rfl) dX7_behind_32 ⟨Nat.le_of_ble_eq_true rfl, Nat.le_of_ble_eq_true rfl⟩ (fun r6 S1 H locs hp hW hS => ?_)
        obtain ⟨rfl, h⟩ := hp
        refine k_Vi (rest := []) (As := [.int (ρ 39 x3.toNatClampNeg), .int r6]) ⟨hx, hb, hml, hown, hts⟩ hE hz hS hW (mtX7_nextChild l z G ad σ ν ρ lo (ρ 39 x3.toNatClampNeg) r6 _ h) (cwV 2 hts gX7_behind_X7_nextChild rfl rfl rfl (by decide +kernel) ⟨Nat.le_of_ble_eq_true rfl, Nat.le_of_ble_eq_true rfl⟩) (r_recv hE hW 30 0 rfl (ci := 10) rfl rfl) rfl hl.1 rfl (Nat.le_of_ble_eq_true rfl) dX7_behind_35 ⟨Nat.le_of_ble_eq_true rfl, Nat.le_of_ble_eq_true rfl⟩ (fun r7 S1 H locs hp hW hS => ?_)
        obtain ⟨rfl, h⟩ := hp
        refine lv_istore_n (lv' := [(2, .int r7), (0, .ref (ad 30 0)), (3, .int x3)]) hx hb dX7_behind_38 rfl hl (by decide) rfl (fun ls hl => ?_)
        refine lv_aload_n hx hb dX7_behind_39 rfl (lv_at hl 1 rfl) ?_
        refine r_get (C := RX7) (T := TX7) (N := 49) (ci := 10) (fs := fl_30 ad ν ρ 0 (σ 30 0)) hx hb hts hown hE hW 30 0 rfl rfl rfl (fun w h => List.mem_cons_of_mem _ (List.mem_append_right _ h)) 39 (by decide) (List.mem_of_getElem? (i := 1) rfl) rfl (v := .ref (ad 139 0)) rfl dX7_behind_40 ?_
        refine lv_iload_n hx hb dX7_behind_43 rfl (lv_at hl 2 rfl) ?_
        obtain ⟨b8, h⟩ := h
        refine r_iald hx hb hE hW 139 0 ⟨rfl, by decide, by decide⟩ (n := 20) (f := ρ 39) rfl b8 (v := ρ 39 x3.toNatClampNeg) rfl dX7_behind_44 ?_
        refine lv_istore_n (lv' := [(3, .int (ρ 39 x3.toNatClampNeg)), (2, .int r7), (0, .ref (ad 30 0))]) hx hb dX7_behind_45 rfl hl (by decide) rfl (fun ls hl => ?_)
        refine lv_goto (tgt := 9) hx hb dX7_behind_46 (by decide) ?_
        exact ih r7 (ρ 39 x3.toNatClampNeg) hW hS (lv_sub hl [2, 1, 0] rfl) h
set_option maxHeartbeats 4000000 in
set_option maxRecDepth 100000 in
theorem mtX7_behind (l : Launch) (z : Nat) (G : Gl) (ad : Nat → Nat → Nat) (σ : SG) (ν : NU) (ρ : RH) (lo : Int64) (p1 : Int32) (post : Int32 → Prop) (h : wpX7_behind ρ p1 post) : Met l yX7_behind wsX7_behind ({ frames := 2, cells := 0, slots := 0, locals := 46 } : Room) (Pcs z G ad (σ, ν, ρ, lo) [.ref (ad 30 0), .int p1]) (Qis z G ad (fun r S1 => S1 = (σ, ν, ρ, lo) ∧ post r)) 0 0 (Az z) := by
  refine Met.ofW (cc := cX7_behind) (maxL := 4) (ret := (some .int)) (by decide) rfl ?_
  intro p e s m args below meth c s₁ B hml hv
  obtain ⟨rfl, hz, hW, hE⟩ := hv
  have hx := B.exec
  have hb := B.bytes
  have hr := B.returns
  have hts := atoms_spec (ws := wsX7_behind) B.pre
  have hown : s.vm.findClass RX7 = some m.cls := findClass_of_methodNamed B.named
  have hlocks := B.notSynchronized
  have X : Cx p l e s m _ below meth c cX7_behind (some .int) 4 RX7 wsX7_behind z G := ⟨hx, hb, hr, hml, hown, hts, hlocks, hE, hz⟩
  have hS : va_S (Az z) s.heap s.heap [] := va_S.rf
  have hl := lv_entry [.ref (ad 30 0), .int p1] (n := 4) (Nat.le_of_ble_eq_true rfl)
  rw [lg_entry_eq]
  generalize (lg_sl [.ref (ad 30 0), .int p1] ++ List.replicate (4 - (lg_sl [.ref (ad 30 0), .int p1]).length) Slot.unset).toArray = ls at hl ⊢
  have hl : lv_has ls 4 [(0, .ref (ad 30 0)), (1, .int p1)] := hl
  unfold wpX7_behind at h
  refine lv_aload_n hx hb dX7_behind_0 rfl (lv_at hl 0 rfl) ?_
  refine lv_iload_n hx hb dX7_behind_1 rfl (lv_at hl 1 rfl) ?_
  refine lv_iconst (v := (-1 : Int32)) hx hb dX7_behind_2 (by decide) ?_
  refine k_Vi (rest := []) (As := [.int p1, .int ((-1 : Int32))]) ⟨hx, hb, hml, hown, hts⟩ hE hz hS hW (mtX7_nextChild l z G ad σ ν ρ lo p1 ((-1 : Int32)) _ h) (cwV 2 hts gX7_behind_X7_nextChild rfl rfl rfl (by decide +kernel) ⟨Nat.le_of_ble_eq_true rfl, Nat.le_of_ble_eq_true rfl⟩) (r_recv hE hW 30 0 rfl (ci := 10) rfl rfl) rfl hl.1 rfl (Nat.le_of_ble_eq_true rfl) dX7_behind_3 ⟨Nat.le_of_ble_eq_true rfl, Nat.le_of_ble_eq_true rfl⟩ (fun r1 S1 H locs hp hW hS => ?_)
  obtain ⟨rfl, h⟩ := hp
  refine lv_istore_n (lv' := [(2, .int r1), (0, .ref (ad 30 0)), (1, .int p1)]) hx hb dX7_behind_6 rfl hl (by decide) rfl (fun ls hl => ?_)
  refine lv_iload_n hx hb dX7_behind_7 rfl (lv_at hl 2 rfl) ?_
  refine lv_istore_n (lv' := [(3, .int p1), (2, .int r1), (0, .ref (ad 30 0)), (1, .int p1)]) hx hb dX7_behind_8 rfl hl (by decide) rfl (fun ls hl => ?_)
  obtain ⟨n9, h⟩ := h
  exact tX7_behind_9 (σ := σ) (ρ := ρ) X p1 post  n9 r1 p1 hW hS (lv_sub hl [2, 1, 0] rfl) h
set_option maxHeartbeats 4000000 in
set_option maxRecDepth 100000 in
theorem tX7_provisionAt_30 {p : Program} {l : Launch} {e : Env} {s : State} {m : MethodId} {args : Array Value} {below : List Frame} {meth : Method} {c : Code} {z : Nat} {G : Gl} {ad : Nat → Nat → Nat} {σ : SG} {ν : NU} {ρ : RH} {lo : Int64} (X : Cx p l e s m args below meth c cX7_provisionAt (some .int) 4 RX7 wsX7_provisionAt z G) (p1 : Int32)  (post : Int32 → RH → Prop) : ∀ (n : Nat) (a3 : RH) (x2 : Int32) (x3 : Int32) {H : Heap} {locs : List Loc} {ls : Array Slot}, WP z G ad (σ, ν, a3, lo) H → va_S (Az z) s.heap H locs → lv_has ls 4 [(0, .ref (ad 30 0)), (1, .int p1), (2, .int x2), (3, .int x3)] → wX7_provisionAt_30 p1 post n a3 x2 x3 → W p l e ({ frames := 6, cells := 0, slots := 0, locals := 150 } : Room) s m args below meth c H locs 0 0 (MQ below (Qis z G ad (fun r S1 => ∃ t : RH, S1 = (σ, ν, t, lo) ∧ post r t)) args s 0 0 (Az z)) (F0 m 30 ls []) := by
  obtain ⟨hx, hb, hr, hml, hown, hts, hlocks, hE, hz⟩ := id X
  intro n
  induction n with
  | zero =>
    intro a3 x2 x3 H locs ls hW hS hl h
    exact absurd h id
  | succ n ih =>
    intro a3 x2 x3 H locs ls hW hS hl h
    unfold wX7_provisionAt_30 at h
    refine lv_iload_n hx hb dX7_provisionAt_30 rfl (lv_at hl 3 rfl) ?_
    refine lv_iload_n hx hb dX7_provisionAt_31 rfl (lv_at hl 1 rfl) ?_
    refine r_icmp_ge hx hb rfl rfl (tgt := 52) dX7_provisionAt_32 (by decide) (fun c7 => ?_) (fun c7 => ?_)
    · have h := ite_f c7 h
      refine lv_iload_n hx hb dX7_provisionAt_52 rfl (lv_at hl 2 rfl) ?_
      exact W.iret (v := x2) hx hb hr (fun t ht _ => ⟨⟨_, (σ, ν, a3, lo), rfl, ⟨_, rfl, h⟩, WP.at9 ht hW⟩, hS.F ht⟩) hS.2.2 dX7_provisionAt_53 (hlocks := hlocks)
    · have h := ite_t c7 h
      refine lv_iload_n hx hb dX7_provisionAt_35 rfl (lv_at hl 2 rfl) ?_
      refine lv_iconst (v := (-1 : Int32)) hx hb dX7_provisionAt_36 (by decide) ?_
      refine r_icmp_eq hx hb rfl (show (-1 : Int32).toInt = (-1) by decide) (tgt := 52) dX7_provisionAt_37 (by decide) (fun c8 => ?_) (fun c8 => ?_)
      · have h := ite_t c8 h
        refine lv_iload_n hx hb dX7_provisionAt_52 rfl (lv_at hl 2 rfl) ?_
        exact W.iret (v := x2) hx hb hr (fun t ht _ => ⟨⟨_, (σ, ν, a3, lo), rfl, ⟨_, rfl, h⟩, WP.at9 ht hW⟩, hS.F ht⟩) hS.2.2 dX7_provisionAt_53 (hlocks := hlocks)
      · have h := ite_f c8 h
        refine lv_aload_n hx hb dX7_provisionAt_40 rfl (lv_at hl 0 rfl) ?_
        refine lv_iload_n hx hb dX7_provisionAt_41 rfl (lv_at hl 2 rfl) ?_
        refine k_Vi (rest := []) (As := [.int x2]) ⟨hx, hb, hml, hown, hts⟩ hE hz hS hW (mtX7_behind l z G ad σ ν a3 lo x2 _ h) (cwV 1 hts gX7_provisionAt_X7_behind rfl rfl rfl (by decide +kernel) ⟨Nat.le_of_ble_eq_true rfl, Nat.le_of_ble_eq_true rfl⟩) (r_recv hE hW 30 0 rfl (ci := 10) rfl rfl) rfl hl.1 rfl (Nat.le_of_ble_eq_true rfl) dX7_provisionAt_42 ⟨Nat.le_of_ble_eq_true rfl, Nat.le_of_ble_eq_true rfl⟩ (fun r9 S1 H locs hp hW hS => ?_)
        obtain ⟨rfl, h⟩ := hp
        refine lv_istore_n (lv' := [(2, .int r9), (0, .ref (ad 30 0)), (1, .int p1), (3, .int x3)]) hx hb dX7_provisionAt_45 rfl hl (by decide) rfl (fun ls hl => ?_)
        refine lv_iinc (v := x3 + (1 : Int32)) (lv' := [(3, .int (x3 + (1 : Int32))), (2, .int r9), (0, .ref (ad 30 0)), (1, .int p1)]) hx hb dX7_provisionAt_46 hl (k := 3) rfl rfl (by decide) rfl (fun ls hl => ?_)
        refine lv_goto (tgt := 30) hx hb dX7_provisionAt_49 (by decide) ?_
        exact ih a3 r9 (x3 + (1 : Int32)) hW hS (lv_sub hl [2, 3, 1, 0] rfl) h
set_option maxHeartbeats 4000000 in
set_option maxRecDepth 100000 in
theorem tX7_provisionAt_10 {p : Program} {l : Launch} {e : Env} {s : State} {m : MethodId} {args : Array Value} {below : List Frame} {meth : Method} {c : Code} {z : Nat} {G : Gl} {ad : Nat → Nat → Nat} {σ : SG} {ν : NU} {ρ : RH} {lo : Int64} (X : Cx p l e s m args below meth c cX7_provisionAt (some .int) 4 RX7 wsX7_provisionAt z G) (p1 : Int32)  (post : Int32 → RH → Prop) : ∀ (a3 : RH) (y0 : Nat) (y1 : Int32) {H : Heap} {locs : List Loc} {ls : Array Slot}, WP z G ad (σ, ν, a3, lo) H → va_S (Az z) s.heap H locs → lv_has ls 4 [(0, .ref (ad 30 0)), (1, .int p1)] → jX7_provisionAt_10 p1 post a3 y0 y1 → W p l e ({ frames := 6, cells := 0, slots := 0, locals := 150 } : Room) s m args below meth c H locs 0 0 (MQ below (Qis z G ad (fun r S1 => ∃ t : RH, S1 = (σ, ν, t, lo) ∧ post r t)) args s 0 0 (Az z)) (F0 m 10 ls [.int y1, .ref (ad 30 0)]) := by
  obtain ⟨hx, hb, hr, hml, hown, hts, hlocks, hE, hz⟩ := id X
  intro a3 y0 y1 H locs ls hW hS hl h
  unfold jX7_provisionAt_10 at h
  refine k_Vi (rest := []) (As := [.int y1]) ⟨hx, hb, hml, hown, hts⟩ hE hz hS hW (mtX7_goes l z G ad σ ν a3 lo y1 _ h) (cwV 1 hts gX7_provisionAt_X7_goes rfl rfl rfl (by decide +kernel) ⟨Nat.le_of_ble_eq_true rfl, Nat.le_of_ble_eq_true rfl⟩) (r_recv hE hW 30 0 rfl (ci := 10) rfl rfl) rfl hl.1 rfl (Nat.le_of_ble_eq_true rfl) dX7_provisionAt_10 ⟨Nat.le_of_ble_eq_true rfl, Nat.le_of_ble_eq_true rfl⟩ (fun r2 S1 H locs hp hW hS => ?_)
  obtain ⟨t3, rfl, h⟩ := hp
  refine r_if_ne hx hb rfl (tgt := 18) dX7_provisionAt_13 (by decide) (fun c4 => ?_) (fun c4 => ?_)
  · have h := ite_f c4 h
    refine lv_aload_n hx hb dX7_provisionAt_18 rfl (lv_at hl 0 rfl) ?_
    refine k_Vv (rest := []) (As := []) ⟨hx, hb, hml, hown, hts⟩ hE hz hS hW (mtX7_laysView l z G ad σ ν t3 lo  _ h) (cwV 0 hts gX7_provisionAt_X7_laysView rfl rfl rfl (by decide +kernel) ⟨Nat.le_of_ble_eq_true rfl, Nat.le_of_ble_eq_true rfl⟩) (r_recv hE hW 30 0 rfl (ci := 10) rfl rfl) rfl hl.1 rfl (Nat.le_of_ble_eq_true rfl) dX7_provisionAt_19 ⟨Nat.le_of_ble_eq_true rfl, Nat.le_of_ble_eq_true rfl⟩ (fun S1 H locs hp hW hS => ?_)
    obtain ⟨t5, rfl, h⟩ := hp
    refine lv_aload_n hx hb dX7_provisionAt_22 rfl (lv_at hl 0 rfl) ?_
    refine lv_iconst (v := (-1 : Int32)) hx hb dX7_provisionAt_23 (by decide) ?_
    refine k_Vi (rest := []) (As := [.int ((-1 : Int32))]) ⟨hx, hb, hml, hown, hts⟩ hE hz hS hW (mtX7_behind l z G ad σ ν t5 lo ((-1 : Int32)) _ h) (cwV 1 hts gX7_provisionAt_X7_behind rfl rfl rfl (by decide +kernel) ⟨Nat.le_of_ble_eq_true rfl, Nat.le_of_ble_eq_true rfl⟩) (r_recv hE hW 30 0 rfl (ci := 10) rfl rfl) rfl hl.1 rfl (Nat.le_of_ble_eq_true rfl) dX7_provisionAt_24 ⟨Nat.le_of_ble_eq_true rfl, Nat.le_of_ble_eq_true rfl⟩ (fun r6 S1 H locs hp hW hS => ?_)
    obtain ⟨rfl, h⟩ := hp
    refine lv_istore_n (lv' := [(2, .int r6), (0, .ref (ad 30 0)), (1, .int p1)]) hx hb dX7_provisionAt_27 rfl hl (by decide) rfl (fun ls hl => ?_)
    refine lv_iconst (v := (0 : Int32)) hx hb dX7_provisionAt_28 (by decide) ?_
    refine lv_istore_n (lv' := [(3, .int ((0 : Int32))), (2, .int r6), (0, .ref (ad 30 0)), (1, .int p1)]) hx hb dX7_provisionAt_29 rfl hl (by decide) rfl (fun ls hl => ?_)
    obtain ⟨n10, h⟩ := h
    exact tX7_provisionAt_30 (σ := σ) (ρ := ρ) X p1 post  n10 t5 r6 ((0 : Int32)) hW hS (lv_sub hl [2, 3, 1, 0] rfl) h
  · have h := ite_t c4 h
    refine lv_iconst (v := (0 : Int32)) hx hb dX7_provisionAt_16 (by decide) ?_
    exact W.iret (v := (0 : Int32)) hx hb hr (fun t ht _ => ⟨⟨_, (σ, ν, t3, lo), rfl, ⟨_, rfl, h⟩, WP.at9 ht hW⟩, hS.F ht⟩) hS.2.2 dX7_provisionAt_17 (hlocks := hlocks)
set_option maxHeartbeats 4000000 in
set_option maxRecDepth 100000 in
theorem mtX7_provisionAt (l : Launch) (z : Nat) (G : Gl) (ad : Nat → Nat → Nat) (σ : SG) (ν : NU) (ρ : RH) (lo : Int64) (p1 : Int32) (post : Int32 → RH → Prop) (h : wpX7_provisionAt ρ p1 post) : Met l yX7_provisionAt wsX7_provisionAt ({ frames := 6, cells := 0, slots := 0, locals := 150 } : Room) (Pcs z G ad (σ, ν, ρ, lo) [.ref (ad 30 0), .int p1]) (Qis z G ad (fun r S1 => ∃ t : RH, S1 = (σ, ν, t, lo) ∧ post r t)) 0 0 (Az z) := by
  refine Met.ofW (cc := cX7_provisionAt) (maxL := 4) (ret := (some .int)) (by decide) rfl ?_
  intro p e s m args below meth c s₁ B hml hv
  obtain ⟨rfl, hz, hW, hE⟩ := hv
  have hx := B.exec
  have hb := B.bytes
  have hr := B.returns
  have hts := atoms_spec (ws := wsX7_provisionAt) B.pre
  have hown : s.vm.findClass RX7 = some m.cls := findClass_of_methodNamed B.named
  have hlocks := B.notSynchronized
  have X : Cx p l e s m _ below meth c cX7_provisionAt (some .int) 4 RX7 wsX7_provisionAt z G := ⟨hx, hb, hr, hml, hown, hts, hlocks, hE, hz⟩
  have hS : va_S (Az z) s.heap s.heap [] := va_S.rf
  have hl := lv_entry [.ref (ad 30 0), .int p1] (n := 4) (Nat.le_of_ble_eq_true rfl)
  rw [lg_entry_eq]
  generalize (lg_sl [.ref (ad 30 0), .int p1] ++ List.replicate (4 - (lg_sl [.ref (ad 30 0), .int p1]).length) Slot.unset).toArray = ls at hl ⊢
  have hl : lv_has ls 4 [(0, .ref (ad 30 0)), (1, .int p1)] := hl
  unfold wpX7_provisionAt at h
  refine lv_aload_n hx hb dX7_provisionAt_0 rfl (lv_at hl 0 rfl) ?_
  refine lv_iload_n hx hb dX7_provisionAt_1 rfl (lv_at hl 1 rfl) ?_
  refine r_if_ge hx hb rfl (tgt := 9) dX7_provisionAt_2 (by decide) (fun c1 => ?_) (fun c1 => ?_)
  · have h := ite_f c1 h
    refine lv_iconst (v := (0 : Int32)) hx hb dX7_provisionAt_9 (by decide) ?_
    exact tX7_provisionAt_10 (σ := σ) (ρ := ρ) X p1 post  ρ 0 ((0 : Int32)) hW hS (lv_sub hl [0, 1] rfl) h
  · have h := ite_t c1 h
    refine lv_iconst (v := (1 : Int32)) hx hb dX7_provisionAt_5 (by decide) ?_
    refine lv_goto (tgt := 10) hx hb dX7_provisionAt_6 (by decide) ?_
    exact tX7_provisionAt_10 (σ := σ) (ρ := ρ) X p1 post  ρ 0 ((1 : Int32)) hW hS (lv_sub hl [0, 1] rfl) h
set_option maxHeartbeats 4000000 in
set_option maxRecDepth 100000 in
theorem mtX7_asks (l : Launch) (z : Nat) (G : Gl) (ad : Nat → Nat → Nat) (σ : SG) (ν : NU) (ρ : RH) (lo : Int64) (p1 : Int32) (post : Int32 → RH → Prop) (h : wpX7_asks ρ p1 post) : Met l yX7_asks wsX7_asks ({ frames := 6, cells := 0, slots := 0, locals := 150 } : Room) (Pcs z G ad (σ, ν, ρ, lo) [.ref (ad 30 0), .int p1]) (Qis z G ad (fun r S1 => ∃ t : RH, S1 = (σ, ν, t, lo) ∧ post r t)) 0 0 (Az z) := by
  refine Met.ofW (cc := cX7_asks) (maxL := 2) (ret := (some .boolean)) (by decide) rfl ?_
  intro p e s m args below meth c s₁ B hml hv
  obtain ⟨rfl, hz, hW, hE⟩ := hv
  have hx := B.exec
  have hb := B.bytes
  have hr := B.returns
  have hts := atoms_spec (ws := wsX7_asks) B.pre
  have hown : s.vm.findClass RX7 = some m.cls := findClass_of_methodNamed B.named
  have hlocks := B.notSynchronized
  have X : Cx p l e s m _ below meth c cX7_asks (some .boolean) 2 RX7 wsX7_asks z G := ⟨hx, hb, hr, hml, hown, hts, hlocks, hE, hz⟩
  have hS : va_S (Az z) s.heap s.heap [] := va_S.rf
  have hl := lv_entry [.ref (ad 30 0), .int p1] (n := 2) (Nat.le_of_ble_eq_true rfl)
  rw [lg_entry_eq]
  generalize (lg_sl [.ref (ad 30 0), .int p1] ++ List.replicate (2 - (lg_sl [.ref (ad 30 0), .int p1]).length) Slot.unset).toArray = ls at hl ⊢
  have hl : lv_has ls 2 [(0, .ref (ad 30 0)), (1, .int p1)] := hl
  unfold wpX7_asks at h
  refine lv_aload_n hx hb dX7_asks_0 rfl (lv_at hl 0 rfl) ?_
  refine k_Vv (rest := []) (As := []) ⟨hx, hb, hml, hown, hts⟩ hE hz hS hW (mtX7_laysView l z G ad σ ν ρ lo  _ h) (cwV 0 hts gX7_asks_X7_laysView rfl rfl rfl (by decide +kernel) ⟨Nat.le_of_ble_eq_true rfl, Nat.le_of_ble_eq_true rfl⟩) (r_recv hE hW 30 0 rfl (ci := 10) rfl rfl) rfl hl.1 rfl (Nat.le_of_ble_eq_true rfl) dX7_asks_1 ⟨Nat.le_of_ble_eq_true rfl, Nat.le_of_ble_eq_true rfl⟩ (fun S1 H locs hp hW hS => ?_)
  obtain ⟨t1, rfl, h⟩ := hp
  refine lv_aload_n hx hb dX7_asks_4 rfl (lv_at hl 0 rfl) ?_
  refine lv_aload_n hx hb dX7_asks_5 rfl (lv_at hl 0 rfl) ?_
  refine lv_iload_n hx hb dX7_asks_6 rfl (lv_at hl 1 rfl) ?_
  refine k_Vi (rest := [.ref (ad 30 0)]) (As := [.int p1]) ⟨hx, hb, hml, hown, hts⟩ hE hz hS hW (mtX7_isProvision l z G ad σ ν t1 lo p1 _ h) (cwV 1 hts gX7_asks_X7_isProvision rfl rfl rfl (by decide +kernel) ⟨Nat.le_of_ble_eq_true rfl, Nat.le_of_ble_eq_true rfl⟩) (r_recv hE hW 30 0 rfl (ci := 10) rfl rfl) rfl hl.1 rfl (Nat.le_of_ble_eq_true rfl) dX7_asks_7 ⟨Nat.le_of_ble_eq_true rfl, Nat.le_of_ble_eq_true rfl⟩ (fun r2 S1 H locs hp hW hS => ?_)
  obtain ⟨rfl, h⟩ := hp
  refine r_if_eq hx hb rfl (tgt := 17) dX7_asks_10 (by decide) (fun c3 => ?_) (fun c3 => ?_)
  · have h := ite_t c3 h
    refine lv_iconst (v := (1 : Int32)) hx hb dX7_asks_17 (by decide) ?_
    refine k_Vi (rest := []) (As := [.int ((1 : Int32))]) ⟨hx, hb, hml, hown, hts⟩ hE hz hS hW (mtX7_goes l z G ad σ ν t1 lo ((1 : Int32)) _ h) (cwV 1 hts gX7_asks_X7_goes rfl rfl rfl (by decide +kernel) ⟨Nat.le_of_ble_eq_true rfl, Nat.le_of_ble_eq_true rfl⟩) (r_recv hE hW 30 0 rfl (ci := 10) rfl rfl) rfl hl.1 rfl (Nat.le_of_ble_eq_true rfl) dX7_asks_18 ⟨Nat.le_of_ble_eq_true rfl, Nat.le_of_ble_eq_true rfl⟩ (fun r4 S1 H locs hp hW hS => ?_)
    obtain ⟨t5, rfl, h⟩ := hp
    obtain ⟨g6, h⟩ := h
    exact W.zret (v := r4) (ty := .boolean) hx hb hr (narrow_bo g6) (fun t ht _ => ⟨⟨_, (σ, ν, t5, lo), rfl, ⟨_, rfl, h⟩, WP.at9 ht hW⟩, hS.F ht⟩) hS.2.2 dX7_asks_21 (hlocks := hlocks)
  · have h := ite_f c3 h
    refine lv_iconst (v := (0 : Int32)) hx hb dX7_asks_13 (by decide) ?_
    refine lv_goto (tgt := 18) hx hb dX7_asks_14 (by decide) ?_
    refine k_Vi (rest := []) (As := [.int ((0 : Int32))]) ⟨hx, hb, hml, hown, hts⟩ hE hz hS hW (mtX7_goes l z G ad σ ν t1 lo ((0 : Int32)) _ h) (cwV 1 hts gX7_asks_X7_goes rfl rfl rfl (by decide +kernel) ⟨Nat.le_of_ble_eq_true rfl, Nat.le_of_ble_eq_true rfl⟩) (r_recv hE hW 30 0 rfl (ci := 10) rfl rfl) rfl hl.1 rfl (Nat.le_of_ble_eq_true rfl) dX7_asks_18 ⟨Nat.le_of_ble_eq_true rfl, Nat.le_of_ble_eq_true rfl⟩ (fun r7 S1 H locs hp hW hS => ?_)
    obtain ⟨t8, rfl, h⟩ := hp
    obtain ⟨g9, h⟩ := h
    exact W.zret (v := r7) (ty := .boolean) hx hb hr (narrow_bo g9) (fun t ht _ => ⟨⟨_, (σ, ν, t8, lo), rfl, ⟨_, rfl, h⟩, WP.at9 ht hW⟩, hS.F ht⟩) hS.2.2 dX7_asks_21 (hlocks := hlocks)
set_option maxHeartbeats 4000000 in
set_option maxRecDepth 100000 in
theorem mtX7_label (l : Launch) (z : Nat) (G : Gl) (ad : Nat → Nat → Nat) (σ : SG) (ν : NU) (ρ : RH) (lo : Int64) (p1 : Int32) (post : Int32 → RH → Prop) (h : wpX7_label ρ p1 post) : Met l yX7_label wsX7_label ({ frames := 7, cells := 0, slots := 0, locals := 171 } : Room) (Pcs z G ad (σ, ν, ρ, lo) [.ref (ad 30 0), .int p1]) (Qis z G ad (fun r S1 => ∃ t : RH, S1 = (σ, ν, t, lo) ∧ post r t)) 0 0 (Az z) := by
  refine Met.ofW (cc := cX7_label) (maxL := 2) (ret := (some .int)) (by decide) rfl ?_
  intro p e s m args below meth c s₁ B hml hv
  obtain ⟨rfl, hz, hW, hE⟩ := hv
  have hx := B.exec
  have hb := B.bytes
  have hr := B.returns
  have hts := atoms_spec (ws := wsX7_label) B.pre
  have hown : s.vm.findClass RX7 = some m.cls := findClass_of_methodNamed B.named
  have hlocks := B.notSynchronized
  have X : Cx p l e s m _ below meth c cX7_label (some .int) 2 RX7 wsX7_label z G := ⟨hx, hb, hr, hml, hown, hts, hlocks, hE, hz⟩
  have hS : va_S (Az z) s.heap s.heap [] := va_S.rf
  have hl := lv_entry [.ref (ad 30 0), .int p1] (n := 2) (Nat.le_of_ble_eq_true rfl)
  rw [lg_entry_eq]
  generalize (lg_sl [.ref (ad 30 0), .int p1] ++ List.replicate (2 - (lg_sl [.ref (ad 30 0), .int p1]).length) Slot.unset).toArray = ls at hl ⊢
  have hl : lv_has ls 2 [(0, .ref (ad 30 0)), (1, .int p1)] := hl
  unfold wpX7_label at h
  refine lv_aload_n hx hb dX7_label_0 rfl (lv_at hl 0 rfl) ?_
  refine lv_iload_n hx hb dX7_label_1 rfl (lv_at hl 1 rfl) ?_
  refine k_Vi (rest := []) (As := [.int p1]) ⟨hx, hb, hml, hown, hts⟩ hE hz hS hW (mtX7_asks l z G ad σ ν ρ lo p1 _ h) (cwV 1 hts gX7_label_X7_asks rfl rfl rfl (by decide +kernel) ⟨Nat.le_of_ble_eq_true rfl, Nat.le_of_ble_eq_true rfl⟩) (r_recv hE hW 30 0 rfl (ci := 10) rfl rfl) rfl hl.1 rfl (Nat.le_of_ble_eq_true rfl) dX7_label_2 ⟨Nat.le_of_ble_eq_true rfl, Nat.le_of_ble_eq_true rfl⟩ (fun r1 S1 H locs hp hW hS => ?_)
  obtain ⟨t2, rfl, h⟩ := hp
  refine r_if_ne hx hb rfl (tgt := 12) dX7_label_5 (by decide) (fun c3 => ?_) (fun c3 => ?_)
  · have h := ite_f c3 h
    refine lv_aload_n hx hb dX7_label_12 rfl (lv_at hl 0 rfl) ?_
    refine r_get (C := RX7) (T := TX7) (N := 49) (ci := 10) (fs := fl_30 ad ν t2 0 (σ 30 0)) hx hb hts hown hE hW 30 0 rfl rfl rfl (fun w h => List.mem_cons_of_mem _ (List.mem_append_right _ h)) 37 (by decide) (List.mem_of_getElem? (i := 1) rfl) rfl (v := .ref (ad 137 0)) rfl dX7_label_13 ?_
    refine lv_iload_n hx hb dX7_label_16 rfl (lv_at hl 1 rfl) ?_
    obtain ⟨b4, h⟩ := h
    refine r_zald hx hb hE hW 137 0 ⟨rfl, by decide, by decide⟩ (n := 20) (f := t2 37) rfl b4 (v := t2 37 p1.toNatClampNeg) rfl dX7_label_17 ?_
    refine r_if_eq hx hb rfl (tgt := 30) dX7_label_18 (by decide) (fun c5 => ?_) (fun c5 => ?_)
    · have h := ite_t c5 h
      refine lv_iconst (v := (-1 : Int32)) hx hb dX7_label_30 (by decide) ?_
      exact W.iret (v := (-1 : Int32)) hx hb hr (fun t ht _ => ⟨⟨_, (σ, ν, t2, lo), rfl, ⟨_, rfl, h⟩, WP.at9 ht hW⟩, hS.F ht⟩) hS.2.2 dX7_label_31 (hlocks := hlocks)
    · have h := ite_f c5 h
      refine lv_aload_n hx hb dX7_label_21 rfl (lv_at hl 0 rfl) ?_
      refine r_get (C := RX7) (T := TX7) (N := 49) (ci := 10) (fs := fl_30 ad ν t2 0 (σ 30 0)) hx hb hts hown hE hW 30 0 rfl rfl rfl (fun w h => List.mem_cons_of_mem _ (List.mem_append_right _ h)) 38 (by decide) (List.mem_of_getElem? (i := 2) rfl) rfl (v := .ref (ad 138 0)) rfl dX7_label_22 ?_
      refine lv_iload_n hx hb dX7_label_25 rfl (lv_at hl 1 rfl) ?_
      obtain ⟨b6, h⟩ := h
      refine r_iald hx hb hE hW 138 0 ⟨rfl, by decide, by decide⟩ (n := 20) (f := t2 38) rfl b6 (v := t2 38 p1.toNatClampNeg) rfl dX7_label_26 ?_
      refine lv_goto (tgt := 31) hx hb dX7_label_27 (by decide) ?_
      exact W.iret (v := t2 38 p1.toNatClampNeg) hx hb hr (fun t ht _ => ⟨⟨_, (σ, ν, t2, lo), rfl, ⟨_, rfl, h⟩, WP.at9 ht hW⟩, hS.F ht⟩) hS.2.2 dX7_label_31 (hlocks := hlocks)
  · have h := ite_t c3 h
    refine lv_iconst (v := (0 : Int32)) hx hb dX7_label_8 (by decide) ?_
    refine lv_goto (tgt := 31) hx hb dX7_label_9 (by decide) ?_
    exact W.iret (v := (0 : Int32)) hx hb hr (fun t ht _ => ⟨⟨_, (σ, ν, t2, lo), rfl, ⟨_, rfl, h⟩, WP.at9 ht hW⟩, hS.F ht⟩) hS.2.2 dX7_label_31 (hlocks := hlocks)
set_option maxHeartbeats 4000000 in
set_option maxRecDepth 100000 in
theorem mtX7_parent (l : Launch) (z : Nat) (G : Gl) (ad : Nat → Nat → Nat) (σ : SG) (ν : NU) (ρ : RH) (lo : Int64) (p1 : Int32) (post : Int32 → RH → Prop) (h : wpX7_parent ρ p1 post) : Met l yX7_parent wsX7_parent ({ frames := 7, cells := 0, slots := 0, locals := 171 } : Room) (Pcs z G ad (σ, ν, ρ, lo) [.ref (ad 30 0), .int p1]) (Qis z G ad (fun r S1 => ∃ t : RH, S1 = (σ, ν, t, lo) ∧ post r t)) 0 0 (Az z) := by
  refine Met.ofW (cc := cX7_parent) (maxL := 2) (ret := (some .int)) (by decide) rfl ?_
  intro p e s m args below meth c s₁ B hml hv
  obtain ⟨rfl, hz, hW, hE⟩ := hv
  have hx := B.exec
  have hb := B.bytes
  have hr := B.returns
  have hts := atoms_spec (ws := wsX7_parent) B.pre
  have hown : s.vm.findClass RX7 = some m.cls := findClass_of_methodNamed B.named
  have hlocks := B.notSynchronized
  have X : Cx p l e s m _ below meth c cX7_parent (some .int) 2 RX7 wsX7_parent z G := ⟨hx, hb, hr, hml, hown, hts, hlocks, hE, hz⟩
  have hS : va_S (Az z) s.heap s.heap [] := va_S.rf
  have hl := lv_entry [.ref (ad 30 0), .int p1] (n := 2) (Nat.le_of_ble_eq_true rfl)
  rw [lg_entry_eq]
  generalize (lg_sl [.ref (ad 30 0), .int p1] ++ List.replicate (2 - (lg_sl [.ref (ad 30 0), .int p1]).length) Slot.unset).toArray = ls at hl ⊢
  have hl : lv_has ls 2 [(0, .ref (ad 30 0)), (1, .int p1)] := hl
  unfold wpX7_parent at h
  refine lv_aload_n hx hb dX7_parent_0 rfl (lv_at hl 0 rfl) ?_
  refine lv_iload_n hx hb dX7_parent_1 rfl (lv_at hl 1 rfl) ?_
  refine k_Vi (rest := []) (As := [.int p1]) ⟨hx, hb, hml, hown, hts⟩ hE hz hS hW (mtX7_asks l z G ad σ ν ρ lo p1 _ h) (cwV 1 hts gX7_parent_X7_asks rfl rfl rfl (by decide +kernel) ⟨Nat.le_of_ble_eq_true rfl, Nat.le_of_ble_eq_true rfl⟩) (r_recv hE hW 30 0 rfl (ci := 10) rfl rfl) rfl hl.1 rfl (Nat.le_of_ble_eq_true rfl) dX7_parent_2 ⟨Nat.le_of_ble_eq_true rfl, Nat.le_of_ble_eq_true rfl⟩ (fun r1 S1 H locs hp hW hS => ?_)
  obtain ⟨t2, rfl, h⟩ := hp
  refine r_if_ne hx hb rfl (tgt := 12) dX7_parent_5 (by decide) (fun c3 => ?_) (fun c3 => ?_)
  · have h := ite_f c3 h
    refine lv_aload_n hx hb dX7_parent_12 rfl (lv_at hl 0 rfl) ?_
    refine r_get (C := RX7) (T := TX7) (N := 49) (ci := 10) (fs := fl_30 ad ν t2 0 (σ 30 0)) hx hb hts hown hE hW 30 0 rfl rfl rfl (fun w h => List.mem_cons_of_mem _ (List.mem_append_right _ h)) 37 (by decide) (List.mem_of_getElem? (i := 1) rfl) rfl (v := .ref (ad 137 0)) rfl dX7_parent_13 ?_
    refine lv_iload_n hx hb dX7_parent_16 rfl (lv_at hl 1 rfl) ?_
    obtain ⟨b4, h⟩ := h
    refine r_zald hx hb hE hW 137 0 ⟨rfl, by decide, by decide⟩ (n := 20) (f := t2 37) rfl b4 (v := t2 37 p1.toNatClampNeg) rfl dX7_parent_17 ?_
    refine r_if_eq hx hb rfl (tgt := 30) dX7_parent_18 (by decide) (fun c5 => ?_) (fun c5 => ?_)
    · have h := ite_t c5 h
      refine lv_iconst (v := (-1 : Int32)) hx hb dX7_parent_30 (by decide) ?_
      exact W.iret (v := (-1 : Int32)) hx hb hr (fun t ht _ => ⟨⟨_, (σ, ν, t2, lo), rfl, ⟨_, rfl, h⟩, WP.at9 ht hW⟩, hS.F ht⟩) hS.2.2 dX7_parent_31 (hlocks := hlocks)
    · have h := ite_f c5 h
      refine lv_aload_n hx hb dX7_parent_21 rfl (lv_at hl 0 rfl) ?_
      refine r_get (C := RX7) (T := TX7) (N := 49) (ci := 10) (fs := fl_30 ad ν t2 0 (σ 30 0)) hx hb hts hown hE hW 30 0 rfl rfl rfl (fun w h => List.mem_cons_of_mem _ (List.mem_append_right _ h)) 39 (by decide) (List.mem_of_getElem? (i := 2) rfl) rfl (v := .ref (ad 139 0)) rfl dX7_parent_22 ?_
      refine lv_iload_n hx hb dX7_parent_25 rfl (lv_at hl 1 rfl) ?_
      obtain ⟨b6, h⟩ := h
      refine r_iald hx hb hE hW 139 0 ⟨rfl, by decide, by decide⟩ (n := 20) (f := t2 39) rfl b6 (v := t2 39 p1.toNatClampNeg) rfl dX7_parent_26 ?_
      refine lv_goto (tgt := 31) hx hb dX7_parent_27 (by decide) ?_
      exact W.iret (v := t2 39 p1.toNatClampNeg) hx hb hr (fun t ht _ => ⟨⟨_, (σ, ν, t2, lo), rfl, ⟨_, rfl, h⟩, WP.at9 ht hW⟩, hS.F ht⟩) hS.2.2 dX7_parent_31 (hlocks := hlocks)
  · have h := ite_t c3 h
    refine lv_iconst (v := (0 : Int32)) hx hb dX7_parent_8 (by decide) ?_
    refine lv_goto (tgt := 31) hx hb dX7_parent_9 (by decide) ?_
    exact W.iret (v := (0 : Int32)) hx hb hr (fun t ht _ => ⟨⟨_, (σ, ν, t2, lo), rfl, ⟨_, rfl, h⟩, WP.at9 ht hW⟩, hS.F ht⟩) hS.2.2 dX7_parent_31 (hlocks := hlocks)
set_option maxHeartbeats 4000000 in
set_option maxRecDepth 100000 in
theorem mtX7_words (l : Launch) (z : Nat) (G : Gl) (ad : Nat → Nat → Nat) (σ : SG) (ν : NU) (ρ : RH) (lo : Int64) (p1 : Int32) (post : Int32 → RH → Prop) (h : wpX7_words ρ p1 post) : Met l yX7_words wsX7_words ({ frames := 7, cells := 0, slots := 0, locals := 171 } : Room) (Pcs z G ad (σ, ν, ρ, lo) [.ref (ad 30 0), .int p1]) (Qis z G ad (fun r S1 => ∃ t : RH, S1 = (σ, ν, t, lo) ∧ post r t)) 0 0 (Az z) := by
  refine Met.ofW (cc := cX7_words) (maxL := 2) (ret := (some .int)) (by decide) rfl ?_
  intro p e s m args below meth c s₁ B hml hv
  obtain ⟨rfl, hz, hW, hE⟩ := hv
  have hx := B.exec
  have hb := B.bytes
  have hr := B.returns
  have hts := atoms_spec (ws := wsX7_words) B.pre
  have hown : s.vm.findClass RX7 = some m.cls := findClass_of_methodNamed B.named
  have hlocks := B.notSynchronized
  have X : Cx p l e s m _ below meth c cX7_words (some .int) 2 RX7 wsX7_words z G := ⟨hx, hb, hr, hml, hown, hts, hlocks, hE, hz⟩
  have hS : va_S (Az z) s.heap s.heap [] := va_S.rf
  have hl := lv_entry [.ref (ad 30 0), .int p1] (n := 2) (Nat.le_of_ble_eq_true rfl)
  rw [lg_entry_eq]
  generalize (lg_sl [.ref (ad 30 0), .int p1] ++ List.replicate (2 - (lg_sl [.ref (ad 30 0), .int p1]).length) Slot.unset).toArray = ls at hl ⊢
  have hl : lv_has ls 2 [(0, .ref (ad 30 0)), (1, .int p1)] := hl
  unfold wpX7_words at h
  refine lv_aload_n hx hb dX7_words_0 rfl (lv_at hl 0 rfl) ?_
  refine lv_iload_n hx hb dX7_words_1 rfl (lv_at hl 1 rfl) ?_
  refine k_Vi (rest := []) (As := [.int p1]) ⟨hx, hb, hml, hown, hts⟩ hE hz hS hW (mtX7_asks l z G ad σ ν ρ lo p1 _ h) (cwV 1 hts gX7_words_X7_asks rfl rfl rfl (by decide +kernel) ⟨Nat.le_of_ble_eq_true rfl, Nat.le_of_ble_eq_true rfl⟩) (r_recv hE hW 30 0 rfl (ci := 10) rfl rfl) rfl hl.1 rfl (Nat.le_of_ble_eq_true rfl) dX7_words_2 ⟨Nat.le_of_ble_eq_true rfl, Nat.le_of_ble_eq_true rfl⟩ (fun r1 S1 H locs hp hW hS => ?_)
  obtain ⟨t2, rfl, h⟩ := hp
  refine r_if_ne hx hb rfl (tgt := 12) dX7_words_5 (by decide) (fun c3 => ?_) (fun c3 => ?_)
  · have h := ite_f c3 h
    refine lv_aload_n hx hb dX7_words_12 rfl (lv_at hl 0 rfl) ?_
    refine r_get (C := RX7) (T := TX7) (N := 49) (ci := 10) (fs := fl_30 ad ν t2 0 (σ 30 0)) hx hb hts hown hE hW 30 0 rfl rfl rfl (fun w h => List.mem_cons_of_mem _ (List.mem_append_right _ h)) 37 (by decide) (List.mem_of_getElem? (i := 1) rfl) rfl (v := .ref (ad 137 0)) rfl dX7_words_13 ?_
    refine lv_iload_n hx hb dX7_words_16 rfl (lv_at hl 1 rfl) ?_
    obtain ⟨b4, h⟩ := h
    refine r_zald hx hb hE hW 137 0 ⟨rfl, by decide, by decide⟩ (n := 20) (f := t2 37) rfl b4 (v := t2 37 p1.toNatClampNeg) rfl dX7_words_17 ?_
    refine r_if_eq hx hb rfl (tgt := 30) dX7_words_18 (by decide) (fun c5 => ?_) (fun c5 => ?_)
    · have h := ite_t c5 h
      refine lv_iconst (v := (-1 : Int32)) hx hb dX7_words_30 (by decide) ?_
      exact W.iret (v := (-1 : Int32)) hx hb hr (fun t ht _ => ⟨⟨_, (σ, ν, t2, lo), rfl, ⟨_, rfl, h⟩, WP.at9 ht hW⟩, hS.F ht⟩) hS.2.2 dX7_words_31 (hlocks := hlocks)
    · have h := ite_f c5 h
      refine lv_aload_n hx hb dX7_words_21 rfl (lv_at hl 0 rfl) ?_
      refine r_get (C := RX7) (T := TX7) (N := 49) (ci := 10) (fs := fl_30 ad ν t2 0 (σ 30 0)) hx hb hts hown hE hW 30 0 rfl rfl rfl (fun w h => List.mem_cons_of_mem _ (List.mem_append_right _ h)) 40 (by decide) (List.mem_of_getElem? (i := 2) rfl) rfl (v := .ref (ad 140 0)) rfl dX7_words_22 ?_
      refine lv_iload_n hx hb dX7_words_25 rfl (lv_at hl 1 rfl) ?_
      obtain ⟨b6, h⟩ := h
      refine r_iald hx hb hE hW 140 0 ⟨rfl, by decide, by decide⟩ (n := 20) (f := t2 40) rfl b6 (v := t2 40 p1.toNatClampNeg) rfl dX7_words_26 ?_
      refine lv_goto (tgt := 31) hx hb dX7_words_27 (by decide) ?_
      exact W.iret (v := t2 40 p1.toNatClampNeg) hx hb hr (fun t ht _ => ⟨⟨_, (σ, ν, t2, lo), rfl, ⟨_, rfl, h⟩, WP.at9 ht hW⟩, hS.F ht⟩) hS.2.2 dX7_words_31 (hlocks := hlocks)
  · have h := ite_t c3 h
    refine lv_iconst (v := (0 : Int32)) hx hb dX7_words_8 (by decide) ?_
    refine lv_goto (tgt := 31) hx hb dX7_words_9 (by decide) ?_
    exact W.iret (v := (0 : Int32)) hx hb hr (fun t ht _ => ⟨⟨_, (σ, ν, t2, lo), rfl, ⟨_, rfl, h⟩, WP.at9 ht hW⟩, hS.F ht⟩) hS.2.2 dX7_words_31 (hlocks := hlocks)
set_option maxHeartbeats 4000000 in
set_option maxRecDepth 100000 in
theorem mtX7_hasPlace (l : Launch) (z : Nat) (G : Gl) (ad : Nat → Nat → Nat) (σ : SG) (ν : NU) (ρ : RH) (lo : Int64) (p1 : Int32) (p2 : Int32) (post : Int32 → Prop) (h : wpX7_hasPlace ρ p1 p2 post) : Met l yX7_hasPlace wsX7_hasPlace ({ frames := 1, cells := 0, slots := 0, locals := 22 } : Room) (Pcs z G ad (σ, ν, ρ, lo) [.ref (ad 30 0), .int p1, .int p2]) (Qis z G ad (fun r S1 => S1 = (σ, ν, ρ, lo) ∧ post r)) 0 0 (Az z) := by
  refine Met.ofW (cc := cX7_hasPlace) (maxL := 3) (ret := (some .boolean)) (by decide) rfl ?_
  intro p e s m args below meth c s₁ B hml hv
  obtain ⟨rfl, hz, hW, hE⟩ := hv
  have hx := B.exec
  have hb := B.bytes
  have hr := B.returns
  have hts := atoms_spec (ws := wsX7_hasPlace) B.pre
  have hown : s.vm.findClass RX7 = some m.cls := findClass_of_methodNamed B.named
  have hlocks := B.notSynchronized
  have X : Cx p l e s m _ below meth c cX7_hasPlace (some .boolean) 3 RX7 wsX7_hasPlace z G := ⟨hx, hb, hr, hml, hown, hts, hlocks, hE, hz⟩
  have hS : va_S (Az z) s.heap s.heap [] := va_S.rf
  have hl := lv_entry [.ref (ad 30 0), .int p1, .int p2] (n := 3) (Nat.le_of_ble_eq_true rfl)
  rw [lg_entry_eq]
  generalize (lg_sl [.ref (ad 30 0), .int p1, .int p2] ++ List.replicate (3 - (lg_sl [.ref (ad 30 0), .int p1, .int p2]).length) Slot.unset).toArray = ls at hl ⊢
  have hl : lv_has ls 3 [(0, .ref (ad 30 0)), (1, .int p1), (2, .int p2)] := hl
  unfold wpX7_hasPlace at h
  refine lv_aload_n hx hb dX7_hasPlace_0 rfl (lv_at hl 0 rfl) ?_
  refine r_get (C := RX7) (T := TX7) (N := 49) (ci := 10) (fs := fl_30 ad ν ρ 0 (σ 30 0)) hx hb hts hown hE hW 30 0 rfl rfl rfl (fun w h => List.mem_cons_of_mem _ (List.mem_append_right _ h)) 37 (by decide) (List.mem_of_getElem? (i := 1) rfl) rfl (v := .ref (ad 137 0)) rfl dX7_hasPlace_1 ?_
  refine lv_iload_n hx hb dX7_hasPlace_4 rfl (lv_at hl 1 rfl) ?_
  obtain ⟨b1, h⟩ := h
  refine r_zald hx hb hE hW 137 0 ⟨rfl, by decide, by decide⟩ (n := 20) (f := ρ 37) rfl b1 (v := ρ 37 p1.toNatClampNeg) rfl dX7_hasPlace_5 ?_
  refine r_if_eq hx hb rfl (tgt := 29) dX7_hasPlace_6 (by decide) (fun c2 => ?_) (fun c2 => ?_)
  · have h := ite_t c2 h
    refine lv_iconst (v := (0 : Int32)) hx hb dX7_hasPlace_29 (by decide) ?_
    exact W.zret (v := (0 : Int32)) (ty := .boolean) hx hb hr rfl (fun t ht _ => ⟨⟨_, (σ, ν, ρ, lo), rfl, ⟨rfl, h⟩, WP.at9 ht hW⟩, hS.F ht⟩) hS.2.2 dX7_hasPlace_30 (hlocks := hlocks)
  · have h := ite_f c2 h
    refine lv_iload_n hx hb dX7_hasPlace_9 rfl (lv_at hl 2 rfl) ?_
    refine lv_iconst (v := (0 : Int32)) hx hb dX7_hasPlace_10 (by decide) ?_
    refine lv_aload_n hx hb dX7_hasPlace_11 rfl (lv_at hl 0 rfl) ?_
    refine r_get (C := RX7) (T := TX7) (N := 49) (ci := 10) (fs := fl_30 ad ν ρ 0 (σ 30 0)) hx hb hts hown hE hW 30 0 rfl rfl rfl (fun w h => List.mem_cons_of_mem _ (List.mem_append_right _ h)) 40 (by decide) (List.mem_of_getElem? (i := 2) rfl) rfl (v := .ref (ad 140 0)) rfl dX7_hasPlace_12 ?_
    refine lv_iload_n hx hb dX7_hasPlace_15 rfl (lv_at hl 1 rfl) ?_
    obtain ⟨b3, h⟩ := h
    refine r_iald hx hb hE hW 140 0 ⟨rfl, by decide, by decide⟩ (n := 20) (f := ρ 40) rfl b3 (v := ρ 40 p1.toNatClampNeg) rfl dX7_hasPlace_16 ?_
    refine lv_iconst (v := (1 : Int32)) hx hb dX7_hasPlace_17 (by decide) ?_
    refine lv_isub hx hb dX7_hasPlace_18 ?_
    refine k_Si (rest := []) (As := [.int p2, .int ((0 : Int32)), .int ((ρ 40 p1.toNatClampNeg) - ((1 : Int32)))]) ⟨hx, hb, hml, hown, hts⟩ hE hz hS hW (mtX7_isIn l z G ad σ ν ρ lo p2 ((0 : Int32)) ((ρ 40 p1.toNatClampNeg) - ((1 : Int32))) _ h) (va_cwS 3 hts gX7_hasPlace_X7_isIn rfl rfl rfl (by decide +kernel) ⟨Nat.le_of_ble_eq_true rfl, Nat.le_of_ble_eq_true rfl⟩) rfl hl.1 rfl (Nat.le_of_ble_eq_true rfl) dX7_hasPlace_19 ⟨Nat.le_of_ble_eq_true rfl, Nat.le_of_ble_eq_true rfl⟩ (fun r4 S1 H locs hp hW hS => ?_)
    obtain ⟨rfl, h⟩ := hp
    refine r_if_eq hx hb rfl (tgt := 29) dX7_hasPlace_22 (by decide) (fun c5 => ?_) (fun c5 => ?_)
    · have h := ite_t c5 h
      refine lv_iconst (v := (0 : Int32)) hx hb dX7_hasPlace_29 (by decide) ?_
      exact W.zret (v := (0 : Int32)) (ty := .boolean) hx hb hr rfl (fun t ht _ => ⟨⟨_, (σ, ν, ρ, lo), rfl, ⟨rfl, h⟩, WP.at9 ht hW⟩, hS.F ht⟩) hS.2.2 dX7_hasPlace_30 (hlocks := hlocks)
    · have h := ite_f c5 h
      refine lv_iconst (v := (1 : Int32)) hx hb dX7_hasPlace_25 (by decide) ?_
      refine lv_goto (tgt := 30) hx hb dX7_hasPlace_26 (by decide) ?_
      exact W.zret (v := (1 : Int32)) (ty := .boolean) hx hb hr rfl (fun t ht _ => ⟨⟨_, (σ, ν, ρ, lo), rfl, ⟨rfl, h⟩, WP.at9 ht hW⟩, hS.F ht⟩) hS.2.2 dX7_hasPlace_30 (hlocks := hlocks)
set_option maxHeartbeats 4000000 in
set_option maxRecDepth 100000 in
theorem mtX7_asksPlace (l : Launch) (z : Nat) (G : Gl) (ad : Nat → Nat → Nat) (σ : SG) (ν : NU) (ρ : RH) (lo : Int64) (p1 : Int32) (p2 : Int32) (post : Int32 → RH → Prop) (h : wpX7_asksPlace ρ p1 p2 post) : Met l yX7_asksPlace wsX7_asksPlace ({ frames := 6, cells := 0, slots := 0, locals := 150 } : Room) (Pcs z G ad (σ, ν, ρ, lo) [.ref (ad 30 0), .int p1, .int p2]) (Qis z G ad (fun r S1 => ∃ t : RH, S1 = (σ, ν, t, lo) ∧ post r t)) 0 0 (Az z) := by
  refine Met.ofW (cc := cX7_asksPlace) (maxL := 3) (ret := (some .boolean)) (by decide) rfl ?_
  intro p e s m args below meth c s₁ B hml hv
  obtain ⟨rfl, hz, hW, hE⟩ := hv
  have hx := B.exec
  have hb := B.bytes
  have hr := B.returns
  have hts := atoms_spec (ws := wsX7_asksPlace) B.pre
  have hown : s.vm.findClass RX7 = some m.cls := findClass_of_methodNamed B.named
  have hlocks := B.notSynchronized
  have X : Cx p l e s m _ below meth c cX7_asksPlace (some .boolean) 3 RX7 wsX7_asksPlace z G := ⟨hx, hb, hr, hml, hown, hts, hlocks, hE, hz⟩
  have hS : va_S (Az z) s.heap s.heap [] := va_S.rf
  have hl := lv_entry [.ref (ad 30 0), .int p1, .int p2] (n := 3) (Nat.le_of_ble_eq_true rfl)
  rw [lg_entry_eq]
  generalize (lg_sl [.ref (ad 30 0), .int p1, .int p2] ++ List.replicate (3 - (lg_sl [.ref (ad 30 0), .int p1, .int p2]).length) Slot.unset).toArray = ls at hl ⊢
  have hl : lv_has ls 3 [(0, .ref (ad 30 0)), (1, .int p1), (2, .int p2)] := hl
  unfold wpX7_asksPlace at h
  refine lv_aload_n hx hb dX7_asksPlace_0 rfl (lv_at hl 0 rfl) ?_
  refine k_Vv (rest := []) (As := []) ⟨hx, hb, hml, hown, hts⟩ hE hz hS hW (mtX7_laysView l z G ad σ ν ρ lo  _ h) (cwV 0 hts gX7_asksPlace_X7_laysView rfl rfl rfl (by decide +kernel) ⟨Nat.le_of_ble_eq_true rfl, Nat.le_of_ble_eq_true rfl⟩) (r_recv hE hW 30 0 rfl (ci := 10) rfl rfl) rfl hl.1 rfl (Nat.le_of_ble_eq_true rfl) dX7_asksPlace_1 ⟨Nat.le_of_ble_eq_true rfl, Nat.le_of_ble_eq_true rfl⟩ (fun S1 H locs hp hW hS => ?_)
  obtain ⟨t1, rfl, h⟩ := hp
  refine lv_aload_n hx hb dX7_asksPlace_4 rfl (lv_at hl 0 rfl) ?_
  refine lv_aload_n hx hb dX7_asksPlace_5 rfl (lv_at hl 0 rfl) ?_
  refine lv_iload_n hx hb dX7_asksPlace_6 rfl (lv_at hl 1 rfl) ?_
  refine k_Vi (rest := [.ref (ad 30 0)]) (As := [.int p1]) ⟨hx, hb, hml, hown, hts⟩ hE hz hS hW (mtX7_isProvision l z G ad σ ν t1 lo p1 _ h) (cwV 1 hts gX7_asksPlace_X7_isProvision rfl rfl rfl (by decide +kernel) ⟨Nat.le_of_ble_eq_true rfl, Nat.le_of_ble_eq_true rfl⟩) (r_recv hE hW 30 0 rfl (ci := 10) rfl rfl) rfl hl.1 rfl (Nat.le_of_ble_eq_true rfl) dX7_asksPlace_7 ⟨Nat.le_of_ble_eq_true rfl, Nat.le_of_ble_eq_true rfl⟩ (fun r2 S1 H locs hp hW hS => ?_)
  obtain ⟨rfl, h⟩ := hp
  refine r_if_ne hx hb rfl (tgt := 17) dX7_asksPlace_10 (by decide) (fun c3 => ?_) (fun c3 => ?_)
  · have h := ite_f c3 h
    refine lv_aload_n hx hb dX7_asksPlace_17 rfl (lv_at hl 0 rfl) ?_
    refine lv_iload_n hx hb dX7_asksPlace_18 rfl (lv_at hl 1 rfl) ?_
    refine lv_iload_n hx hb dX7_asksPlace_19 rfl (lv_at hl 2 rfl) ?_
    refine k_Vi (rest := [.ref (ad 30 0)]) (As := [.int p1, .int p2]) ⟨hx, hb, hml, hown, hts⟩ hE hz hS hW (mtX7_hasPlace l z G ad σ ν t1 lo p1 p2 _ h) (cwV 2 hts gX7_asksPlace_X7_hasPlace rfl rfl rfl (by decide +kernel) ⟨Nat.le_of_ble_eq_true rfl, Nat.le_of_ble_eq_true rfl⟩) (r_recv hE hW 30 0 rfl (ci := 10) rfl rfl) rfl hl.1 rfl (Nat.le_of_ble_eq_true rfl) dX7_asksPlace_20 ⟨Nat.le_of_ble_eq_true rfl, Nat.le_of_ble_eq_true rfl⟩ (fun r4 S1 H locs hp hW hS => ?_)
    obtain ⟨rfl, h⟩ := hp
    refine r_if_eq hx hb rfl (tgt := 30) dX7_asksPlace_23 (by decide) (fun c5 => ?_) (fun c5 => ?_)
    · have h := ite_t c5 h
      refine lv_iconst (v := (1 : Int32)) hx hb dX7_asksPlace_30 (by decide) ?_
      refine k_Vi (rest := []) (As := [.int ((1 : Int32))]) ⟨hx, hb, hml, hown, hts⟩ hE hz hS hW (mtX7_goes l z G ad σ ν t1 lo ((1 : Int32)) _ h) (cwV 1 hts gX7_asksPlace_X7_goes rfl rfl rfl (by decide +kernel) ⟨Nat.le_of_ble_eq_true rfl, Nat.le_of_ble_eq_true rfl⟩) (r_recv hE hW 30 0 rfl (ci := 10) rfl rfl) rfl hl.1 rfl (Nat.le_of_ble_eq_true rfl) dX7_asksPlace_31 ⟨Nat.le_of_ble_eq_true rfl, Nat.le_of_ble_eq_true rfl⟩ (fun r6 S1 H locs hp hW hS => ?_)
      obtain ⟨t7, rfl, h⟩ := hp
      obtain ⟨g8, h⟩ := h
      exact W.zret (v := r6) (ty := .boolean) hx hb hr (narrow_bo g8) (fun t ht _ => ⟨⟨_, (σ, ν, t7, lo), rfl, ⟨_, rfl, h⟩, WP.at9 ht hW⟩, hS.F ht⟩) hS.2.2 dX7_asksPlace_34 (hlocks := hlocks)
    · have h := ite_f c5 h
      refine lv_iconst (v := (0 : Int32)) hx hb dX7_asksPlace_26 (by decide) ?_
      refine lv_goto (tgt := 31) hx hb dX7_asksPlace_27 (by decide) ?_
      refine k_Vi (rest := []) (As := [.int ((0 : Int32))]) ⟨hx, hb, hml, hown, hts⟩ hE hz hS hW (mtX7_goes l z G ad σ ν t1 lo ((0 : Int32)) _ h) (cwV 1 hts gX7_asksPlace_X7_goes rfl rfl rfl (by decide +kernel) ⟨Nat.le_of_ble_eq_true rfl, Nat.le_of_ble_eq_true rfl⟩) (r_recv hE hW 30 0 rfl (ci := 10) rfl rfl) rfl hl.1 rfl (Nat.le_of_ble_eq_true rfl) dX7_asksPlace_31 ⟨Nat.le_of_ble_eq_true rfl, Nat.le_of_ble_eq_true rfl⟩ (fun r9 S1 H locs hp hW hS => ?_)
      obtain ⟨t10, rfl, h⟩ := hp
      obtain ⟨g11, h⟩ := h
      exact W.zret (v := r9) (ty := .boolean) hx hb hr (narrow_bo g11) (fun t ht _ => ⟨⟨_, (σ, ν, t10, lo), rfl, ⟨_, rfl, h⟩, WP.at9 ht hW⟩, hS.F ht⟩) hS.2.2 dX7_asksPlace_34 (hlocks := hlocks)
  · have h := ite_t c3 h
    refine lv_iconst (v := (1 : Int32)) hx hb dX7_asksPlace_13 (by decide) ?_
    refine lv_goto (tgt := 31) hx hb dX7_asksPlace_14 (by decide) ?_
    refine k_Vi (rest := []) (As := [.int ((1 : Int32))]) ⟨hx, hb, hml, hown, hts⟩ hE hz hS hW (mtX7_goes l z G ad σ ν t1 lo ((1 : Int32)) _ h) (cwV 1 hts gX7_asksPlace_X7_goes rfl rfl rfl (by decide +kernel) ⟨Nat.le_of_ble_eq_true rfl, Nat.le_of_ble_eq_true rfl⟩) (r_recv hE hW 30 0 rfl (ci := 10) rfl rfl) rfl hl.1 rfl (Nat.le_of_ble_eq_true rfl) dX7_asksPlace_31 ⟨Nat.le_of_ble_eq_true rfl, Nat.le_of_ble_eq_true rfl⟩ (fun r12 S1 H locs hp hW hS => ?_)
    obtain ⟨t13, rfl, h⟩ := hp
    obtain ⟨g14, h⟩ := h
    exact W.zret (v := r12) (ty := .boolean) hx hb hr (narrow_bo g14) (fun t ht _ => ⟨⟨_, (σ, ν, t13, lo), rfl, ⟨_, rfl, h⟩, WP.at9 ht hW⟩, hS.F ht⟩) hS.2.2 dX7_asksPlace_34 (hlocks := hlocks)
set_option maxHeartbeats 4000000 in
set_option maxRecDepth 100000 in
theorem mtX7_wordAt (l : Launch) (z : Nat) (G : Gl) (ad : Nat → Nat → Nat) (σ : SG) (ν : NU) (ρ : RH) (lo : Int64) (p1 : Int32) (p2 : Int32) (post : Int32 → RH → Prop) (h : wpX7_wordAt ρ p1 p2 post) : Met l yX7_wordAt wsX7_wordAt ({ frames := 7, cells := 0, slots := 0, locals := 172 } : Room) (Pcs z G ad (σ, ν, ρ, lo) [.ref (ad 30 0), .int p1, .int p2]) (Qis z G ad (fun r S1 => ∃ t : RH, S1 = (σ, ν, t, lo) ∧ post r t)) 0 0 (Az z) := by
  refine Met.ofW (cc := cX7_wordAt) (maxL := 3) (ret := (some .int)) (by decide) rfl ?_
  intro p e s m args below meth c s₁ B hml hv
  obtain ⟨rfl, hz, hW, hE⟩ := hv
  have hx := B.exec
  have hb := B.bytes
  have hr := B.returns
  have hts := atoms_spec (ws := wsX7_wordAt) B.pre
  have hown : s.vm.findClass RX7 = some m.cls := findClass_of_methodNamed B.named
  have hlocks := B.notSynchronized
  have X : Cx p l e s m _ below meth c cX7_wordAt (some .int) 3 RX7 wsX7_wordAt z G := ⟨hx, hb, hr, hml, hown, hts, hlocks, hE, hz⟩
  have hS : va_S (Az z) s.heap s.heap [] := va_S.rf
  have hl := lv_entry [.ref (ad 30 0), .int p1, .int p2] (n := 3) (Nat.le_of_ble_eq_true rfl)
  rw [lg_entry_eq]
  generalize (lg_sl [.ref (ad 30 0), .int p1, .int p2] ++ List.replicate (3 - (lg_sl [.ref (ad 30 0), .int p1, .int p2]).length) Slot.unset).toArray = ls at hl ⊢
  have hl : lv_has ls 3 [(0, .ref (ad 30 0)), (1, .int p1), (2, .int p2)] := hl
  unfold wpX7_wordAt at h
  refine lv_aload_n hx hb dX7_wordAt_0 rfl (lv_at hl 0 rfl) ?_
  refine lv_iload_n hx hb dX7_wordAt_1 rfl (lv_at hl 1 rfl) ?_
  refine lv_iload_n hx hb dX7_wordAt_2 rfl (lv_at hl 2 rfl) ?_
  refine k_Vi (rest := []) (As := [.int p1, .int p2]) ⟨hx, hb, hml, hown, hts⟩ hE hz hS hW (mtX7_asksPlace l z G ad σ ν ρ lo p1 p2 _ h) (cwV 2 hts gX7_wordAt_X7_asksPlace rfl rfl rfl (by decide +kernel) ⟨Nat.le_of_ble_eq_true rfl, Nat.le_of_ble_eq_true rfl⟩) (r_recv hE hW 30 0 rfl (ci := 10) rfl rfl) rfl hl.1 rfl (Nat.le_of_ble_eq_true rfl) dX7_wordAt_3 ⟨Nat.le_of_ble_eq_true rfl, Nat.le_of_ble_eq_true rfl⟩ (fun r1 S1 H locs hp hW hS => ?_)
  obtain ⟨t2, rfl, h⟩ := hp
  refine r_if_eq hx hb rfl (tgt := 23) dX7_wordAt_6 (by decide) (fun c3 => ?_) (fun c3 => ?_)
  · have h := ite_t c3 h
    refine lv_iconst (v := (0 : Int32)) hx hb dX7_wordAt_23 (by decide) ?_
    exact W.iret (v := (0 : Int32)) hx hb hr (fun t ht _ => ⟨⟨_, (σ, ν, t2, lo), rfl, ⟨_, rfl, h⟩, WP.at9 ht hW⟩, hS.F ht⟩) hS.2.2 dX7_wordAt_24 (hlocks := hlocks)
  · have h := ite_f c3 h
    refine lv_aload_n hx hb dX7_wordAt_9 rfl (lv_at hl 0 rfl) ?_
    refine r_get (C := RX7) (T := TX7) (N := 49) (ci := 10) (fs := fl_30 ad ν t2 0 (σ 30 0)) hx hb hts hown hE hW 30 0 rfl rfl rfl (fun w h => List.mem_cons_of_mem _ (List.mem_append_right _ h)) 41 (by decide) (List.mem_of_getElem? (i := 1) rfl) rfl (v := .ref (ad 141 0)) rfl dX7_wordAt_10 ?_
    refine lv_bipush (v := (12 : Int32)) hx hb dX7_wordAt_13 (by decide) ?_
    refine lv_iload_n hx hb dX7_wordAt_15 rfl (lv_at hl 1 rfl) ?_
    refine lv_imul hx hb dX7_wordAt_16 ?_
    refine lv_iload_n hx hb dX7_wordAt_17 rfl (lv_at hl 2 rfl) ?_
    refine lv_iadd hx hb dX7_wordAt_18 ?_
    obtain ⟨b4, h⟩ := h
    refine r_iald hx hb hE hW 141 0 ⟨rfl, by decide, by decide⟩ (n := 240) (f := t2 41) rfl b4 (v := t2 41 ((((12 : Int32)) * p1) + p2).toNatClampNeg) rfl dX7_wordAt_19 ?_
    refine lv_goto (tgt := 24) hx hb dX7_wordAt_20 (by decide) ?_
    exact W.iret (v := t2 41 ((((12 : Int32)) * p1) + p2).toNatClampNeg) hx hb hr (fun t ht _ => ⟨⟨_, (σ, ν, t2, lo), rfl, ⟨_, rfl, h⟩, WP.at9 ht hW⟩, hS.F ht⟩) hS.2.2 dX7_wordAt_24 (hlocks := hlocks)
set_option maxHeartbeats 4000000 in
set_option maxRecDepth 100000 in
theorem tX7_wordAnew_22 {p : Program} {l : Launch} {e : Env} {s : State} {m : MethodId} {args : Array Value} {below : List Frame} {meth : Method} {c : Code} {z : Nat} {G : Gl} {ad : Nat → Nat → Nat} {σ : SG} {ν : NU} {ρ : RH} {lo : Int64} (X : Cx p l e s m args below meth c cX7_wordAnew (some .int) 3 RX7 wsX7_wordAnew z G) (p1 : Int32) (p2 : Int32)  (post : Int32 → RH → Prop) : ∀ (a3 : RH) (y0 : Nat) (y1 : Int32) {H : Heap} {locs : List Loc} {ls : Array Slot}, WP z G ad (σ, ν, a3, lo) H → va_S (Az z) s.heap H locs → lv_has ls 3 [(0, .ref (ad 30 0)), (1, .int p1), (2, .int p2)] → jX7_wordAnew_22 p1 p2 post a3 y0 y1 → W p l e ({ frames := 6, cells := 0, slots := 0, locals := 150 } : Room) s m args below meth c H locs 0 0 (MQ below (Qis z G ad (fun r S1 => ∃ t : RH, S1 = (σ, ν, t, lo) ∧ post r t)) args s 0 0 (Az z)) (F0 m 22 ls [.int y1, .ref (ad 30 0)]) := by
  obtain ⟨hx, hb, hr, hml, hown, hts, hlocks, hE, hz⟩ := id X
  intro a3 y0 y1 H locs ls hW hS hl h
  unfold jX7_wordAnew_22 at h
  refine k_Vi (rest := []) (As := [.int y1]) ⟨hx, hb, hml, hown, hts⟩ hE hz hS hW (mtX7_goes l z G ad σ ν a3 lo y1 _ h) (cwV 1 hts gX7_wordAnew_X7_goes rfl rfl rfl (by decide +kernel) ⟨Nat.le_of_ble_eq_true rfl, Nat.le_of_ble_eq_true rfl⟩) (r_recv hE hW 30 0 rfl (ci := 10) rfl rfl) rfl hl.1 rfl (Nat.le_of_ble_eq_true rfl) dX7_wordAnew_22 ⟨Nat.le_of_ble_eq_true rfl, Nat.le_of_ble_eq_true rfl⟩ (fun r4 S1 H locs hp hW hS => ?_)
  obtain ⟨t5, rfl, h⟩ := hp
  refine r_if_ne hx hb rfl (tgt := 30) dX7_wordAnew_25 (by decide) (fun c6 => ?_) (fun c6 => ?_)
  · have h := ite_f c6 h
    refine lv_aload_n hx hb dX7_wordAnew_30 rfl (lv_at hl 0 rfl) ?_
    refine lv_iload_n hx hb dX7_wordAnew_31 rfl (lv_at hl 1 rfl) ?_
    refine lv_iload_n hx hb dX7_wordAnew_32 rfl (lv_at hl 2 rfl) ?_
    refine k_Vi (rest := []) (As := [.int p1, .int p2]) ⟨hx, hb, hml, hown, hts⟩ hE hz hS hW (mtX7_hasPlace l z G ad σ ν t5 lo p1 p2 _ h) (cwV 2 hts gX7_wordAnew_X7_hasPlace rfl rfl rfl (by decide +kernel) ⟨Nat.le_of_ble_eq_true rfl, Nat.le_of_ble_eq_true rfl⟩) (r_recv hE hW 30 0 rfl (ci := 10) rfl rfl) rfl hl.1 rfl (Nat.le_of_ble_eq_true rfl) dX7_wordAnew_33 ⟨Nat.le_of_ble_eq_true rfl, Nat.le_of_ble_eq_true rfl⟩ (fun r7 S1 H locs hp hW hS => ?_)
    obtain ⟨rfl, h⟩ := hp
    refine r_if_eq hx hb rfl (tgt := 53) dX7_wordAnew_36 (by decide) (fun c8 => ?_) (fun c8 => ?_)
    · have h := ite_t c8 h
      refine lv_iconst (v := (-1 : Int32)) hx hb dX7_wordAnew_53 (by decide) ?_
      exact W.iret (v := (-1 : Int32)) hx hb hr (fun t ht _ => ⟨⟨_, (σ, ν, t5, lo), rfl, ⟨_, rfl, h⟩, WP.at9 ht hW⟩, hS.F ht⟩) hS.2.2 dX7_wordAnew_54 (hlocks := hlocks)
    · have h := ite_f c8 h
      refine lv_aload_n hx hb dX7_wordAnew_39 rfl (lv_at hl 0 rfl) ?_
      refine r_get (C := RX7) (T := TX7) (N := 49) (ci := 10) (fs := fl_30 ad ν t5 0 (σ 30 0)) hx hb hts hown hE hW 30 0 rfl rfl rfl (fun w h => List.mem_cons_of_mem _ (List.mem_append_right _ h)) 41 (by decide) (List.mem_of_getElem? (i := 1) rfl) rfl (v := .ref (ad 141 0)) rfl dX7_wordAnew_40 ?_
      refine lv_bipush (v := (12 : Int32)) hx hb dX7_wordAnew_43 (by decide) ?_
      refine lv_iload_n hx hb dX7_wordAnew_45 rfl (lv_at hl 1 rfl) ?_
      refine lv_imul hx hb dX7_wordAnew_46 ?_
      refine lv_iload_n hx hb dX7_wordAnew_47 rfl (lv_at hl 2 rfl) ?_
      refine lv_iadd hx hb dX7_wordAnew_48 ?_
      obtain ⟨b9, h⟩ := h
      refine r_iald hx hb hE hW 141 0 ⟨rfl, by decide, by decide⟩ (n := 240) (f := t5 41) rfl b9 (v := t5 41 ((((12 : Int32)) * p1) + p2).toNatClampNeg) rfl dX7_wordAnew_49 ?_
      refine lv_goto (tgt := 54) hx hb dX7_wordAnew_50 (by decide) ?_
      exact W.iret (v := t5 41 ((((12 : Int32)) * p1) + p2).toNatClampNeg) hx hb hr (fun t ht _ => ⟨⟨_, (σ, ν, t5, lo), rfl, ⟨_, rfl, h⟩, WP.at9 ht hW⟩, hS.F ht⟩) hS.2.2 dX7_wordAnew_54 (hlocks := hlocks)
  · have h := ite_t c6 h
    refine lv_iconst (v := (0 : Int32)) hx hb dX7_wordAnew_28 (by decide) ?_
    exact W.iret (v := (0 : Int32)) hx hb hr (fun t ht _ => ⟨⟨_, (σ, ν, t5, lo), rfl, ⟨_, rfl, h⟩, WP.at9 ht hW⟩, hS.F ht⟩) hS.2.2 dX7_wordAnew_29 (hlocks := hlocks)
set_option maxHeartbeats 4000000 in
set_option maxRecDepth 100000 in
theorem mtX7_wordAnew (l : Launch) (z : Nat) (G : Gl) (ad : Nat → Nat → Nat) (σ : SG) (ν : NU) (ρ : RH) (lo : Int64) (p1 : Int32) (p2 : Int32) (post : Int32 → RH → Prop) (h : wpX7_wordAnew ρ p1 p2 post) : Met l yX7_wordAnew wsX7_wordAnew ({ frames := 6, cells := 0, slots := 0, locals := 150 } : Room) (Pcs z G ad (σ, ν, ρ, lo) [.ref (ad 30 0), .int p1, .int p2]) (Qis z G ad (fun r S1 => ∃ t : RH, S1 = (σ, ν, t, lo) ∧ post r t)) 0 0 (Az z) := by
  refine Met.ofW (cc := cX7_wordAnew) (maxL := 3) (ret := (some .int)) (by decide) rfl ?_
  intro p e s m args below meth c s₁ B hml hv
  obtain ⟨rfl, hz, hW, hE⟩ := hv
  have hx := B.exec
  have hb := B.bytes
  have hr := B.returns
  have hts := atoms_spec (ws := wsX7_wordAnew) B.pre
  have hown : s.vm.findClass RX7 = some m.cls := findClass_of_methodNamed B.named
  have hlocks := B.notSynchronized
  have X : Cx p l e s m _ below meth c cX7_wordAnew (some .int) 3 RX7 wsX7_wordAnew z G := ⟨hx, hb, hr, hml, hown, hts, hlocks, hE, hz⟩
  have hS : va_S (Az z) s.heap s.heap [] := va_S.rf
  have hl := lv_entry [.ref (ad 30 0), .int p1, .int p2] (n := 3) (Nat.le_of_ble_eq_true rfl)
  rw [lg_entry_eq]
  generalize (lg_sl [.ref (ad 30 0), .int p1, .int p2] ++ List.replicate (3 - (lg_sl [.ref (ad 30 0), .int p1, .int p2]).length) Slot.unset).toArray = ls at hl ⊢
  have hl : lv_has ls 3 [(0, .ref (ad 30 0)), (1, .int p1), (2, .int p2)] := hl
  unfold wpX7_wordAnew at h
  refine lv_aload_n hx hb dX7_wordAnew_0 rfl (lv_at hl 0 rfl) ?_
  refine k_Vv (rest := []) (As := []) ⟨hx, hb, hml, hown, hts⟩ hE hz hS hW (mtX7_laysView l z G ad σ ν ρ lo  _ h) (cwV 0 hts gX7_wordAnew_X7_laysView rfl rfl rfl (by decide +kernel) ⟨Nat.le_of_ble_eq_true rfl, Nat.le_of_ble_eq_true rfl⟩) (r_recv hE hW 30 0 rfl (ci := 10) rfl rfl) rfl hl.1 rfl (Nat.le_of_ble_eq_true rfl) dX7_wordAnew_1 ⟨Nat.le_of_ble_eq_true rfl, Nat.le_of_ble_eq_true rfl⟩ (fun S1 H locs hp hW hS => ?_)
  obtain ⟨t1, rfl, h⟩ := hp
  refine lv_aload_n hx hb dX7_wordAnew_4 rfl (lv_at hl 0 rfl) ?_
  refine lv_aload_n hx hb dX7_wordAnew_5 rfl (lv_at hl 0 rfl) ?_
  refine lv_iload_n hx hb dX7_wordAnew_6 rfl (lv_at hl 1 rfl) ?_
  refine k_Vi (rest := [.ref (ad 30 0)]) (As := [.int p1]) ⟨hx, hb, hml, hown, hts⟩ hE hz hS hW (mtX7_isProvision l z G ad σ ν t1 lo p1 _ h) (cwV 1 hts gX7_wordAnew_X7_isProvision rfl rfl rfl (by decide +kernel) ⟨Nat.le_of_ble_eq_true rfl, Nat.le_of_ble_eq_true rfl⟩) (r_recv hE hW 30 0 rfl (ci := 10) rfl rfl) rfl hl.1 rfl (Nat.le_of_ble_eq_true rfl) dX7_wordAnew_7 ⟨Nat.le_of_ble_eq_true rfl, Nat.le_of_ble_eq_true rfl⟩ (fun r2 S1 H locs hp hW hS => ?_)
  obtain ⟨rfl, h⟩ := hp
  refine r_if_eq hx hb rfl (tgt := 21) dX7_wordAnew_10 (by decide) (fun c3 => ?_) (fun c3 => ?_)
  · have h := ite_t c3 h
    refine lv_iconst (v := (1 : Int32)) hx hb dX7_wordAnew_21 (by decide) ?_
    exact tX7_wordAnew_22 (σ := σ) (ρ := ρ) X p1 p2 post  t1 0 ((1 : Int32)) hW hS (lv_sub hl [0, 1, 2] rfl) h
  · have h := ite_f c3 h
    refine lv_iload_n hx hb dX7_wordAnew_13 rfl (lv_at hl 2 rfl) ?_
    refine r_if_lt hx hb rfl (tgt := 21) dX7_wordAnew_14 (by decide) (fun c10 => ?_) (fun c10 => ?_)
    · have h := ite_t c10 h
      refine lv_iconst (v := (1 : Int32)) hx hb dX7_wordAnew_21 (by decide) ?_
      exact tX7_wordAnew_22 (σ := σ) (ρ := ρ) X p1 p2 post  t1 0 ((1 : Int32)) hW hS (lv_sub hl [0, 1, 2] rfl) h
    · have h := ite_f c10 h
      refine lv_iconst (v := (0 : Int32)) hx hb dX7_wordAnew_17 (by decide) ?_
      refine lv_goto (tgt := 22) hx hb dX7_wordAnew_18 (by decide) ?_
      exact tX7_wordAnew_22 (σ := σ) (ρ := ρ) X p1 p2 post  t1 0 ((0 : Int32)) hW hS (lv_sub hl [0, 1, 2] rfl) h
set_option maxHeartbeats 4000000 in
set_option maxRecDepth 100000 in
theorem mtX7_origin (l : Launch) (z : Nat) (G : Gl) (ad : Nat → Nat → Nat) (σ : SG) (ν : NU) (ρ : RH) (lo : Int64) (p1 : Int32) (p2 : Int32) (post : Int32 → RH → Prop) (h : wpX7_origin ρ p1 p2 post) : Met l yX7_origin wsX7_origin ({ frames := 7, cells := 0, slots := 0, locals := 172 } : Room) (Pcs z G ad (σ, ν, ρ, lo) [.ref (ad 30 0), .int p1, .int p2]) (Qis z G ad (fun r S1 => ∃ t : RH, S1 = (σ, ν, t, lo) ∧ post r t)) 0 0 (Az z) := by
  refine Met.ofW (cc := cX7_origin) (maxL := 3) (ret := (some .int)) (by decide) rfl ?_
  intro p e s m args below meth c s₁ B hml hv
  obtain ⟨rfl, hz, hW, hE⟩ := hv
  have hx := B.exec
  have hb := B.bytes
  have hr := B.returns
  have hts := atoms_spec (ws := wsX7_origin) B.pre
  have hown : s.vm.findClass RX7 = some m.cls := findClass_of_methodNamed B.named
  have hlocks := B.notSynchronized
  have X : Cx p l e s m _ below meth c cX7_origin (some .int) 3 RX7 wsX7_origin z G := ⟨hx, hb, hr, hml, hown, hts, hlocks, hE, hz⟩
  have hS : va_S (Az z) s.heap s.heap [] := va_S.rf
  have hl := lv_entry [.ref (ad 30 0), .int p1, .int p2] (n := 3) (Nat.le_of_ble_eq_true rfl)
  rw [lg_entry_eq]
  generalize (lg_sl [.ref (ad 30 0), .int p1, .int p2] ++ List.replicate (3 - (lg_sl [.ref (ad 30 0), .int p1, .int p2]).length) Slot.unset).toArray = ls at hl ⊢
  have hl : lv_has ls 3 [(0, .ref (ad 30 0)), (1, .int p1), (2, .int p2)] := hl
  unfold wpX7_origin at h
  refine lv_aload_n hx hb dX7_origin_0 rfl (lv_at hl 0 rfl) ?_
  refine lv_iload_n hx hb dX7_origin_1 rfl (lv_at hl 1 rfl) ?_
  refine lv_iload_n hx hb dX7_origin_2 rfl (lv_at hl 2 rfl) ?_
  refine k_Vi (rest := []) (As := [.int p1, .int p2]) ⟨hx, hb, hml, hown, hts⟩ hE hz hS hW (mtX7_asksPlace l z G ad σ ν ρ lo p1 p2 _ h) (cwV 2 hts gX7_origin_X7_asksPlace rfl rfl rfl (by decide +kernel) ⟨Nat.le_of_ble_eq_true rfl, Nat.le_of_ble_eq_true rfl⟩) (r_recv hE hW 30 0 rfl (ci := 10) rfl rfl) rfl hl.1 rfl (Nat.le_of_ble_eq_true rfl) dX7_origin_3 ⟨Nat.le_of_ble_eq_true rfl, Nat.le_of_ble_eq_true rfl⟩ (fun r1 S1 H locs hp hW hS => ?_)
  obtain ⟨t2, rfl, h⟩ := hp
  refine r_if_eq hx hb rfl (tgt := 23) dX7_origin_6 (by decide) (fun c3 => ?_) (fun c3 => ?_)
  · have h := ite_t c3 h
    refine lv_iconst (v := (0 : Int32)) hx hb dX7_origin_23 (by decide) ?_
    exact W.iret (v := (0 : Int32)) hx hb hr (fun t ht _ => ⟨⟨_, (σ, ν, t2, lo), rfl, ⟨_, rfl, h⟩, WP.at9 ht hW⟩, hS.F ht⟩) hS.2.2 dX7_origin_24 (hlocks := hlocks)
  · have h := ite_f c3 h
    refine lv_aload_n hx hb dX7_origin_9 rfl (lv_at hl 0 rfl) ?_
    refine r_get (C := RX7) (T := TX7) (N := 49) (ci := 10) (fs := fl_30 ad ν t2 0 (σ 30 0)) hx hb hts hown hE hW 30 0 rfl rfl rfl (fun w h => List.mem_cons_of_mem _ (List.mem_append_right _ h)) 42 (by decide) (List.mem_of_getElem? (i := 1) rfl) rfl (v := .ref (ad 142 0)) rfl dX7_origin_10 ?_
    refine lv_bipush (v := (12 : Int32)) hx hb dX7_origin_13 (by decide) ?_
    refine lv_iload_n hx hb dX7_origin_15 rfl (lv_at hl 1 rfl) ?_
    refine lv_imul hx hb dX7_origin_16 ?_
    refine lv_iload_n hx hb dX7_origin_17 rfl (lv_at hl 2 rfl) ?_
    refine lv_iadd hx hb dX7_origin_18 ?_
    obtain ⟨b4, h⟩ := h
    refine r_iald hx hb hE hW 142 0 ⟨rfl, by decide, by decide⟩ (n := 240) (f := t2 42) rfl b4 (v := t2 42 ((((12 : Int32)) * p1) + p2).toNatClampNeg) rfl dX7_origin_19 ?_
    refine lv_goto (tgt := 24) hx hb dX7_origin_20 (by decide) ?_
    exact W.iret (v := t2 42 ((((12 : Int32)) * p1) + p2).toNatClampNeg) hx hb hr (fun t ht _ => ⟨⟨_, (σ, ν, t2, lo), rfl, ⟨_, rfl, h⟩, WP.at9 ht hW⟩, hS.F ht⟩) hS.2.2 dX7_origin_24 (hlocks := hlocks)
