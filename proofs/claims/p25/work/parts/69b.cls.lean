/-! method by method: what it asks of the state (wp), and its walk. Written by wip/gen/gen.py -/
set_option maxHeartbeats 4000000 in
set_option maxRecDepth 100000 in
theorem mtX4_begin (l : Launch) (z : Nat) (G : Gl) (ad : Nat → Nat → Nat) (σ : SG) (ν : NU) (ρ : RH) (lo : Int64) (o0 : Nat) (o1 : Nat) (p2 : Int32) (post : Int32 → SG → Prop) (h : wpX4_begin σ ν o0 o1 p2 post) : Met l yX4_begin wsX4_begin ({ frames := 2, cells := 0, slots := 0, locals := 57 } : Room) (Pcs z G ad (σ, ν, ρ, lo) [.ref (ad 2 o0), .ref (ad 4 o1), .int p2]) (Qis z G ad (fun r S1 => ∃ t : SG, S1 = (t, ν, ρ, lo) ∧ post r t)) 0 0 (Az z) := by
  refine Met.ofW (cc := cX4_begin) (maxL := 3) (ret := (some .boolean)) (by decide) rfl ?_
  intro p e s m args below meth c s₁ B hml hv
  obtain ⟨rfl, hz, hW, hE⟩ := hv
  have hx := B.exec
  have hb := B.bytes
  have hr := B.returns
  have hts := atoms_spec (ws := wsX4_begin) B.pre
  have hown : s.vm.findClass RX4 = some m.cls := findClass_of_methodNamed B.named
  have hlocks := B.notSynchronized
  have X : Cx p l e s m _ below meth c cX4_begin (some .boolean) 3 RX4 wsX4_begin z G := ⟨hx, hb, hr, hml, hown, hts, hlocks, hE, hz⟩
  have hS : va_S (Az z) s.heap s.heap [] := va_S.rf
  have hl := lv_entry [.ref (ad 2 o0), .ref (ad 4 o1), .int p2] (n := 3) (Nat.le_of_ble_eq_true rfl)
  rw [lg_entry_eq]
  generalize (lg_sl [.ref (ad 2 o0), .ref (ad 4 o1), .int p2] ++ List.replicate (3 - (lg_sl [.ref (ad 2 o0), .ref (ad 4 o1), .int p2]).length) Slot.unset).toArray = ls at hl ⊢
  have hl : lv_has ls 3 [(0, .ref (ad 2 o0)), (1, .ref (ad 4 o1)), (2, .int p2)] := hl
  unfold wpX4_begin at h
  refine lv_aload_n hx hb dX4_begin_0 rfl (lv_at hl 0 rfl) ?_
  refine lv_iconst (v := (0 : Int32)) hx hb dX4_begin_1 (by decide) ?_
  obtain ⟨g1, h⟩ := h
  refine r_putC (C := RX4) (T := TX4) (N := 3) (ci := 7) (fl := fl_2 ad ν ρ o0) hx hb hts hown hE hW hS 2 o0 g1 (fun _ => rfl) rfl (fun w h => List.mem_cons_of_mem _ (List.mem_append_left _ (List.mem_append_right _ h))) tyX4_ok nmX4 2 (by decide) (List.mem_of_getElem? (i := 1) rfl) rfl rfl rfl (Nat.le_of_ble_eq_true rfl) (x := (0 : Int32)) rfl dX4_begin_2 (fun t2 e3 H locs hW hS => ?_)
  have h := h t2 e3
  refine lv_aload_n hx hb dX4_begin_5 rfl (lv_at hl 0 rfl) ?_
  refine lv_iconst (v := (0 : Int32)) hx hb dX4_begin_6 (by decide) ?_
  refine lv_iconst (v := (0 : Int32)) hx hb dX4_begin_7 (by decide) ?_
  refine lv_aload_n hx hb dX4_begin_8 rfl (lv_at hl 1 rfl) ?_
  refine lv_iload_n hx hb dX4_begin_9 rfl (lv_at hl 2 rfl) ?_
  refine k_Vi (rest := []) (As := [.int ((0 : Int32)), .int ((0 : Int32)), .ref (ad 4 o1), .int p2]) ⟨hx, hb, hml, hown, hts⟩ hE hz hS hW (mtX4_splice l z G ad t2 ν ρ lo o0 ((0 : Int32)) ((0 : Int32)) o1 p2 _ h) (cwV 4 hts gX4_begin_X4_splice rfl rfl rfl (by decide +kernel) ⟨Nat.le_of_ble_eq_true rfl, Nat.le_of_ble_eq_true rfl⟩) (r_recv hE hW 2 o0 g1 (ci := 7) rfl rfl) rfl hl.1 rfl (Nat.le_of_ble_eq_true rfl) dX4_begin_10 ⟨Nat.le_of_ble_eq_true rfl, Nat.le_of_ble_eq_true rfl⟩ (fun r4 S1 H locs hp hW hS => ?_)
  obtain ⟨t5, rfl, h⟩ := hp
  obtain ⟨g6, h⟩ := h
  exact W.zret (v := r4) (ty := .boolean) hx hb hr (narrow_bo g6) (fun t ht _ => ⟨⟨_, (t5, ν, ρ, lo), rfl, ⟨_, rfl, h⟩, WP.at9 ht hW⟩, hS.F ht⟩) hS.2.2 dX4_begin_13 (hlocks := hlocks)
set_option maxHeartbeats 4000000 in
set_option maxRecDepth 100000 in
theorem tX4_holdsAt_22 {p : Program} {l : Launch} {e : Env} {s : State} {m : MethodId} {args : Array Value} {below : List Frame} {meth : Method} {c : Code} {z : Nat} {G : Gl} {ad : Nat → Nat → Nat} {σ : SG} {ν : NU} {ρ : RH} {lo : Int64} (X : Cx p l e s m args below meth c cX4_holdsAt (some .boolean) 4 RX4 wsX4_holdsAt z G) (o0 : Nat) (o1 : Nat) (p2 : Int32)  (post : Int32 → Prop) : ∀ (n : Nat) (x3 : Int32) {H : Heap} {locs : List Loc} {ls : Array Slot}, WP z G ad (σ, ν, ρ, lo) H → va_S (Az z) s.heap H locs → lv_has ls 4 [(0, .ref (ad 2 o0)), (1, .ref (ad 4 o1)), (2, .int p2), (3, .int x3)] → wX4_holdsAt_22 o0 o1 p2 post n σ ν x3 → W p l e ({ frames := 0, cells := 0, slots := 0, locals := 0 } : Room) s m args below meth c H locs 0 0 (MQ below (Qis z G ad (fun r S1 => S1 = (σ, ν, ρ, lo) ∧ post r)) args s 0 0 (Az z)) (F0 m 22 ls []) := by
  obtain ⟨hx, hb, hr, hml, hown, hts, hlocks, hE, hz⟩ := id X
  intro n
  induction n with
  | zero =>
    intro x3 H locs ls hW hS hl h
    exact absurd h id
  | succ n ih =>
    intro x3 H locs ls hW hS hl h
    unfold wX4_holdsAt_22 at h
    refine lv_iload_n hx hb dX4_holdsAt_22 rfl (lv_at hl 3 rfl) ?_
    refine lv_aload_n hx hb dX4_holdsAt_23 rfl (lv_at hl 1 rfl) ?_
    obtain ⟨g5, h⟩ := h
    refine r_get (C := RX2) (T := TX2) (N := 2) (ci := 5) (fs := fl_4 ad ν ρ o1 (σ 4 o1)) hx hb hts hown hE hW 4 o1 g5 rfl rfl (fun w h => List.mem_cons_of_mem _ (List.mem_append_left _ (List.mem_append_right _ h))) 1 (by decide) (List.mem_of_getElem? (i := 1) rfl) rfl (v := .int (σ 4 o1 1)) rfl dX4_holdsAt_24 ?_
    refine r_icmp_ge hx hb rfl rfl (tgt := 55) dX4_holdsAt_27 (by decide) (fun c6 => ?_) (fun c6 => ?_)
    · have h := ite_f c6 h
      refine lv_iconst (v := (1 : Int32)) hx hb dX4_holdsAt_55 (by decide) ?_
      exact W.zret (v := (1 : Int32)) (ty := .boolean) hx hb hr rfl (fun t ht _ => ⟨⟨_, (σ, ν, ρ, lo), rfl, ⟨rfl, h⟩, WP.at9 ht hW⟩, hS.F ht⟩) hS.2.2 dX4_holdsAt_56 (hlocks := hlocks)
    · have h := ite_t c6 h
      refine lv_aload_n hx hb dX4_holdsAt_30 rfl (lv_at hl 0 rfl) ?_
      obtain ⟨g7, h⟩ := h
      refine r_get (C := RX4) (T := TX4) (N := 3) (ci := 7) (fs := fl_2 ad ν ρ o0 (σ 2 o0)) hx hb hts hown hE hW 2 o0 g7 rfl rfl (fun w h => List.mem_cons_of_mem _ (List.mem_append_right _ h)) 0 (by decide) (List.mem_of_getElem? (i := 2) rfl) rfl (v := .ref (ad 20 o0)) rfl dX4_holdsAt_31 ?_
      refine lv_iload_n hx hb dX4_holdsAt_34 rfl (lv_at hl 2 rfl) ?_
      refine lv_iload_n hx hb dX4_holdsAt_35 rfl (lv_at hl 3 rfl) ?_
      refine lv_iadd hx hb dX4_holdsAt_36 ?_
      obtain ⟨b8, h⟩ := h
      refine r_iald hx hb hE hW 20 o0 g7 (n := 12) (f := σ 20 o0) rfl b8 (v := σ 20 o0 (p2 + x3).toNatClampNeg) rfl dX4_holdsAt_37 ?_
      refine lv_aload_n hx hb dX4_holdsAt_38 rfl (lv_at hl 1 rfl) ?_
      refine r_get (C := RX2) (T := TX2) (N := 2) (ci := 5) (fs := fl_4 ad ν ρ o1 (σ 4 o1)) hx hb hts hown hE hW 4 o1 g5 rfl rfl (fun w h => List.mem_cons_of_mem _ (List.mem_append_left _ (List.mem_append_right _ h))) 0 (by decide) (List.mem_of_getElem? (i := 3) rfl) rfl (v := .ref (ad 22 o1)) rfl dX4_holdsAt_39 ?_
      refine lv_iload_n hx hb dX4_holdsAt_42 rfl (lv_at hl 3 rfl) ?_
      obtain ⟨b9, h⟩ := h
      refine r_iald hx hb hE hW 22 o1 g5 (n := 4) (f := σ 22 o1) rfl b9 (v := σ 22 o1 x3.toNatClampNeg) rfl dX4_holdsAt_43 ?_
      refine r_icmp_eq hx hb rfl rfl (tgt := 49) dX4_holdsAt_44 (by decide) (fun c10 => ?_) (fun c10 => ?_)
      · have h := ite_t c10 h
        refine lv_iinc (v := x3 + (1 : Int32)) (lv' := [(3, .int (x3 + (1 : Int32))), (0, .ref (ad 2 o0)), (1, .ref (ad 4 o1)), (2, .int p2)]) hx hb dX4_holdsAt_49 hl (k := 3) rfl rfl (by decide) rfl (fun ls hl => ?_)
        refine lv_goto (tgt := 22) hx hb dX4_holdsAt_52 (by decide) ?_
        exact ih (x3 + (1 : Int32)) hW hS (lv_sub hl [1, 2, 3, 0] rfl) h
      · have h := ite_f c10 h
        refine lv_iconst (v := (0 : Int32)) hx hb dX4_holdsAt_47 (by decide) ?_
        exact W.zret (v := (0 : Int32)) (ty := .boolean) hx hb hr rfl (fun t ht _ => ⟨⟨_, (σ, ν, ρ, lo), rfl, ⟨rfl, h⟩, WP.at9 ht hW⟩, hS.F ht⟩) hS.2.2 dX4_holdsAt_48 (hlocks := hlocks)
set_option maxHeartbeats 4000000 in
set_option maxRecDepth 100000 in
theorem mtX4_holdsAt (l : Launch) (z : Nat) (G : Gl) (ad : Nat → Nat → Nat) (σ : SG) (ν : NU) (ρ : RH) (lo : Int64) (o0 : Nat) (o1 : Nat) (p2 : Int32) (post : Int32 → Prop) (h : wpX4_holdsAt σ ν o0 o1 p2 post) : Met l yX4_holdsAt wsX4_holdsAt ({ frames := 0, cells := 0, slots := 0, locals := 0 } : Room) (Pcs z G ad (σ, ν, ρ, lo) [.ref (ad 2 o0), .ref (ad 4 o1), .int p2]) (Qis z G ad (fun r S1 => S1 = (σ, ν, ρ, lo) ∧ post r)) 0 0 (Az z) := by
  refine Met.ofW (cc := cX4_holdsAt) (maxL := 4) (ret := (some .boolean)) (by decide) rfl ?_
  intro p e s m args below meth c s₁ B hml hv
  obtain ⟨rfl, hz, hW, hE⟩ := hv
  have hx := B.exec
  have hb := B.bytes
  have hr := B.returns
  have hts := atoms_spec (ws := wsX4_holdsAt) B.pre
  have hown : s.vm.findClass RX4 = some m.cls := findClass_of_methodNamed B.named
  have hlocks := B.notSynchronized
  have X : Cx p l e s m _ below meth c cX4_holdsAt (some .boolean) 4 RX4 wsX4_holdsAt z G := ⟨hx, hb, hr, hml, hown, hts, hlocks, hE, hz⟩
  have hS : va_S (Az z) s.heap s.heap [] := va_S.rf
  have hl := lv_entry [.ref (ad 2 o0), .ref (ad 4 o1), .int p2] (n := 4) (Nat.le_of_ble_eq_true rfl)
  rw [lg_entry_eq]
  generalize (lg_sl [.ref (ad 2 o0), .ref (ad 4 o1), .int p2] ++ List.replicate (4 - (lg_sl [.ref (ad 2 o0), .ref (ad 4 o1), .int p2]).length) Slot.unset).toArray = ls at hl ⊢
  have hl : lv_has ls 4 [(0, .ref (ad 2 o0)), (1, .ref (ad 4 o1)), (2, .int p2)] := hl
  unfold wpX4_holdsAt at h
  refine lv_iload_n hx hb dX4_holdsAt_0 rfl (lv_at hl 2 rfl) ?_
  refine r_if_lt hx hb rfl (tgt := 18) dX4_holdsAt_1 (by decide) (fun c1 => ?_) (fun c1 => ?_)
  · have h := ite_t c1 h
    refine lv_iconst (v := (0 : Int32)) hx hb dX4_holdsAt_18 (by decide) ?_
    exact W.zret (v := (0 : Int32)) (ty := .boolean) hx hb hr rfl (fun t ht _ => ⟨⟨_, (σ, ν, ρ, lo), rfl, ⟨rfl, h⟩, WP.at9 ht hW⟩, hS.F ht⟩) hS.2.2 dX4_holdsAt_19 (hlocks := hlocks)
  · have h := ite_f c1 h
    refine lv_iload_n hx hb dX4_holdsAt_4 rfl (lv_at hl 2 rfl) ?_
    refine lv_aload_n hx hb dX4_holdsAt_5 rfl (lv_at hl 1 rfl) ?_
    obtain ⟨g2, h⟩ := h
    refine r_get (C := RX2) (T := TX2) (N := 2) (ci := 5) (fs := fl_4 ad ν ρ o1 (σ 4 o1)) hx hb hts hown hE hW 4 o1 g2 rfl rfl (fun w h => List.mem_cons_of_mem _ (List.mem_append_left _ (List.mem_append_right _ h))) 1 (by decide) (List.mem_of_getElem? (i := 1) rfl) rfl (v := .int (σ 4 o1 1)) rfl dX4_holdsAt_6 ?_
    refine lv_iadd hx hb dX4_holdsAt_9 ?_
    refine lv_aload_n hx hb dX4_holdsAt_10 rfl (lv_at hl 0 rfl) ?_
    obtain ⟨g3, h⟩ := h
    refine r_get (C := RX4) (T := TX4) (N := 3) (ci := 7) (fs := fl_2 ad ν ρ o0 (σ 2 o0)) hx hb hts hown hE hW 2 o0 g3 rfl rfl (fun w h => List.mem_cons_of_mem _ (List.mem_append_right _ h)) 0 (by decide) (List.mem_of_getElem? (i := 2) rfl) rfl (v := .ref (ad 20 o0)) rfl dX4_holdsAt_11 ?_
    refine r_alen hx hb hE hW 20 o0 g3 rfl 0 rfl (v := (12 : Int32)) rfl dX4_holdsAt_14 ?_
    refine r_icmp_le hx hb rfl (show (12 : Int32).toInt = 12 by decide) (tgt := 20) dX4_holdsAt_15 (by decide) (fun c4 => ?_) (fun c4 => ?_)
    · have h := ite_t c4 h
      refine lv_iconst (v := (0 : Int32)) hx hb dX4_holdsAt_20 (by decide) ?_
      refine lv_istore_n (lv' := [(3, .int ((0 : Int32))), (0, .ref (ad 2 o0)), (1, .ref (ad 4 o1)), (2, .int p2)]) hx hb dX4_holdsAt_21 rfl hl (by decide) rfl (fun ls hl => ?_)
      obtain ⟨n11, h⟩ := h
      exact tX4_holdsAt_22 (σ := σ) (ρ := ρ) X o0 o1 p2 post  n11 ((0 : Int32)) hW hS (lv_sub hl [1, 2, 3, 0] rfl) h
    · have h := ite_f c4 h
      refine lv_iconst (v := (0 : Int32)) hx hb dX4_holdsAt_18 (by decide) ?_
      exact W.zret (v := (0 : Int32)) (ty := .boolean) hx hb hr rfl (fun t ht _ => ⟨⟨_, (σ, ν, ρ, lo), rfl, ⟨rfl, h⟩, WP.at9 ht hW⟩, hS.F ht⟩) hS.2.2 dX4_holdsAt_19 (hlocks := hlocks)
set_option maxHeartbeats 4000000 in
set_option maxRecDepth 100000 in
theorem tX4_find_2 {p : Program} {l : Launch} {e : Env} {s : State} {m : MethodId} {args : Array Value} {below : List Frame} {meth : Method} {c : Code} {z : Nat} {G : Gl} {ad : Nat → Nat → Nat} {σ : SG} {ν : NU} {ρ : RH} {lo : Int64} (X : Cx p l e s m args below meth c cX4_find (some .int) 4 RX4 wsX4_find z G) (o0 : Nat) (o1 : Nat) (p2 : Int32)  (post : Int32 → Prop) : ∀ (n : Nat) (x3 : Int32) {H : Heap} {locs : List Loc} {ls : Array Slot}, WP z G ad (σ, ν, ρ, lo) H → va_S (Az z) s.heap H locs → lv_has ls 4 [(0, .ref (ad 2 o0)), (1, .ref (ad 4 o1)), (3, .int x3)] → wX4_find_2 o0 o1 p2 post n σ ν x3 → W p l e ({ frames := 1, cells := 0, slots := 0, locals := 23 } : Room) s m args below meth c H locs 0 0 (MQ below (Qis z G ad (fun r S1 => S1 = (σ, ν, ρ, lo) ∧ post r)) args s 0 0 (Az z)) (F0 m 2 ls []) := by
  obtain ⟨hx, hb, hr, hml, hown, hts, hlocks, hE, hz⟩ := id X
  intro n
  induction n with
  | zero =>
    intro x3 H locs ls hW hS hl h
    exact absurd h id
  | succ n ih =>
    intro x3 H locs ls hW hS hl h
    unfold wX4_find_2 at h
    refine lv_iload_n hx hb dX4_find_2 rfl (lv_at hl 2 rfl) ?_
    refine lv_aload_n hx hb dX4_find_3 rfl (lv_at hl 1 rfl) ?_
    obtain ⟨g1, h⟩ := h
    refine r_get (C := RX2) (T := TX2) (N := 2) (ci := 5) (fs := fl_4 ad ν ρ o1 (σ 4 o1)) hx hb hts hown hE hW 4 o1 g1 rfl rfl (fun w h => List.mem_cons_of_mem _ (List.mem_append_left _ (List.mem_append_right _ h))) 1 (by decide) (List.mem_of_getElem? (i := 1) rfl) rfl (v := .int (σ 4 o1 1)) rfl dX4_find_4 ?_
    refine lv_iadd hx hb dX4_find_7 ?_
    refine lv_aload_n hx hb dX4_find_8 rfl (lv_at hl 0 rfl) ?_
    obtain ⟨g2, h⟩ := h
    refine r_get (C := RX4) (T := TX4) (N := 3) (ci := 7) (fs := fl_2 ad ν ρ o0 (σ 2 o0)) hx hb hts hown hE hW 2 o0 g2 rfl rfl (fun w h => List.mem_cons_of_mem _ (List.mem_append_right _ h)) 2 (by decide) (List.mem_of_getElem? (i := 2) rfl) rfl (v := .int (σ 2 o0 2)) rfl dX4_find_9 ?_
    refine r_icmp_gt hx hb rfl rfl (tgt := 32) dX4_find_12 (by decide) (fun c3 => ?_) (fun c3 => ?_)
    · have h := ite_f c3 h
      refine lv_iconst (v := (-1 : Int32)) hx hb dX4_find_32 (by decide) ?_
      exact W.iret (v := (-1 : Int32)) hx hb hr (fun t ht _ => ⟨⟨_, (σ, ν, ρ, lo), rfl, ⟨rfl, h⟩, WP.at9 ht hW⟩, hS.F ht⟩) hS.2.2 dX4_find_33 (hlocks := hlocks)
    · have h := ite_t c3 h
      refine lv_aload_n hx hb dX4_find_15 rfl (lv_at hl 0 rfl) ?_
      refine lv_aload_n hx hb dX4_find_16 rfl (lv_at hl 1 rfl) ?_
      refine lv_iload_n hx hb dX4_find_17 rfl (lv_at hl 2 rfl) ?_
      refine k_Vi (rest := []) (As := [.ref (ad 4 o1), .int x3]) ⟨hx, hb, hml, hown, hts⟩ hE hz hS hW (mtX4_holdsAt l z G ad σ ν ρ lo o0 o1 x3 _ h) (cwV 2 hts gX4_find_X4_holdsAt rfl rfl rfl (by decide +kernel) ⟨Nat.le_of_ble_eq_true rfl, Nat.le_of_ble_eq_true rfl⟩) (r_recv hE hW 2 o0 g2 (ci := 7) rfl rfl) rfl hl.1 rfl (Nat.le_of_ble_eq_true rfl) dX4_find_18 ⟨Nat.le_of_ble_eq_true rfl, Nat.le_of_ble_eq_true rfl⟩ (fun r4 S1 H locs hp hW hS => ?_)
      obtain ⟨rfl, h⟩ := hp
      refine r_if_eq hx hb rfl (tgt := 26) dX4_find_21 (by decide) (fun c5 => ?_) (fun c5 => ?_)
      · have h := ite_t c5 h
        refine lv_iinc (v := x3 + (1 : Int32)) (lv' := [(3, .int (x3 + (1 : Int32))), (0, .ref (ad 2 o0)), (1, .ref (ad 4 o1))]) hx hb dX4_find_26 hl (k := 2) rfl rfl (by decide) rfl (fun ls hl => ?_)
        refine lv_goto (tgt := 2) hx hb dX4_find_29 (by decide) ?_
        exact ih (x3 + (1 : Int32)) hW hS (lv_sub hl [1, 2, 0] rfl) h
      · have h := ite_f c5 h
        refine lv_iload_n hx hb dX4_find_24 rfl (lv_at hl 2 rfl) ?_
        exact W.iret (v := x3) hx hb hr (fun t ht _ => ⟨⟨_, (σ, ν, ρ, lo), rfl, ⟨rfl, h⟩, WP.at9 ht hW⟩, hS.F ht⟩) hS.2.2 dX4_find_25 (hlocks := hlocks)
set_option maxHeartbeats 4000000 in
set_option maxRecDepth 100000 in
theorem mtX4_find (l : Launch) (z : Nat) (G : Gl) (ad : Nat → Nat → Nat) (σ : SG) (ν : NU) (ρ : RH) (lo : Int64) (o0 : Nat) (o1 : Nat) (p2 : Int32) (post : Int32 → Prop) (h : wpX4_find σ ν o0 o1 p2 post) : Met l yX4_find wsX4_find ({ frames := 1, cells := 0, slots := 0, locals := 23 } : Room) (Pcs z G ad (σ, ν, ρ, lo) [.ref (ad 2 o0), .ref (ad 4 o1), .int p2]) (Qis z G ad (fun r S1 => S1 = (σ, ν, ρ, lo) ∧ post r)) 0 0 (Az z) := by
  refine Met.ofW (cc := cX4_find) (maxL := 4) (ret := (some .int)) (by decide) rfl ?_
  intro p e s m args below meth c s₁ B hml hv
  obtain ⟨rfl, hz, hW, hE⟩ := hv
  have hx := B.exec
  have hb := B.bytes
  have hr := B.returns
  have hts := atoms_spec (ws := wsX4_find) B.pre
  have hown : s.vm.findClass RX4 = some m.cls := findClass_of_methodNamed B.named
  have hlocks := B.notSynchronized
  have X : Cx p l e s m _ below meth c cX4_find (some .int) 4 RX4 wsX4_find z G := ⟨hx, hb, hr, hml, hown, hts, hlocks, hE, hz⟩
  have hS : va_S (Az z) s.heap s.heap [] := va_S.rf
  have hl := lv_entry [.ref (ad 2 o0), .ref (ad 4 o1), .int p2] (n := 4) (Nat.le_of_ble_eq_true rfl)
  rw [lg_entry_eq]
  generalize (lg_sl [.ref (ad 2 o0), .ref (ad 4 o1), .int p2] ++ List.replicate (4 - (lg_sl [.ref (ad 2 o0), .ref (ad 4 o1), .int p2]).length) Slot.unset).toArray = ls at hl ⊢
  have hl : lv_has ls 4 [(0, .ref (ad 2 o0)), (1, .ref (ad 4 o1)), (2, .int p2)] := hl
  unfold wpX4_find at h
  refine lv_iload_n hx hb dX4_find_0 rfl (lv_at hl 2 rfl) ?_
  refine lv_istore_n (lv' := [(3, .int p2), (0, .ref (ad 2 o0)), (1, .ref (ad 4 o1)), (2, .int p2)]) hx hb dX4_find_1 rfl hl (by decide) rfl (fun ls hl => ?_)
  obtain ⟨n6, h⟩ := h
  exact tX4_find_2 (σ := σ) (ρ := ρ) X o0 o1 p2 post  n6 p2 hW hS (lv_sub hl [1, 2, 0] rfl) h
set_option maxHeartbeats 4000000 in
set_option maxRecDepth 100000 in
theorem mtX4_insert (l : Launch) (z : Nat) (G : Gl) (ad : Nat → Nat → Nat) (σ : SG) (ν : NU) (ρ : RH) (lo : Int64) (o0 : Nat) (o1 : Nat) (o2 : Nat) (p3 : Int32) (post : Int32 → SG → Prop) (h : wpX4_insert σ ν o0 o1 o2 p3 post) : Met l yX4_insert wsX4_insert ({ frames := 2, cells := 0, slots := 0, locals := 57 } : Room) (Pcs z G ad (σ, ν, ρ, lo) [.ref (ad 2 o0), .ref (ad 4 o1), .ref (ad 4 o2), .int p3]) (Qis z G ad (fun r S1 => ∃ t : SG, S1 = (t, ν, ρ, lo) ∧ post r t)) 0 0 (Az z) := by
  refine Met.ofW (cc := cX4_insert) (maxL := 5) (ret := (some .boolean)) (by decide) rfl ?_
  intro p e s m args below meth c s₁ B hml hv
  obtain ⟨rfl, hz, hW, hE⟩ := hv
  have hx := B.exec
  have hb := B.bytes
  have hr := B.returns
  have hts := atoms_spec (ws := wsX4_insert) B.pre
  have hown : s.vm.findClass RX4 = some m.cls := findClass_of_methodNamed B.named
  have hlocks := B.notSynchronized
  have X : Cx p l e s m _ below meth c cX4_insert (some .boolean) 5 RX4 wsX4_insert z G := ⟨hx, hb, hr, hml, hown, hts, hlocks, hE, hz⟩
  have hS : va_S (Az z) s.heap s.heap [] := va_S.rf
  have hl := lv_entry [.ref (ad 2 o0), .ref (ad 4 o1), .ref (ad 4 o2), .int p3] (n := 5) (Nat.le_of_ble_eq_true rfl)
  rw [lg_entry_eq]
  generalize (lg_sl [.ref (ad 2 o0), .ref (ad 4 o1), .ref (ad 4 o2), .int p3] ++ List.replicate (5 - (lg_sl [.ref (ad 2 o0), .ref (ad 4 o1), .ref (ad 4 o2), .int p3]).length) Slot.unset).toArray = ls at hl ⊢
  have hl : lv_has ls 5 [(0, .ref (ad 2 o0)), (1, .ref (ad 4 o1)), (2, .ref (ad 4 o2)), (3, .int p3)] := hl
  unfold wpX4_insert at h
  refine lv_aload_n hx hb dX4_insert_0 rfl (lv_at hl 1 rfl) ?_
  obtain ⟨g1, h⟩ := h
  refine r_get (C := RX2) (T := TX2) (N := 2) (ci := 5) (fs := fl_4 ad ν ρ o1 (σ 4 o1)) hx hb hts hown hE hW 4 o1 g1 rfl rfl (fun w h => List.mem_cons_of_mem _ (List.mem_append_left _ (List.mem_append_right _ h))) 1 (by decide) (List.mem_of_getElem? (i := 1) rfl) rfl (v := .int (σ 4 o1 1)) rfl dX4_insert_1 ?_
  refine r_if_ne hx hb rfl (tgt := 19) dX4_insert_4 (by decide) (fun c2 => ?_) (fun c2 => ?_)
  · have h := ite_f c2 h
    refine lv_aload_n hx hb dX4_insert_19 rfl (lv_at hl 0 rfl) ?_
    refine lv_aload_n hx hb dX4_insert_20 rfl (lv_at hl 1 rfl) ?_
    refine lv_iconst (v := (0 : Int32)) hx hb dX4_insert_21 (by decide) ?_
    obtain ⟨g3, h⟩ := h
    refine k_Vi (rest := []) (As := [.ref (ad 4 o1), .int ((0 : Int32))]) ⟨hx, hb, hml, hown, hts⟩ hE hz hS hW (mtX4_find l z G ad σ ν ρ lo o0 o1 ((0 : Int32)) _ h) (cwV 2 hts gX4_insert_X4_find rfl rfl rfl (by decide +kernel) ⟨Nat.le_of_ble_eq_true rfl, Nat.le_of_ble_eq_true rfl⟩) (r_recv hE hW 2 o0 g3 (ci := 7) rfl rfl) rfl hl.1 rfl (Nat.le_of_ble_eq_true rfl) dX4_insert_22 ⟨Nat.le_of_ble_eq_true rfl, Nat.le_of_ble_eq_true rfl⟩ (fun r4 S1 H locs hp hW hS => ?_)
    obtain ⟨rfl, h⟩ := hp
    refine lv_istore (lv' := [(4, .int r4), (0, .ref (ad 2 o0)), (1, .ref (ad 4 o1)), (2, .ref (ad 4 o2)), (3, .int p3)]) hx hb dX4_insert_25 hl (by decide) rfl (fun ls hl => ?_)
    refine lv_iload hx hb dX4_insert_27 (lv_at hl 0 rfl) ?_
    refine lv_iconst (v := (-1 : Int32)) hx hb dX4_insert_29 (by decide) ?_
    refine r_icmp_eq hx hb rfl (show (-1 : Int32).toInt = (-1) by decide) (tgt := 54) dX4_insert_30 (by decide) (fun c5 => ?_) (fun c5 => ?_)
    · have h := ite_t c5 h
      refine lv_iconst (v := (0 : Int32)) hx hb dX4_insert_54 (by decide) ?_
      exact W.zret (v := (0 : Int32)) (ty := .boolean) hx hb hr rfl (fun t ht _ => ⟨⟨_, (σ, ν, ρ, lo), rfl, ⟨_, rfl, h⟩, WP.at9 ht hW⟩, hS.F ht⟩) hS.2.2 dX4_insert_55 (hlocks := hlocks)
    · have h := ite_f c5 h
      refine lv_aload_n hx hb dX4_insert_33 rfl (lv_at hl 1 rfl) ?_
      refine lv_iload hx hb dX4_insert_34 (lv_at hl 0 rfl) ?_
      refine lv_aload_n hx hb dX4_insert_36 rfl (lv_at hl 2 rfl) ?_
      refine r_get (C := RX2) (T := TX2) (N := 2) (ci := 5) (fs := fl_4 ad ν ρ o1 (σ 4 o1)) hx hb hts hown hE hW 4 o1 g1 rfl rfl (fun w h => List.mem_cons_of_mem _ (List.mem_append_left _ (List.mem_append_right _ h))) 1 (by decide) (List.mem_of_getElem? (i := 1) rfl) rfl (v := .int (σ 4 o1 1)) rfl dX4_insert_37 ?_
      refine lv_iadd hx hb dX4_insert_40 ?_
      refine lv_iconst (v := (0 : Int32)) hx hb dX4_insert_41 (by decide) ?_
      refine lv_aload_n hx hb dX4_insert_42 rfl (lv_at hl 3 rfl) ?_
      refine lv_iload_n hx hb dX4_insert_43 rfl (lv_at hl 4 rfl) ?_
      refine k_Vi (rest := []) (As := [.int (r4 + (σ 4 o1 1)), .int ((0 : Int32)), .ref (ad 4 o2), .int p3]) ⟨hx, hb, hml, hown, hts⟩ hE hz hS hW (mtX4_splice l z G ad σ ν ρ lo o0 (r4 + (σ 4 o1 1)) ((0 : Int32)) o2 p3 _ h) (cwV 4 hts gX4_insert_X4_splice rfl rfl rfl (by decide +kernel) ⟨Nat.le_of_ble_eq_true rfl, Nat.le_of_ble_eq_true rfl⟩) (r_recv hE hW 2 o0 g3 (ci := 7) rfl rfl) rfl hl.1 rfl (Nat.le_of_ble_eq_true rfl) dX4_insert_44 ⟨Nat.le_of_ble_eq_true rfl, Nat.le_of_ble_eq_true rfl⟩ (fun r6 S1 H locs hp hW hS => ?_)
      obtain ⟨t7, rfl, h⟩ := hp
      refine r_if_eq hx hb rfl (tgt := 54) dX4_insert_47 (by decide) (fun c8 => ?_) (fun c8 => ?_)
      · have h := ite_t c8 h
        refine lv_iconst (v := (0 : Int32)) hx hb dX4_insert_54 (by decide) ?_
        exact W.zret (v := (0 : Int32)) (ty := .boolean) hx hb hr rfl (fun t ht _ => ⟨⟨_, (t7, ν, ρ, lo), rfl, ⟨_, rfl, h⟩, WP.at9 ht hW⟩, hS.F ht⟩) hS.2.2 dX4_insert_55 (hlocks := hlocks)
      · have h := ite_f c8 h
        refine lv_iconst (v := (1 : Int32)) hx hb dX4_insert_50 (by decide) ?_
        refine lv_goto (tgt := 55) hx hb dX4_insert_51 (by decide) ?_
        exact W.zret (v := (1 : Int32)) (ty := .boolean) hx hb hr rfl (fun t ht _ => ⟨⟨_, (t7, ν, ρ, lo), rfl, ⟨_, rfl, h⟩, WP.at9 ht hW⟩, hS.F ht⟩) hS.2.2 dX4_insert_55 (hlocks := hlocks)
  · have h := ite_t c2 h
    refine lv_aload_n hx hb dX4_insert_7 rfl (lv_at hl 0 rfl) ?_
    refine lv_aload_n hx hb dX4_insert_8 rfl (lv_at hl 0 rfl) ?_
    obtain ⟨g9, h⟩ := h
    refine r_get (C := RX4) (T := TX4) (N := 3) (ci := 7) (fs := fl_2 ad ν ρ o0 (σ 2 o0)) hx hb hts hown hE hW 2 o0 g9 rfl rfl (fun w h => List.mem_cons_of_mem _ (List.mem_append_right _ h)) 2 (by decide) (List.mem_of_getElem? (i := 2) rfl) rfl (v := .int (σ 2 o0 2)) rfl dX4_insert_9 ?_
    refine lv_iconst (v := (0 : Int32)) hx hb dX4_insert_12 (by decide) ?_
    refine lv_aload_n hx hb dX4_insert_13 rfl (lv_at hl 2 rfl) ?_
    refine lv_iload_n hx hb dX4_insert_14 rfl (lv_at hl 3 rfl) ?_
    refine k_Vi (rest := []) (As := [.int (σ 2 o0 2), .int ((0 : Int32)), .ref (ad 4 o2), .int p3]) ⟨hx, hb, hml, hown, hts⟩ hE hz hS hW (mtX4_splice l z G ad σ ν ρ lo o0 (σ 2 o0 2) ((0 : Int32)) o2 p3 _ h) (cwV 4 hts gX4_insert_X4_splice rfl rfl rfl (by decide +kernel) ⟨Nat.le_of_ble_eq_true rfl, Nat.le_of_ble_eq_true rfl⟩) (r_recv hE hW 2 o0 g9 (ci := 7) rfl rfl) rfl hl.1 rfl (Nat.le_of_ble_eq_true rfl) dX4_insert_15 ⟨Nat.le_of_ble_eq_true rfl, Nat.le_of_ble_eq_true rfl⟩ (fun r10 S1 H locs hp hW hS => ?_)
    obtain ⟨t11, rfl, h⟩ := hp
    obtain ⟨g12, h⟩ := h
    exact W.zret (v := r10) (ty := .boolean) hx hb hr (narrow_bo g12) (fun t ht _ => ⟨⟨_, (t11, ν, ρ, lo), rfl, ⟨_, rfl, h⟩, WP.at9 ht hW⟩, hS.F ht⟩) hS.2.2 dX4_insert_18 (hlocks := hlocks)
set_option maxHeartbeats 4000000 in
set_option maxRecDepth 100000 in
theorem tX4_substitute_85 {p : Program} {l : Launch} {e : Env} {s : State} {m : MethodId} {args : Array Value} {below : List Frame} {meth : Method} {c : Code} {z : Nat} {G : Gl} {ad : Nat → Nat → Nat} {σ : SG} {ν : NU} {ρ : RH} {lo : Int64} (X : Cx p l e s m args below meth c cX4_substitute (some .boolean) 8 RX4 wsX4_substitute z G) (o0 : Nat) (o1 : Nat) (o2 : Nat) (p3 : Int32)  (post : Int32 → SG → Prop) : ∀ (n : Nat) (a1 : SG) (x4 : Int32) (x6 : Int32) (x7 : Int32) {H : Heap} {locs : List Loc} {ls : Array Slot}, WP z G ad (a1, ν, ρ, lo) H → va_S (Az z) s.heap H locs → lv_has ls 8 [(0, .ref (ad 2 o0)), (1, .ref (ad 4 o1)), (2, .ref (ad 4 o2)), (3, .int p3), (4, .int x4), (6, .int x6), (7, .int x7)] → wX4_substitute_85 o0 o1 o2 p3 post n a1 ν x4 x6 x7 → W p l e ({ frames := 2, cells := 0, slots := 0, locals := 57 } : Room) s m args below meth c H locs 0 0 (MQ below (Qis z G ad (fun r S1 => ∃ t : SG, S1 = (t, ν, ρ, lo) ∧ post r t)) args s 0 0 (Az z)) (F0 m 85 ls []) := by
  obtain ⟨hx, hb, hr, hml, hown, hts, hlocks, hE, hz⟩ := id X
  intro n
  induction n with
  | zero =>
    intro a1 x4 x6 x7 H locs ls hW hS hl h
    exact absurd h id
  | succ n ih =>
    intro a1 x4 x6 x7 H locs ls hW hS hl h
    unfold wX4_substitute_85 at h
    refine lv_iload hx hb dX4_substitute_85 (lv_at hl 6 rfl) ?_
    refine lv_iload hx hb dX4_substitute_87 (lv_at hl 4 rfl) ?_
    refine r_icmp_ge hx hb rfl rfl (tgt := 129) dX4_substitute_89 (by decide) (fun c9 => ?_) (fun c9 => ?_)
    · have h := ite_f c9 h
      refine lv_iconst (v := (1 : Int32)) hx hb dX4_substitute_129 (by decide) ?_
      exact W.zret (v := (1 : Int32)) (ty := .boolean) hx hb hr rfl (fun t ht _ => ⟨⟨_, (a1, ν, ρ, lo), rfl, ⟨_, rfl, h⟩, WP.at9 ht hW⟩, hS.F ht⟩) hS.2.2 dX4_substitute_130 (hlocks := hlocks)
    · have h := ite_t c9 h
      refine lv_aload_n hx hb dX4_substitute_92 rfl (lv_at hl 0 rfl) ?_
      refine lv_aload_n hx hb dX4_substitute_93 rfl (lv_at hl 1 rfl) ?_
      refine lv_iload hx hb dX4_substitute_94 (lv_at hl 5 rfl) ?_
      obtain ⟨g10, h⟩ := h
      refine k_Vi (rest := []) (As := [.ref (ad 4 o1), .int x6]) ⟨hx, hb, hml, hown, hts⟩ hE hz hS hW (mtX4_find l z G ad a1 ν ρ lo o0 o1 x6 _ h) (cwV 2 hts gX4_substitute_X4_find rfl rfl rfl (by decide +kernel) ⟨Nat.le_of_ble_eq_true rfl, Nat.le_of_ble_eq_true rfl⟩) (r_recv hE hW 2 o0 g10 (ci := 7) rfl rfl) rfl hl.1 rfl (Nat.le_of_ble_eq_true rfl) dX4_substitute_96 ⟨Nat.le_of_ble_eq_true rfl, Nat.le_of_ble_eq_true rfl⟩ (fun r11 S1 H locs hp hW hS => ?_)
      obtain ⟨rfl, h⟩ := hp
      refine lv_istore (lv' := [(5, .int r11), (0, .ref (ad 2 o0)), (1, .ref (ad 4 o1)), (2, .ref (ad 4 o2)), (3, .int p3), (4, .int x4), (6, .int x6), (7, .int x7)]) hx hb dX4_substitute_99 hl (by decide) rfl (fun ls hl => ?_)
      refine lv_aload_n hx hb dX4_substitute_101 rfl (lv_at hl 1 rfl) ?_
      refine lv_iload hx hb dX4_substitute_102 (lv_at hl 0 rfl) ?_
      refine lv_aload_n hx hb dX4_substitute_104 rfl (lv_at hl 2 rfl) ?_
      obtain ⟨g12, h⟩ := h
      refine r_get (C := RX2) (T := TX2) (N := 2) (ci := 5) (fs := fl_4 ad ν ρ o1 (a1 4 o1)) hx hb hts hown hE hW 4 o1 g12 rfl rfl (fun w h => List.mem_cons_of_mem _ (List.mem_append_left _ (List.mem_append_right _ h))) 1 (by decide) (List.mem_of_getElem? (i := 1) rfl) rfl (v := .int (a1 4 o1 1)) rfl dX4_substitute_105 ?_
      refine lv_aload_n hx hb dX4_substitute_108 rfl (lv_at hl 3 rfl) ?_
      refine lv_iload_n hx hb dX4_substitute_109 rfl (lv_at hl 4 rfl) ?_
      refine k_Vi (rest := []) (As := [.int r11, .int (a1 4 o1 1), .ref (ad 4 o2), .int p3]) ⟨hx, hb, hml, hown, hts⟩ hE hz hS hW (mtX4_splice l z G ad a1 ν ρ lo o0 r11 (a1 4 o1 1) o2 p3 _ h) (cwV 4 hts gX4_substitute_X4_splice rfl rfl rfl (by decide +kernel) ⟨Nat.le_of_ble_eq_true rfl, Nat.le_of_ble_eq_true rfl⟩) (r_recv hE hW 2 o0 g10 (ci := 7) rfl rfl) rfl hl.1 rfl (Nat.le_of_ble_eq_true rfl) dX4_substitute_110 ⟨Nat.le_of_ble_eq_true rfl, Nat.le_of_ble_eq_true rfl⟩ (fun r13 S1 H locs hp hW hS => ?_)
      obtain ⟨t14, rfl, h⟩ := hp
      refine lv_pop hx hb dX4_substitute_113 rfl ?_
      refine lv_iload hx hb dX4_substitute_114 (lv_at hl 0 rfl) ?_
      refine lv_aload_n hx hb dX4_substitute_116 rfl (lv_at hl 3 rfl) ?_
      obtain ⟨g15, h⟩ := h
      refine r_get (C := RX2) (T := TX2) (N := 2) (ci := 5) (fs := fl_4 ad ν ρ o2 (t14 4 o2)) hx hb hts hown hE hW 4 o2 g15 rfl rfl (fun w h => List.mem_cons_of_mem _ (List.mem_append_left _ (List.mem_append_right _ h))) 1 (by decide) (List.mem_of_getElem? (i := 1) rfl) rfl (v := .int (t14 4 o2 1)) rfl dX4_substitute_117 ?_
      refine lv_iadd hx hb dX4_substitute_120 ?_
      refine lv_istore (lv' := [(6, .int (r11 + (t14 4 o2 1))), (5, .int r11), (0, .ref (ad 2 o0)), (1, .ref (ad 4 o1)), (2, .ref (ad 4 o2)), (3, .int p3), (4, .int x4), (7, .int x7)]) hx hb dX4_substitute_121 hl (by decide) rfl (fun ls hl => ?_)
      refine lv_iinc (v := x7 + (1 : Int32)) (lv' := [(7, .int (x7 + (1 : Int32))), (6, .int (r11 + (t14 4 o2 1))), (5, .int r11), (0, .ref (ad 2 o0)), (1, .ref (ad 4 o1)), (2, .ref (ad 4 o2)), (3, .int p3), (4, .int x4)]) hx hb dX4_substitute_123 hl (k := 7) rfl rfl (by decide) rfl (fun ls hl => ?_)
      refine lv_goto (tgt := 85) hx hb dX4_substitute_126 (by decide) ?_
      exact ih t14 x4 (r11 + (t14 4 o2 1)) (x7 + (1 : Int32)) hW hS (lv_sub hl [3, 4, 5, 6, 7, 1, 0] rfl) h
set_option maxHeartbeats 4000000 in
set_option maxRecDepth 100000 in
theorem tX4_substitute_50 {p : Program} {l : Launch} {e : Env} {s : State} {m : MethodId} {args : Array Value} {below : List Frame} {meth : Method} {c : Code} {z : Nat} {G : Gl} {ad : Nat → Nat → Nat} {σ : SG} {ν : NU} {ρ : RH} {lo : Int64} (X : Cx p l e s m args below meth c cX4_substitute (some .boolean) 8 RX4 wsX4_substitute z G) (o0 : Nat) (o1 : Nat) (o2 : Nat) (p3 : Int32)  (post : Int32 → SG → Prop) : ∀ (a1 : SG) (x4 : Int32) {H : Heap} {locs : List Loc} {ls : Array Slot}, WP z G ad (a1, ν, ρ, lo) H → va_S (Az z) s.heap H locs → lv_has ls 8 [(0, .ref (ad 2 o0)), (1, .ref (ad 4 o1)), (2, .ref (ad 4 o2)), (3, .int p3), (4, .int x4)] → jX4_substitute_50 o0 o1 o2 p3 post a1 ν x4 → W p l e ({ frames := 2, cells := 0, slots := 0, locals := 57 } : Room) s m args below meth c H locs 0 0 (MQ below (Qis z G ad (fun r S1 => ∃ t : SG, S1 = (t, ν, ρ, lo) ∧ post r t)) args s 0 0 (Az z)) (F0 m 50 ls []) := by
  obtain ⟨hx, hb, hr, hml, hown, hts, hlocks, hE, hz⟩ := id X
  intro a1 x4 H locs ls hW hS hl h
  unfold jX4_substitute_50 at h
  refine lv_iload hx hb dX4_substitute_50 (lv_at hl 4 rfl) ?_
  refine r_if_eq hx hb rfl (tgt := 77) dX4_substitute_52 (by decide) (fun c4 => ?_) (fun c4 => ?_)
  · have h := ite_t c4 h
    refine lv_iconst (v := (0 : Int32)) hx hb dX4_substitute_77 (by decide) ?_
    exact W.zret (v := (0 : Int32)) (ty := .boolean) hx hb hr rfl (fun t ht _ => ⟨⟨_, (a1, ν, ρ, lo), rfl, ⟨_, rfl, h⟩, WP.at9 ht hW⟩, hS.F ht⟩) hS.2.2 dX4_substitute_78 (hlocks := hlocks)
  · have h := ite_f c4 h
    refine lv_aload_n hx hb dX4_substitute_55 rfl (lv_at hl 0 rfl) ?_
    obtain ⟨g5, h⟩ := h
    refine r_get (C := RX4) (T := TX4) (N := 3) (ci := 7) (fs := fl_2 ad ν ρ o0 (a1 2 o0)) hx hb hts hown hE hW 2 o0 g5 rfl rfl (fun w h => List.mem_cons_of_mem _ (List.mem_append_right _ h)) 2 (by decide) (List.mem_of_getElem? (i := 2) rfl) rfl (v := .int (a1 2 o0 2)) rfl dX4_substitute_56 ?_
    refine lv_iload hx hb dX4_substitute_59 (lv_at hl 4 rfl) ?_
    refine lv_aload_n hx hb dX4_substitute_61 rfl (lv_at hl 2 rfl) ?_
    obtain ⟨g6, h⟩ := h
    refine r_get (C := RX2) (T := TX2) (N := 2) (ci := 5) (fs := fl_4 ad ν ρ o2 (a1 4 o2)) hx hb hts hown hE hW 4 o2 g6 rfl rfl (fun w h => List.mem_cons_of_mem _ (List.mem_append_left _ (List.mem_append_right _ h))) 1 (by decide) (List.mem_of_getElem? (i := 1) rfl) rfl (v := .int (a1 4 o2 1)) rfl dX4_substitute_62 ?_
    refine lv_aload_n hx hb dX4_substitute_65 rfl (lv_at hl 1 rfl) ?_
    obtain ⟨g7, h⟩ := h
    refine r_get (C := RX2) (T := TX2) (N := 2) (ci := 5) (fs := fl_4 ad ν ρ o1 (a1 4 o1)) hx hb hts hown hE hW 4 o1 g7 rfl rfl (fun w h => List.mem_cons_of_mem _ (List.mem_append_left _ (List.mem_append_right _ h))) 1 (by decide) (List.mem_of_getElem? (i := 1) rfl) rfl (v := .int (a1 4 o1 1)) rfl dX4_substitute_66 ?_
    refine lv_isub hx hb dX4_substitute_69 ?_
    refine lv_imul hx hb dX4_substitute_70 ?_
    refine lv_iadd hx hb dX4_substitute_71 ?_
    refine lv_bipush (v := (12 : Int32)) hx hb dX4_substitute_72 (by decide) ?_
    refine r_icmp_le hx hb rfl (show (12 : Int32).toInt = 12 by decide) (tgt := 79) dX4_substitute_74 (by decide) (fun c8 => ?_) (fun c8 => ?_)
    · have h := ite_t c8 h
      refine lv_iconst (v := (0 : Int32)) hx hb dX4_substitute_79 (by decide) ?_
      refine lv_istore (lv' := [(6, .int ((0 : Int32))), (0, .ref (ad 2 o0)), (1, .ref (ad 4 o1)), (2, .ref (ad 4 o2)), (3, .int p3), (4, .int x4)]) hx hb dX4_substitute_80 hl (by decide) rfl (fun ls hl => ?_)
      refine lv_iconst (v := (0 : Int32)) hx hb dX4_substitute_82 (by decide) ?_
      refine lv_istore (lv' := [(7, .int ((0 : Int32))), (6, .int ((0 : Int32))), (0, .ref (ad 2 o0)), (1, .ref (ad 4 o1)), (2, .ref (ad 4 o2)), (3, .int p3), (4, .int x4)]) hx hb dX4_substitute_83 hl (by decide) rfl (fun ls hl => ?_)
      obtain ⟨n16, h⟩ := h
      exact tX4_substitute_85 (σ := σ) (ρ := ρ) X o0 o1 o2 p3 post  n16 a1 x4 ((0 : Int32)) ((0 : Int32)) hW hS (lv_sub hl [2, 3, 4, 5, 6, 1, 0] rfl) h
    · have h := ite_f c8 h
      refine lv_iconst (v := (0 : Int32)) hx hb dX4_substitute_77 (by decide) ?_
      exact W.zret (v := (0 : Int32)) (ty := .boolean) hx hb hr rfl (fun t ht _ => ⟨⟨_, (a1, ν, ρ, lo), rfl, ⟨_, rfl, h⟩, WP.at9 ht hW⟩, hS.F ht⟩) hS.2.2 dX4_substitute_78 (hlocks := hlocks)
set_option maxHeartbeats 4000000 in
set_option maxRecDepth 100000 in
theorem tX4_substitute_14 {p : Program} {l : Launch} {e : Env} {s : State} {m : MethodId} {args : Array Value} {below : List Frame} {meth : Method} {c : Code} {z : Nat} {G : Gl} {ad : Nat → Nat → Nat} {σ : SG} {ν : NU} {ρ : RH} {lo : Int64} (X : Cx p l e s m args below meth c cX4_substitute (some .boolean) 8 RX4 wsX4_substitute z G) (o0 : Nat) (o1 : Nat) (o2 : Nat) (p3 : Int32)  (post : Int32 → SG → Prop) : ∀ (n : Nat) (a1 : SG) (x4 : Int32) (x5 : Int32) (x6 : Int32) {H : Heap} {locs : List Loc} {ls : Array Slot}, WP z G ad (a1, ν, ρ, lo) H → va_S (Az z) s.heap H locs → lv_has ls 8 [(0, .ref (ad 2 o0)), (1, .ref (ad 4 o1)), (2, .ref (ad 4 o2)), (3, .int p3), (4, .int x4), (5, .int x5), (6, .int x6)] → wX4_substitute_14 o0 o1 o2 p3 post n a1 ν x4 x5 x6 → W p l e ({ frames := 2, cells := 0, slots := 0, locals := 57 } : Room) s m args below meth c H locs 0 0 (MQ below (Qis z G ad (fun r S1 => ∃ t : SG, S1 = (t, ν, ρ, lo) ∧ post r t)) args s 0 0 (Az z)) (F0 m 14 ls []) := by
  obtain ⟨hx, hb, hr, hml, hown, hts, hlocks, hE, hz⟩ := id X
  intro n
  induction n with
  | zero =>
    intro a1 x4 x5 x6 H locs ls hW hS hl h
    exact absurd h id
  | succ n ih =>
    intro a1 x4 x5 x6 H locs ls hW hS hl h
    unfold wX4_substitute_14 at h
    refine lv_iload hx hb dX4_substitute_14 (lv_at hl 6 rfl) ?_
    refine lv_bipush (v := (12 : Int32)) hx hb dX4_substitute_16 (by decide) ?_
    refine r_icmp_ge hx hb rfl (show (12 : Int32).toInt = 12 by decide) (tgt := 50) dX4_substitute_18 (by decide) (fun c3 => ?_) (fun c3 => ?_)
    · have h := ite_f c3 h
      exact tX4_substitute_50 (σ := σ) (ρ := ρ) X o0 o1 o2 p3 post  a1 x4 hW hS (lv_sub hl [0, 1, 2, 3, 4] rfl) h
    · have h := ite_t c3 h
      refine lv_iload hx hb dX4_substitute_21 (lv_at hl 5 rfl) ?_
      refine lv_iconst (v := (-1 : Int32)) hx hb dX4_substitute_23 (by decide) ?_
      refine r_icmp_eq hx hb rfl (show (-1 : Int32).toInt = (-1) by decide) (tgt := 50) dX4_substitute_24 (by decide) (fun c17 => ?_) (fun c17 => ?_)
      · have h := ite_t c17 h
        exact tX4_substitute_50 (σ := σ) (ρ := ρ) X o0 o1 o2 p3 post  a1 x4 hW hS (lv_sub hl [0, 1, 2, 3, 4] rfl) h
      · have h := ite_f c17 h
        refine lv_iinc (v := x4 + (1 : Int32)) (lv' := [(4, .int (x4 + (1 : Int32))), (0, .ref (ad 2 o0)), (1, .ref (ad 4 o1)), (2, .ref (ad 4 o2)), (3, .int p3), (5, .int x5), (6, .int x6)]) hx hb dX4_substitute_27 hl (k := 4) rfl rfl (by decide) rfl (fun ls hl => ?_)
        refine lv_aload_n hx hb dX4_substitute_30 rfl (lv_at hl 1 rfl) ?_
        refine lv_aload_n hx hb dX4_substitute_31 rfl (lv_at hl 2 rfl) ?_
        refine lv_iload hx hb dX4_substitute_32 (lv_at hl 5 rfl) ?_
        refine lv_aload_n hx hb dX4_substitute_34 rfl (lv_at hl 2 rfl) ?_
        obtain ⟨g18, h⟩ := h
        refine r_get (C := RX2) (T := TX2) (N := 2) (ci := 5) (fs := fl_4 ad ν ρ o1 (a1 4 o1)) hx hb hts hown hE hW 4 o1 g18 rfl rfl (fun w h => List.mem_cons_of_mem _ (List.mem_append_left _ (List.mem_append_right _ h))) 1 (by decide) (List.mem_of_getElem? (i := 1) rfl) rfl (v := .int (a1 4 o1 1)) rfl dX4_substitute_35 ?_
        refine lv_iadd hx hb dX4_substitute_38 ?_
        obtain ⟨g19, h⟩ := h
        refine k_Vi (rest := []) (As := [.ref (ad 4 o1), .int (x5 + (a1 4 o1 1))]) ⟨hx, hb, hml, hown, hts⟩ hE hz hS hW (mtX4_find l z G ad a1 ν ρ lo o0 o1 (x5 + (a1 4 o1 1)) _ h) (cwV 2 hts gX4_substitute_X4_find rfl rfl rfl (by decide +kernel) ⟨Nat.le_of_ble_eq_true rfl, Nat.le_of_ble_eq_true rfl⟩) (r_recv hE hW 2 o0 g19 (ci := 7) rfl rfl) rfl hl.1 rfl (Nat.le_of_ble_eq_true rfl) dX4_substitute_39 ⟨Nat.le_of_ble_eq_true rfl, Nat.le_of_ble_eq_true rfl⟩ (fun r20 S1 H locs hp hW hS => ?_)
        obtain ⟨rfl, h⟩ := hp
        refine lv_istore (lv' := [(5, .int r20), (4, .int (x4 + (1 : Int32))), (0, .ref (ad 2 o0)), (1, .ref (ad 4 o1)), (2, .ref (ad 4 o2)), (3, .int p3), (6, .int x6)]) hx hb dX4_substitute_42 hl (by decide) rfl (fun ls hl => ?_)
        refine lv_iinc (v := x6 + (1 : Int32)) (lv' := [(6, .int (x6 + (1 : Int32))), (5, .int r20), (4, .int (x4 + (1 : Int32))), (0, .ref (ad 2 o0)), (1, .ref (ad 4 o1)), (2, .ref (ad 4 o2)), (3, .int p3)]) hx hb dX4_substitute_44 hl (k := 6) rfl rfl (by decide) rfl (fun ls hl => ?_)
        refine lv_goto (tgt := 14) hx hb dX4_substitute_47 (by decide) ?_
        exact ih a1 (x4 + (1 : Int32)) r20 (x6 + (1 : Int32)) hW hS (lv_sub hl [3, 4, 5, 6, 2, 1, 0] rfl) h
set_option maxHeartbeats 4000000 in
set_option maxRecDepth 100000 in
theorem mtX4_substitute (l : Launch) (z : Nat) (G : Gl) (ad : Nat → Nat → Nat) (σ : SG) (ν : NU) (ρ : RH) (lo : Int64) (o0 : Nat) (o1 : Nat) (o2 : Nat) (p3 : Int32) (post : Int32 → SG → Prop) (h : wpX4_substitute σ ν o0 o1 o2 p3 post) : Met l yX4_substitute wsX4_substitute ({ frames := 2, cells := 0, slots := 0, locals := 57 } : Room) (Pcs z G ad (σ, ν, ρ, lo) [.ref (ad 2 o0), .ref (ad 4 o1), .ref (ad 4 o2), .int p3]) (Qis z G ad (fun r S1 => ∃ t : SG, S1 = (t, ν, ρ, lo) ∧ post r t)) 0 0 (Az z) := by
  refine Met.ofW (cc := cX4_substitute) (maxL := 8) (ret := (some .boolean)) (by decide) rfl ?_
  intro p e s m args below meth c s₁ B hml hv
  obtain ⟨rfl, hz, hW, hE⟩ := hv
  have hx := B.exec
  have hb := B.bytes
  have hr := B.returns
  have hts := atoms_spec (ws := wsX4_substitute) B.pre
  have hown : s.vm.findClass RX4 = some m.cls := findClass_of_methodNamed B.named
  have hlocks := B.notSynchronized
  have X : Cx p l e s m _ below meth c cX4_substitute (some .boolean) 8 RX4 wsX4_substitute z G := ⟨hx, hb, hr, hml, hown, hts, hlocks, hE, hz⟩
  have hS : va_S (Az z) s.heap s.heap [] := va_S.rf
  have hl := lv_entry [.ref (ad 2 o0), .ref (ad 4 o1), .ref (ad 4 o2), .int p3] (n := 8) (Nat.le_of_ble_eq_true rfl)
  rw [lg_entry_eq]
  generalize (lg_sl [.ref (ad 2 o0), .ref (ad 4 o1), .ref (ad 4 o2), .int p3] ++ List.replicate (8 - (lg_sl [.ref (ad 2 o0), .ref (ad 4 o1), .ref (ad 4 o2), .int p3]).length) Slot.unset).toArray = ls at hl ⊢
  have hl : lv_has ls 8 [(0, .ref (ad 2 o0)), (1, .ref (ad 4 o1)), (2, .ref (ad 4 o2)), (3, .int p3)] := hl
  unfold wpX4_substitute at h
  refine lv_iconst (v := (0 : Int32)) hx hb dX4_substitute_0 (by decide) ?_
  refine lv_istore (lv' := [(4, .int ((0 : Int32))), (0, .ref (ad 2 o0)), (1, .ref (ad 4 o1)), (2, .ref (ad 4 o2)), (3, .int p3)]) hx hb dX4_substitute_1 hl (by decide) rfl (fun ls hl => ?_)
  refine lv_aload_n hx hb dX4_substitute_3 rfl (lv_at hl 1 rfl) ?_
  refine lv_aload_n hx hb dX4_substitute_4 rfl (lv_at hl 2 rfl) ?_
  refine lv_iconst (v := (0 : Int32)) hx hb dX4_substitute_5 (by decide) ?_
  obtain ⟨g1, h⟩ := h
  refine k_Vi (rest := []) (As := [.ref (ad 4 o1), .int ((0 : Int32))]) ⟨hx, hb, hml, hown, hts⟩ hE hz hS hW (mtX4_find l z G ad σ ν ρ lo o0 o1 ((0 : Int32)) _ h) (cwV 2 hts gX4_substitute_X4_find rfl rfl rfl (by decide +kernel) ⟨Nat.le_of_ble_eq_true rfl, Nat.le_of_ble_eq_true rfl⟩) (r_recv hE hW 2 o0 g1 (ci := 7) rfl rfl) rfl hl.1 rfl (Nat.le_of_ble_eq_true rfl) dX4_substitute_6 ⟨Nat.le_of_ble_eq_true rfl, Nat.le_of_ble_eq_true rfl⟩ (fun r2 S1 H locs hp hW hS => ?_)
  obtain ⟨rfl, h⟩ := hp
  refine lv_istore (lv' := [(5, .int r2), (4, .int ((0 : Int32))), (0, .ref (ad 2 o0)), (1, .ref (ad 4 o1)), (2, .ref (ad 4 o2)), (3, .int p3)]) hx hb dX4_substitute_9 hl (by decide) rfl (fun ls hl => ?_)
  refine lv_iconst (v := (0 : Int32)) hx hb dX4_substitute_11 (by decide) ?_
  refine lv_istore (lv' := [(6, .int ((0 : Int32))), (5, .int r2), (4, .int ((0 : Int32))), (0, .ref (ad 2 o0)), (1, .ref (ad 4 o1)), (2, .ref (ad 4 o2)), (3, .int p3)]) hx hb dX4_substitute_12 hl (by decide) rfl (fun ls hl => ?_)
  obtain ⟨n21, h⟩ := h
  exact tX4_substitute_14 (σ := σ) (ρ := ρ) X o0 o1 o2 p3 post  n21 σ ((0 : Int32)) r2 ((0 : Int32)) hW hS (lv_sub hl [3, 4, 5, 6, 2, 1, 0] rfl) h
set_option maxHeartbeats 4000000 in
set_option maxRecDepth 100000 in
theorem mtX4_omit (l : Launch) (z : Nat) (G : Gl) (ad : Nat → Nat → Nat) (σ : SG) (ν : NU) (ρ : RH) (lo : Int64) (o0 : Nat) (o1 : Nat) (post : Int32 → SG → Prop) (h : wpX4_omit σ ν o0 o1 post) : Met l yX4_omit wsX4_omit ({ frames := 2, cells := 0, slots := 0, locals := 46 } : Room) (Pcs z G ad (σ, ν, ρ, lo) [.ref (ad 2 o0), .ref (ad 4 o1)]) (Qis z G ad (fun r S1 => ∃ t : SG, S1 = (t, ν, ρ, lo) ∧ post r t)) 0 0 (Az z) := by
  refine Met.ofW (cc := cX4_omit) (maxL := 3) (ret := (some .boolean)) (by decide) rfl ?_
  intro p e s m args below meth c s₁ B hml hv
  obtain ⟨rfl, hz, hW, hE⟩ := hv
  have hx := B.exec
  have hb := B.bytes
  have hr := B.returns
  have hts := atoms_spec (ws := wsX4_omit) B.pre
  have hown : s.vm.findClass RX4 = some m.cls := findClass_of_methodNamed B.named
  have hlocks := B.notSynchronized
  have X : Cx p l e s m _ below meth c cX4_omit (some .boolean) 3 RX4 wsX4_omit z G := ⟨hx, hb, hr, hml, hown, hts, hlocks, hE, hz⟩
  have hS : va_S (Az z) s.heap s.heap [] := va_S.rf
  have hl := lv_entry [.ref (ad 2 o0), .ref (ad 4 o1)] (n := 3) (Nat.le_of_ble_eq_true rfl)
  rw [lg_entry_eq]
  generalize (lg_sl [.ref (ad 2 o0), .ref (ad 4 o1)] ++ List.replicate (3 - (lg_sl [.ref (ad 2 o0), .ref (ad 4 o1)]).length) Slot.unset).toArray = ls at hl ⊢
  have hl : lv_has ls 3 [(0, .ref (ad 2 o0)), (1, .ref (ad 4 o1))] := hl
  unfold wpX4_omit at h
  refine lv_aload_n hx hb dX4_omit_0 rfl (lv_at hl 0 rfl) ?_
  refine lv_aload_n hx hb dX4_omit_1 rfl (lv_at hl 1 rfl) ?_
  refine lv_iconst (v := (0 : Int32)) hx hb dX4_omit_2 (by decide) ?_
  obtain ⟨g1, h⟩ := h
  refine k_Vi (rest := []) (As := [.ref (ad 4 o1), .int ((0 : Int32))]) ⟨hx, hb, hml, hown, hts⟩ hE hz hS hW (mtX4_find l z G ad σ ν ρ lo o0 o1 ((0 : Int32)) _ h) (cwV 2 hts gX4_omit_X4_find rfl rfl rfl (by decide +kernel) ⟨Nat.le_of_ble_eq_true rfl, Nat.le_of_ble_eq_true rfl⟩) (r_recv hE hW 2 o0 g1 (ci := 7) rfl rfl) rfl hl.1 rfl (Nat.le_of_ble_eq_true rfl) dX4_omit_3 ⟨Nat.le_of_ble_eq_true rfl, Nat.le_of_ble_eq_true rfl⟩ (fun r2 S1 H locs hp hW hS => ?_)
  obtain ⟨rfl, h⟩ := hp
  refine lv_istore_n (lv' := [(2, .int r2), (0, .ref (ad 2 o0)), (1, .ref (ad 4 o1))]) hx hb dX4_omit_6 rfl hl (by decide) rfl (fun ls hl => ?_)
  refine lv_iload_n hx hb dX4_omit_7 rfl (lv_at hl 0 rfl) ?_
  refine lv_iconst (v := (-1 : Int32)) hx hb dX4_omit_8 (by decide) ?_
  refine r_icmp_ne hx hb rfl (show (-1 : Int32).toInt = (-1) by decide) (tgt := 14) dX4_omit_9 (by decide) (fun c3 => ?_) (fun c3 => ?_)
  · have h := ite_f c3 h
    refine lv_aload_n hx hb dX4_omit_14 rfl (lv_at hl 1 rfl) ?_
    refine lv_iload_n hx hb dX4_omit_15 rfl (lv_at hl 0 rfl) ?_
    refine r_putC (C := RX4) (T := TX4) (N := 3) (ci := 7) (fl := fl_2 ad ν ρ o0) hx hb hts hown hE hW hS 2 o0 g1 (fun _ => rfl) rfl (fun w h => List.mem_cons_of_mem _ (List.mem_append_left _ (List.mem_append_right _ h))) tyX4_ok nmX4 2 (by decide) (List.mem_of_getElem? (i := 1) rfl) rfl rfl rfl (Nat.le_of_ble_eq_true rfl) (x := r2) rfl dX4_omit_16 (fun t4 e5 H locs hW hS => ?_)
    have h := h t4 e5
    refine lv_iconst (v := (1 : Int32)) hx hb dX4_omit_19 (by decide) ?_
    exact W.zret (v := (1 : Int32)) (ty := .boolean) hx hb hr rfl (fun t ht _ => ⟨⟨_, (t4, ν, ρ, lo), rfl, ⟨_, rfl, h⟩, WP.at9 ht hW⟩, hS.F ht⟩) hS.2.2 dX4_omit_20 (hlocks := hlocks)
  · have h := ite_t c3 h
    refine lv_iconst (v := (0 : Int32)) hx hb dX4_omit_12 (by decide) ?_
    exact W.zret (v := (0 : Int32)) (ty := .boolean) hx hb hr rfl (fun t ht _ => ⟨⟨_, (σ, ν, ρ, lo), rfl, ⟨_, rfl, h⟩, WP.at9 ht hW⟩, hS.F ht⟩) hS.2.2 dX4_omit_13 (hlocks := hlocks)
set_option maxHeartbeats 4000000 in
set_option maxRecDepth 100000 in
theorem mtX5_reword (l : Launch) (z : Nat) (G : Gl) (ad : Nat → Nat → Nat) (σ : SG) (ν : NU) (ρ : RH) (lo : Int64) (o0 : Nat) (o1 : Nat) (o2 : Nat) (post : Int32 → SG → Prop) (h : wpX5_reword σ ν o0 o1 o2 post) : Met l yX5_reword wsX5_reword ({ frames := 3, cells := 0, slots := 0, locals := 84 } : Room) (Pcs z G ad (σ, ν, ρ, lo) [.ref (ad 1 o0), .ref (ad 3 o1), .ref (ad 2 o2)]) (Qis z G ad (fun r S1 => ∃ t : SG, S1 = (t, ν, ρ, lo) ∧ post r t)) 0 0 (Az z) := by
  refine Met.ofW (cc := cX5_reword) (maxL := 4) (ret := (some .boolean)) (by decide) rfl ?_
  intro p e s m args below meth c s₁ B hml hv
  obtain ⟨rfl, hz, hW, hE⟩ := hv
  have hx := B.exec
  have hb := B.bytes
  have hr := B.returns
  have hts := atoms_spec (ws := wsX5_reword) B.pre
  have hown : s.vm.findClass RX5 = some m.cls := findClass_of_methodNamed B.named
  have hlocks := B.notSynchronized
  have X : Cx p l e s m _ below meth c cX5_reword (some .boolean) 4 RX5 wsX5_reword z G := ⟨hx, hb, hr, hml, hown, hts, hlocks, hE, hz⟩
  have hS : va_S (Az z) s.heap s.heap [] := va_S.rf
  have hl := lv_entry [.ref (ad 1 o0), .ref (ad 3 o1), .ref (ad 2 o2)] (n := 4) (Nat.le_of_ble_eq_true rfl)
  rw [lg_entry_eq]
  generalize (lg_sl [.ref (ad 1 o0), .ref (ad 3 o1), .ref (ad 2 o2)] ++ List.replicate (4 - (lg_sl [.ref (ad 1 o0), .ref (ad 3 o1), .ref (ad 2 o2)]).length) Slot.unset).toArray = ls at hl ⊢
  have hl : lv_has ls 4 [(0, .ref (ad 1 o0)), (1, .ref (ad 3 o1)), (2, .ref (ad 2 o2))] := hl
  unfold wpX5_reword at h
  refine lv_aload_n hx hb dX5_reword_0 rfl (lv_at hl 0 rfl) ?_
  refine lv_aload_n hx hb dX5_reword_1 rfl (lv_at hl 1 rfl) ?_
  obtain ⟨g1, h⟩ := h
  refine k_Vr (rest := []) (As := [.ref (ad 3 o1)]) ⟨hx, hb, hml, hown, hts⟩ hE hz hS hW (mtX5_freshOf l z G ad σ ν ρ lo o0 o1 _ h) (cwV 1 hts gX5_reword_X5_freshOf rfl rfl rfl (by decide +kernel) ⟨Nat.le_of_ble_eq_true rfl, Nat.le_of_ble_eq_true rfl⟩) (r_recv hE hW 1 o0 g1 (ci := 8) rfl rfl) rfl hl.1 rfl (Nat.le_of_ble_eq_true rfl) dX5_reword_2 ⟨Nat.le_of_ble_eq_true rfl, Nat.le_of_ble_eq_true rfl⟩ (fun r2 S1 H locs hp hW hS => ?_)
  obtain ⟨rfl, h⟩ := hp
  refine lv_astore_n (lv' := [(3, .ref (ad 4 r2)), (0, .ref (ad 1 o0)), (1, .ref (ad 3 o1)), (2, .ref (ad 2 o2))]) hx hb dX5_reword_5 rfl hl (by decide) rfl (fun ls hl => ?_)
  refine lv_aload_n hx hb dX5_reword_6 rfl (lv_at hl 2 rfl) ?_
  obtain ⟨g3, h⟩ := h
  refine r_get (C := RX0) (T := TX0) (N := 13) (ci := 3) (fs := fl_3 ad ν ρ o1 (σ 3 o1)) hx hb hts hown hE hW 3 o1 g3 rfl rfl (fun w h => List.mem_cons_of_mem _ (List.mem_append_left _ (List.mem_append_left _ (List.mem_append_left _ (List.mem_append_right _ h))))) 3 (by decide) (List.mem_of_getElem? (i := 1) rfl) rfl (v := .int (σ 3 o1 3)) rfl dX5_reword_7 ?_
  by_cases c4 : (σ 3 o1 3).toInt = 0
  · have h := ite_t c4 h
    refine lv_tableIn (tgt := 40) hx hb dX5_reword_10 (by rw [c4]; decide) (by rw [c4]; decide) (by rw [c4]; rfl) (by decide) ?_
    refine lv_aload_n hx hb dX5_reword_40 rfl (lv_at hl 3 rfl) ?_
    refine lv_aload_n hx hb dX5_reword_41 rfl (lv_at hl 0 rfl) ?_
    refine lv_aload_n hx hb dX5_reword_42 rfl (lv_at hl 2 rfl) ?_
    refine r_get (C := RX0) (T := TX0) (N := 13) (ci := 3) (fs := fl_3 ad ν ρ o1 (σ 3 o1)) hx hb hts hown hE hW 3 o1 g3 rfl rfl (fun w h => List.mem_cons_of_mem _ (List.mem_append_left _ (List.mem_append_left _ (List.mem_append_left _ (List.mem_append_right _ h))))) 0 (by decide) (List.mem_of_getElem? (i := 2) rfl) rfl (v := .int (σ 3 o1 0)) rfl dX5_reword_43 ?_
    obtain ⟨g5, h⟩ := h
    refine k_Vi (rest := []) (As := [.ref (ad 4 r2), .int (σ 3 o1 0)]) ⟨hx, hb, hml, hown, hts⟩ hE hz hS hW (mtX4_begin l z G ad σ ν ρ lo o2 r2 (σ 3 o1 0) _ h) (cwV 2 hts gX5_reword_X4_begin rfl rfl rfl (by decide +kernel) ⟨Nat.le_of_ble_eq_true rfl, Nat.le_of_ble_eq_true rfl⟩) (r_recv hE hW 2 o2 g5 (ci := 7) rfl rfl) rfl hl.1 rfl (Nat.le_of_ble_eq_true rfl) dX5_reword_46 ⟨Nat.le_of_ble_eq_true rfl, Nat.le_of_ble_eq_true rfl⟩ (fun r6 S1 H locs hp hW hS => ?_)
    obtain ⟨t7, rfl, h⟩ := hp
    obtain ⟨g8, h⟩ := h
    exact W.zret (v := r6) (ty := .boolean) hx hb hr (narrow_bo g8) (fun t ht _ => ⟨⟨_, (t7, ν, ρ, lo), rfl, ⟨_, rfl, h⟩, WP.at9 ht hW⟩, hS.F ht⟩) hS.2.2 dX5_reword_49 (hlocks := hlocks)
  · have h := ite_f c4 h
    by_cases c9 : (σ 3 o1 3).toInt = 1
    · have h := ite_t c9 h
      refine lv_tableIn (tgt := 50) hx hb dX5_reword_10 (by rw [c9]; decide) (by rw [c9]; decide) (by rw [c9]; rfl) (by decide) ?_
      refine lv_aload_n hx hb dX5_reword_50 rfl (lv_at hl 3 rfl) ?_
      refine lv_aload_n hx hb dX5_reword_51 rfl (lv_at hl 2 rfl) ?_
      refine r_get (C := RX0) (T := TX0) (N := 13) (ci := 3) (fs := fl_3 ad ν ρ o1 (σ 3 o1)) hx hb hts hown hE hW 3 o1 g3 rfl rfl (fun w h => List.mem_cons_of_mem _ (List.mem_append_left _ (List.mem_append_left _ (List.mem_append_left _ (List.mem_append_right _ h))))) 8 (by decide) (List.mem_of_getElem? (i := 3) rfl) rfl (v := .ref (ad 4 (2 * o1))) rfl dX5_reword_52 ?_
      refine lv_aload_n hx hb dX5_reword_55 rfl (lv_at hl 0 rfl) ?_
      refine lv_aload_n hx hb dX5_reword_56 rfl (lv_at hl 2 rfl) ?_
      refine r_get (C := RX0) (T := TX0) (N := 13) (ci := 3) (fs := fl_3 ad ν ρ o1 (σ 3 o1)) hx hb hts hown hE hW 3 o1 g3 rfl rfl (fun w h => List.mem_cons_of_mem _ (List.mem_append_left _ (List.mem_append_left _ (List.mem_append_left _ (List.mem_append_right _ h))))) 0 (by decide) (List.mem_of_getElem? (i := 2) rfl) rfl (v := .int (σ 3 o1 0)) rfl dX5_reword_57 ?_
      obtain ⟨g10, h⟩ := h
      refine k_Vi (rest := []) (As := [.ref (ad 4 (2 * o1)), .ref (ad 4 r2), .int (σ 3 o1 0)]) ⟨hx, hb, hml, hown, hts⟩ hE hz hS hW (mtX4_insert l z G ad σ ν ρ lo o2 (2 * o1) r2 (σ 3 o1 0) _ h) (cwV 3 hts gX5_reword_X4_insert rfl rfl rfl (by decide +kernel) ⟨Nat.le_of_ble_eq_true rfl, Nat.le_of_ble_eq_true rfl⟩) (r_recv hE hW 2 o2 g10 (ci := 7) rfl rfl) rfl hl.1 rfl (Nat.le_of_ble_eq_true rfl) dX5_reword_60 ⟨Nat.le_of_ble_eq_true rfl, Nat.le_of_ble_eq_true rfl⟩ (fun r11 S1 H locs hp hW hS => ?_)
      obtain ⟨t12, rfl, h⟩ := hp
      obtain ⟨g13, h⟩ := h
      exact W.zret (v := r11) (ty := .boolean) hx hb hr (narrow_bo g13) (fun t ht _ => ⟨⟨_, (t12, ν, ρ, lo), rfl, ⟨_, rfl, h⟩, WP.at9 ht hW⟩, hS.F ht⟩) hS.2.2 dX5_reword_63 (hlocks := hlocks)
    · have h := ite_f c9 h
      by_cases c14 : (σ 3 o1 3).toInt = 2
      · have h := ite_t c14 h
        refine lv_tableIn (tgt := 64) hx hb dX5_reword_10 (by rw [c14]; decide) (by rw [c14]; decide) (by rw [c14]; rfl) (by decide) ?_
        refine lv_aload_n hx hb dX5_reword_64 rfl (lv_at hl 3 rfl) ?_
        refine lv_aload_n hx hb dX5_reword_65 rfl (lv_at hl 2 rfl) ?_
        refine r_get (C := RX0) (T := TX0) (N := 13) (ci := 3) (fs := fl_3 ad ν ρ o1 (σ 3 o1)) hx hb hts hown hE hW 3 o1 g3 rfl rfl (fun w h => List.mem_cons_of_mem _ (List.mem_append_left _ (List.mem_append_left _ (List.mem_append_left _ (List.mem_append_right _ h))))) 8 (by decide) (List.mem_of_getElem? (i := 3) rfl) rfl (v := .ref (ad 4 (2 * o1))) rfl dX5_reword_66 ?_
        refine lv_aload_n hx hb dX5_reword_69 rfl (lv_at hl 0 rfl) ?_
        refine lv_aload_n hx hb dX5_reword_70 rfl (lv_at hl 2 rfl) ?_
        refine r_get (C := RX0) (T := TX0) (N := 13) (ci := 3) (fs := fl_3 ad ν ρ o1 (σ 3 o1)) hx hb hts hown hE hW 3 o1 g3 rfl rfl (fun w h => List.mem_cons_of_mem _ (List.mem_append_left _ (List.mem_append_left _ (List.mem_append_left _ (List.mem_append_right _ h))))) 0 (by decide) (List.mem_of_getElem? (i := 2) rfl) rfl (v := .int (σ 3 o1 0)) rfl dX5_reword_71 ?_
        obtain ⟨g15, h⟩ := h
        refine k_Vi (rest := []) (As := [.ref (ad 4 (2 * o1)), .ref (ad 4 r2), .int (σ 3 o1 0)]) ⟨hx, hb, hml, hown, hts⟩ hE hz hS hW (mtX4_substitute l z G ad σ ν ρ lo o2 (2 * o1) r2 (σ 3 o1 0) _ h) (cwV 3 hts gX5_reword_X4_substitute rfl rfl rfl (by decide +kernel) ⟨Nat.le_of_ble_eq_true rfl, Nat.le_of_ble_eq_true rfl⟩) (r_recv hE hW 2 o2 g15 (ci := 7) rfl rfl) rfl hl.1 rfl (Nat.le_of_ble_eq_true rfl) dX5_reword_74 ⟨Nat.le_of_ble_eq_true rfl, Nat.le_of_ble_eq_true rfl⟩ (fun r16 S1 H locs hp hW hS => ?_)
        obtain ⟨t17, rfl, h⟩ := hp
        obtain ⟨g18, h⟩ := h
        exact W.zret (v := r16) (ty := .boolean) hx hb hr (narrow_bo g18) (fun t ht _ => ⟨⟨_, (t17, ν, ρ, lo), rfl, ⟨_, rfl, h⟩, WP.at9 ht hW⟩, hS.F ht⟩) hS.2.2 dX5_reword_77 (hlocks := hlocks)
      · have h := ite_f c14 h
        by_cases c19 : (σ 3 o1 3).toInt = 3
        · have h := ite_t c19 h
          refine lv_tableIn (tgt := 78) hx hb dX5_reword_10 (by rw [c19]; decide) (by rw [c19]; decide) (by rw [c19]; rfl) (by decide) ?_
          refine lv_aload_n hx hb dX5_reword_78 rfl (lv_at hl 3 rfl) ?_
          refine lv_aload_n hx hb dX5_reword_79 rfl (lv_at hl 2 rfl) ?_
          refine r_get (C := RX0) (T := TX0) (N := 13) (ci := 3) (fs := fl_3 ad ν ρ o1 (σ 3 o1)) hx hb hts hown hE hW 3 o1 g3 rfl rfl (fun w h => List.mem_cons_of_mem _ (List.mem_append_left _ (List.mem_append_left _ (List.mem_append_left _ (List.mem_append_right _ h))))) 8 (by decide) (List.mem_of_getElem? (i := 3) rfl) rfl (v := .ref (ad 4 (2 * o1))) rfl dX5_reword_80 ?_
          obtain ⟨g20, h⟩ := h
          refine k_Vi (rest := []) (As := [.ref (ad 4 (2 * o1))]) ⟨hx, hb, hml, hown, hts⟩ hE hz hS hW (mtX4_omit l z G ad σ ν ρ lo o2 (2 * o1) _ h) (cwV 1 hts gX5_reword_X4_omit rfl rfl rfl (by decide +kernel) ⟨Nat.le_of_ble_eq_true rfl, Nat.le_of_ble_eq_true rfl⟩) (r_recv hE hW 2 o2 g20 (ci := 7) rfl rfl) rfl hl.1 rfl (Nat.le_of_ble_eq_true rfl) dX5_reword_83 ⟨Nat.le_of_ble_eq_true rfl, Nat.le_of_ble_eq_true rfl⟩ (fun r21 S1 H locs hp hW hS => ?_)
          obtain ⟨t22, rfl, h⟩ := hp
          obtain ⟨g23, h⟩ := h
          exact W.zret (v := r21) (ty := .boolean) hx hb hr (narrow_bo g23) (fun t ht _ => ⟨⟨_, (t22, ν, ρ, lo), rfl, ⟨_, rfl, h⟩, WP.at9 ht hW⟩, hS.F ht⟩) hS.2.2 dX5_reword_86 (hlocks := hlocks)
        · have h := ite_f c19 h
          refine lv_tableOut (tgt := 87) hx hb dX5_reword_10 (by omega) (by decide) ?_
          refine lv_iconst (v := (1 : Int32)) hx hb dX5_reword_87 (by decide) ?_
          exact W.zret (v := (1 : Int32)) (ty := .boolean) hx hb hr rfl (fun t ht _ => ⟨⟨_, (σ, ν, ρ, lo), rfl, ⟨_, rfl, h⟩, WP.at9 ht hW⟩, hS.F ht⟩) hS.2.2 dX5_reword_88 (hlocks := hlocks)
set_option maxHeartbeats 4000000 in
set_option maxRecDepth 100000 in
theorem mtX5_setUp (l : Launch) (z : Nat) (G : Gl) (ad : Nat → Nat → Nat) (σ : SG) (ν : NU) (ρ : RH) (lo : Int64) (o0 : Nat) (o1 : Nat) (post : Int32 → SG → Prop) (h : wpX5_setUp σ ν o0 o1 post) : Met l yX5_setUp wsX5_setUp ({ frames := 4, cells := 0, slots := 0, locals := 107 } : Room) (Pcs z G ad (σ, ν, ρ, lo) [.ref (ad 1 o0), .ref (ad 3 o1)]) (Qis z G ad (fun r S1 => ∃ t : SG, S1 = (t, ν, ρ, lo) ∧ post r t)) 0 0 (Az z) := by
  refine Met.ofW (cc := cX5_setUp) (maxL := 3) (ret := (some .boolean)) (by decide) rfl ?_
  intro p e s m args below meth c s₁ B hml hv
  obtain ⟨rfl, hz, hW, hE⟩ := hv
  have hx := B.exec
  have hb := B.bytes
  have hr := B.returns
  have hts := atoms_spec (ws := wsX5_setUp) B.pre
  have hown : s.vm.findClass RX5 = some m.cls := findClass_of_methodNamed B.named
  have hlocks := B.notSynchronized
  have X : Cx p l e s m _ below meth c cX5_setUp (some .boolean) 3 RX5 wsX5_setUp z G := ⟨hx, hb, hr, hml, hown, hts, hlocks, hE, hz⟩
  have hS : va_S (Az z) s.heap s.heap [] := va_S.rf
  have hl := lv_entry [.ref (ad 1 o0), .ref (ad 3 o1)] (n := 3) (Nat.le_of_ble_eq_true rfl)
  rw [lg_entry_eq]
  generalize (lg_sl [.ref (ad 1 o0), .ref (ad 3 o1)] ++ List.replicate (3 - (lg_sl [.ref (ad 1 o0), .ref (ad 3 o1)]).length) Slot.unset).toArray = ls at hl ⊢
  have hl : lv_has ls 3 [(0, .ref (ad 1 o0)), (1, .ref (ad 3 o1))] := hl
  unfold wpX5_setUp at h
  refine lv_aload_n hx hb dX5_setUp_0 rfl (lv_at hl 1 rfl) ?_
  obtain ⟨g1, h⟩ := h
  refine r_get (C := RX0) (T := TX0) (N := 13) (ci := 3) (fs := fl_3 ad ν ρ o1 (σ 3 o1)) hx hb hts hown hE hW 3 o1 g1 rfl rfl (fun w h => List.mem_cons_of_mem _ (List.mem_append_left _ (List.mem_append_left _ (List.mem_append_left _ (List.mem_append_right _ h))))) 4 (by decide) (List.mem_of_getElem? (i := 1) rfl) rfl (v := .int (σ 3 o1 4)) rfl dX5_setUp_1 ?_
  refine lv_istore_n (lv' := [(2, .int (σ 3 o1 4)), (0, .ref (ad 1 o0)), (1, .ref (ad 3 o1))]) hx hb dX5_setUp_4 rfl hl (by decide) rfl (fun ls hl => ?_)
  refine lv_iload_n hx hb dX5_setUp_5 rfl (lv_at hl 0 rfl) ?_
  refine r_if_lt hx hb rfl (tgt := 31) dX5_setUp_6 (by decide) (fun c2 => ?_) (fun c2 => ?_)
  · have h := ite_t c2 h
    refine lv_iconst (v := (0 : Int32)) hx hb dX5_setUp_31 (by decide) ?_
    exact W.zret (v := (0 : Int32)) (ty := .boolean) hx hb hr rfl (fun t ht _ => ⟨⟨_, (σ, ν, ρ, lo), rfl, ⟨_, rfl, h⟩, WP.at9 ht hW⟩, hS.F ht⟩) hS.2.2 dX5_setUp_32 (hlocks := hlocks)
  · have h := ite_f c2 h
    refine lv_iload_n hx hb dX5_setUp_9 rfl (lv_at hl 0 rfl) ?_
    refine lv_bipush (v := (20 : Int32)) hx hb dX5_setUp_10 (by decide) ?_
    refine r_icmp_ge hx hb rfl (show (20 : Int32).toInt = 20 by decide) (tgt := 31) dX5_setUp_12 (by decide) (fun c3 => ?_) (fun c3 => ?_)
    · have h := ite_f c3 h
      refine lv_iconst (v := (0 : Int32)) hx hb dX5_setUp_31 (by decide) ?_
      exact W.zret (v := (0 : Int32)) (ty := .boolean) hx hb hr rfl (fun t ht _ => ⟨⟨_, (σ, ν, ρ, lo), rfl, ⟨_, rfl, h⟩, WP.at9 ht hW⟩, hS.F ht⟩) hS.2.2 dX5_setUp_32 (hlocks := hlocks)
    · have h := ite_t c3 h
      refine lv_aload_n hx hb dX5_setUp_15 rfl (lv_at hl 1 rfl) ?_
      refine lv_aload_n hx hb dX5_setUp_16 rfl (lv_at hl 2 rfl) ?_
      refine r_get (C := RX0) (T := TX0) (N := 13) (ci := 3) (fs := fl_3 ad ν ρ o1 (σ 3 o1)) hx hb hts hown hE hW 3 o1 g1 rfl rfl (fun w h => List.mem_cons_of_mem _ (List.mem_append_left _ (List.mem_append_left _ (List.mem_append_left _ (List.mem_append_right _ h))))) 5 (by decide) (List.mem_of_getElem? (i := 2) rfl) rfl (v := .int (σ 3 o1 5)) rfl dX5_setUp_17 ?_
      refine lv_aload_n hx hb dX5_setUp_20 rfl (lv_at hl 2 rfl) ?_
      refine r_get (C := RX0) (T := TX0) (N := 13) (ci := 3) (fs := fl_3 ad ν ρ o1 (σ 3 o1)) hx hb hts hown hE hW 3 o1 g1 rfl rfl (fun w h => List.mem_cons_of_mem _ (List.mem_append_left _ (List.mem_append_left _ (List.mem_append_left _ (List.mem_append_right _ h))))) 6 (by decide) (List.mem_of_getElem? (i := 3) rfl) rfl (v := .int (σ 3 o1 6)) rfl dX5_setUp_21 ?_
      refine lv_iload_n hx hb dX5_setUp_24 rfl (lv_at hl 0 rfl) ?_
      obtain ⟨g4, h⟩ := h
      refine k_Vi (rest := []) (As := [.int (σ 3 o1 5), .int (σ 3 o1 6), .int (σ 3 o1 4)]) ⟨hx, hb, hml, hown, hts⟩ hE hz hS hW (mtX5_mayHold l z G ad σ ν ρ lo o0 (σ 3 o1 5) (σ 3 o1 6) (σ 3 o1 4) _ h) (cwV 3 hts gX5_setUp_X5_mayHold rfl rfl rfl (by decide +kernel) ⟨Nat.le_of_ble_eq_true rfl, Nat.le_of_ble_eq_true rfl⟩) (r_recv hE hW 1 o0 g4 (ci := 8) rfl rfl) rfl hl.1 rfl (Nat.le_of_ble_eq_true rfl) dX5_setUp_25 ⟨Nat.le_of_ble_eq_true rfl, Nat.le_of_ble_eq_true rfl⟩ (fun r5 S1 H locs hp hW hS => ?_)
      obtain ⟨rfl, h⟩ := hp
      refine r_if_ne hx hb rfl (tgt := 33) dX5_setUp_28 (by decide) (fun c6 => ?_) (fun c6 => ?_)
      · have h := ite_f c6 h
        refine lv_aload_n hx hb dX5_setUp_33 rfl (lv_at hl 1 rfl) ?_
        refine r_get (C := RX5) (T := TX5) (N := 13) (ci := 8) (fs := fl_1 ad ν ρ o0 (σ 1 o0)) hx hb hts hown hE hW 1 o0 g4 rfl rfl (fun w h => List.mem_cons_of_mem _ (List.mem_append_left _ (List.mem_append_left _ (List.mem_append_right _ h)))) 4 (by decide) (List.mem_of_getElem? (i := 4) rfl) rfl (v := .ref (ad 14 o0)) rfl dX5_setUp_34 ?_
        refine lv_iload_n hx hb dX5_setUp_37 rfl (lv_at hl 0 rfl) ?_
        refine lv_aload_n hx hb dX5_setUp_38 rfl (lv_at hl 2 rfl) ?_
        refine r_get (C := RX0) (T := TX0) (N := 13) (ci := 3) (fs := fl_3 ad ν ρ o1 (σ 3 o1)) hx hb hts hown hE hW 3 o1 g1 rfl rfl (fun w h => List.mem_cons_of_mem _ (List.mem_append_left _ (List.mem_append_left _ (List.mem_append_left _ (List.mem_append_right _ h))))) 6 (by decide) (List.mem_of_getElem? (i := 3) rfl) rfl (v := .int (σ 3 o1 6)) rfl dX5_setUp_39 ?_
        obtain ⟨b7, h⟩ := h
        refine r_iastC hx hb hE hW hS 14 o0 g4 (n := 20) (fun _ => rfl) b7 dX5_setUp_42 (fun t8 e9 H locs hW hS => ?_)
        have h := h t8 e9
        refine lv_aload_n hx hb dX5_setUp_43 rfl (lv_at hl 1 rfl) ?_
        refine r_get (C := RX5) (T := TX5) (N := 13) (ci := 8) (fs := fl_1 ad ν ρ o0 (t8 1 o0)) hx hb hts hown hE hW 1 o0 g4 rfl rfl (fun w h => List.mem_cons_of_mem _ (List.mem_append_left _ (List.mem_append_left _ (List.mem_append_right _ h)))) 5 (by decide) (List.mem_of_getElem? (i := 5) rfl) rfl (v := .ref (ad 15 o0)) rfl dX5_setUp_44 ?_
        refine lv_iload_n hx hb dX5_setUp_47 rfl (lv_at hl 0 rfl) ?_
        refine lv_aload_n hx hb dX5_setUp_48 rfl (lv_at hl 2 rfl) ?_
        refine r_get (C := RX0) (T := TX0) (N := 13) (ci := 3) (fs := fl_3 ad ν ρ o1 (t8 3 o1)) hx hb hts hown hE hW 3 o1 g1 rfl rfl (fun w h => List.mem_cons_of_mem _ (List.mem_append_left _ (List.mem_append_left _ (List.mem_append_left _ (List.mem_append_right _ h))))) 5 (by decide) (List.mem_of_getElem? (i := 2) rfl) rfl (v := .int (t8 3 o1 5)) rfl dX5_setUp_49 ?_
        obtain ⟨b10, h⟩ := h
        refine r_iastC hx hb hE hW hS 15 o0 g4 (n := 20) (fun _ => rfl) b10 dX5_setUp_52 (fun t11 e12 H locs hW hS => ?_)
        have h := h t11 e12
        refine lv_aload_n hx hb dX5_setUp_53 rfl (lv_at hl 1 rfl) ?_
        refine lv_aload_n hx hb dX5_setUp_54 rfl (lv_at hl 2 rfl) ?_
        refine lv_aload_n hx hb dX5_setUp_55 rfl (lv_at hl 1 rfl) ?_
        refine r_get (C := RX5) (T := TX5) (N := 13) (ci := 8) (fs := fl_1 ad ν ρ o0 (t11 1 o0)) hx hb hts hown hE hW 1 o0 g4 rfl rfl (fun w h => List.mem_cons_of_mem _ (List.mem_append_left _ (List.mem_append_left _ (List.mem_append_right _ h)))) 6 (by decide) (List.mem_of_getElem? (i := 6) rfl) rfl (v := .ref (ad 16 o0)) rfl dX5_setUp_56 ?_
        refine lv_iload_n hx hb dX5_setUp_59 rfl (lv_at hl 0 rfl) ?_
        obtain ⟨b13, h⟩ := h
        have b14 := vp_lt b13
        refine r_aldq hx hb hE hW 16 o0 g4 (n := 20) (f := fun i => some (ad 2 (21 * o0 + 1 + i))) rfl 3 rfl b13 (v := .ref (ad 2 (21 * o0 + 1 + (σ 3 o1 4).toNatClampNeg))) rfl dX5_setUp_60 ?_
        refine k_Vi (rest := []) (As := [.ref (ad 3 o1), .ref (ad 2 (21 * o0 + 1 + (σ 3 o1 4).toNatClampNeg))]) ⟨hx, hb, hml, hown, hts⟩ hE hz hS hW (mtX5_reword l z G ad t11 ν ρ lo o0 o1 (21 * o0 + 1 + (σ 3 o1 4).toNatClampNeg) _ h) (cwV 2 hts gX5_setUp_X5_reword rfl rfl rfl (by decide +kernel) ⟨Nat.le_of_ble_eq_true rfl, Nat.le_of_ble_eq_true rfl⟩) (r_recv hE hW 1 o0 g4 (ci := 8) rfl rfl) rfl hl.1 rfl (Nat.le_of_ble_eq_true rfl) dX5_setUp_61 ⟨Nat.le_of_ble_eq_true rfl, Nat.le_of_ble_eq_true rfl⟩ (fun r15 S1 H locs hp hW hS => ?_)
        obtain ⟨t16, rfl, h⟩ := hp
        obtain ⟨g17, h⟩ := h
        exact W.zret (v := r15) (ty := .boolean) hx hb hr (narrow_bo g17) (fun t ht _ => ⟨⟨_, (t16, ν, ρ, lo), rfl, ⟨_, rfl, h⟩, WP.at9 ht hW⟩, hS.F ht⟩) hS.2.2 dX5_setUp_64 (hlocks := hlocks)
      · have h := ite_t c6 h
        refine lv_iconst (v := (0 : Int32)) hx hb dX5_setUp_31 (by decide) ?_
        exact W.zret (v := (0 : Int32)) (ty := .boolean) hx hb hr rfl (fun t ht _ => ⟨⟨_, (σ, ν, ρ, lo), rfl, ⟨_, rfl, h⟩, WP.at9 ht hW⟩, hS.F ht⟩) hS.2.2 dX5_setUp_32 (hlocks := hlocks)
set_option maxHeartbeats 4000000 in
set_option maxRecDepth 100000 in
theorem mtX5_outerOf (l : Launch) (z : Nat) (G : Gl) (ad : Nat → Nat → Nat) (σ : SG) (ν : NU) (ρ : RH) (lo : Int64) (o0 : Nat) (p1 : Int32) (post : Int32 → Prop) (h : wpX5_outerOf σ ν o0 p1 post) : Met l yX5_outerOf wsX5_outerOf ({ frames := 0, cells := 0, slots := 0, locals := 0 } : Room) (Pcs z G ad (σ, ν, ρ, lo) [.ref (ad 1 o0), .int p1]) (Qis z G ad (fun r S1 => S1 = (σ, ν, ρ, lo) ∧ post r)) 0 0 (Az z) := by
  refine Met.ofW (cc := cX5_outerOf) (maxL := 2) (ret := (some .int)) (by decide) rfl ?_
  intro p e s m args below meth c s₁ B hml hv
  obtain ⟨rfl, hz, hW, hE⟩ := hv
  have hx := B.exec
  have hb := B.bytes
  have hr := B.returns
  have hts := atoms_spec (ws := wsX5_outerOf) B.pre
  have hown : s.vm.findClass RX5 = some m.cls := findClass_of_methodNamed B.named
  have hlocks := B.notSynchronized
  have X : Cx p l e s m _ below meth c cX5_outerOf (some .int) 2 RX5 wsX5_outerOf z G := ⟨hx, hb, hr, hml, hown, hts, hlocks, hE, hz⟩
  have hS : va_S (Az z) s.heap s.heap [] := va_S.rf
  have hl := lv_entry [.ref (ad 1 o0), .int p1] (n := 2) (Nat.le_of_ble_eq_true rfl)
  rw [lg_entry_eq]
  generalize (lg_sl [.ref (ad 1 o0), .int p1] ++ List.replicate (2 - (lg_sl [.ref (ad 1 o0), .int p1]).length) Slot.unset).toArray = ls at hl ⊢
  have hl : lv_has ls 2 [(0, .ref (ad 1 o0)), (1, .int p1)] := hl
  unfold wpX5_outerOf at h
  refine lv_iload_n hx hb dX5_outerOf_0 rfl (lv_at hl 1 rfl) ?_
  refine r_if_lt hx hb rfl (tgt := 22) dX5_outerOf_1 (by decide) (fun c1 => ?_) (fun c1 => ?_)
  · have h := ite_t c1 h
    refine lv_iconst (v := (-1 : Int32)) hx hb dX5_outerOf_22 (by decide) ?_
    exact W.iret (v := (-1 : Int32)) hx hb hr (fun t ht _ => ⟨⟨_, (σ, ν, ρ, lo), rfl, ⟨rfl, h⟩, WP.at9 ht hW⟩, hS.F ht⟩) hS.2.2 dX5_outerOf_23 (hlocks := hlocks)
  · have h := ite_f c1 h
    refine lv_iload_n hx hb dX5_outerOf_4 rfl (lv_at hl 1 rfl) ?_
    refine lv_aload_n hx hb dX5_outerOf_5 rfl (lv_at hl 0 rfl) ?_
    obtain ⟨g2, h⟩ := h
    refine r_get (C := RX5) (T := TX5) (N := 13) (ci := 8) (fs := fl_1 ad ν ρ o0 (σ 1 o0)) hx hb hts hown hE hW 1 o0 g2 rfl rfl (fun w h => List.mem_cons_of_mem _ (List.mem_append_right _ h)) 5 (by decide) (List.mem_of_getElem? (i := 1) rfl) rfl (v := .ref (ad 15 o0)) rfl dX5_outerOf_6 ?_
    refine r_alen hx hb hE hW 15 o0 g2 rfl 0 rfl (v := (20 : Int32)) rfl dX5_outerOf_9 ?_
    refine r_icmp_ge hx hb rfl (show (20 : Int32).toInt = 20 by decide) (tgt := 22) dX5_outerOf_10 (by decide) (fun c3 => ?_) (fun c3 => ?_)
    · have h := ite_f c3 h
      refine lv_iconst (v := (-1 : Int32)) hx hb dX5_outerOf_22 (by decide) ?_
      exact W.iret (v := (-1 : Int32)) hx hb hr (fun t ht _ => ⟨⟨_, (σ, ν, ρ, lo), rfl, ⟨rfl, h⟩, WP.at9 ht hW⟩, hS.F ht⟩) hS.2.2 dX5_outerOf_23 (hlocks := hlocks)
    · have h := ite_t c3 h
      refine lv_aload_n hx hb dX5_outerOf_13 rfl (lv_at hl 0 rfl) ?_
      refine r_get (C := RX5) (T := TX5) (N := 13) (ci := 8) (fs := fl_1 ad ν ρ o0 (σ 1 o0)) hx hb hts hown hE hW 1 o0 g2 rfl rfl (fun w h => List.mem_cons_of_mem _ (List.mem_append_right _ h)) 5 (by decide) (List.mem_of_getElem? (i := 1) rfl) rfl (v := .ref (ad 15 o0)) rfl dX5_outerOf_14 ?_
      refine lv_iload_n hx hb dX5_outerOf_17 rfl (lv_at hl 1 rfl) ?_
      obtain ⟨b4, h⟩ := h
      refine r_iald hx hb hE hW 15 o0 g2 (n := 20) (f := σ 15 o0) rfl b4 (v := σ 15 o0 p1.toNatClampNeg) rfl dX5_outerOf_18 ?_
      refine lv_goto (tgt := 23) hx hb dX5_outerOf_19 (by decide) ?_
      exact W.iret (v := σ 15 o0 p1.toNatClampNeg) hx hb hr (fun t ht _ => ⟨⟨_, (σ, ν, ρ, lo), rfl, ⟨rfl, h⟩, WP.at9 ht hW⟩, hS.F ht⟩) hS.2.2 dX5_outerOf_23 (hlocks := hlocks)
set_option maxHeartbeats 4000000 in
set_option maxRecDepth 100000 in
theorem mtX5_renumber (l : Launch) (z : Nat) (G : Gl) (ad : Nat → Nat → Nat) (σ : SG) (ν : NU) (ρ : RH) (lo : Int64) (o0 : Nat) (o1 : Nat) (post : Int32 → SG → Prop) (h : wpX5_renumber σ ν o0 o1 post) : Met l yX5_renumber wsX5_renumber ({ frames := 3, cells := 0, slots := 0, locals := 66 } : Room) (Pcs z G ad (σ, ν, ρ, lo) [.ref (ad 1 o0), .ref (ad 3 o1)]) (Qis z G ad (fun r S1 => ∃ t : SG, S1 = (t, ν, ρ, lo) ∧ post r t)) 0 0 (Az z) := by
  refine Met.ofW (cc := cX5_renumber) (maxL := 3) (ret := (some .boolean)) (by decide) rfl ?_
  intro p e s m args below meth c s₁ B hml hv
  obtain ⟨rfl, hz, hW, hE⟩ := hv
  have hx := B.exec
  have hb := B.bytes
  have hr := B.returns
  have hts := atoms_spec (ws := wsX5_renumber) B.pre
  have hown : s.vm.findClass RX5 = some m.cls := findClass_of_methodNamed B.named
  have hlocks := B.notSynchronized
  have X : Cx p l e s m _ below meth c cX5_renumber (some .boolean) 3 RX5 wsX5_renumber z G := ⟨hx, hb, hr, hml, hown, hts, hlocks, hE, hz⟩
  have hS : va_S (Az z) s.heap s.heap [] := va_S.rf
  have hl := lv_entry [.ref (ad 1 o0), .ref (ad 3 o1)] (n := 3) (Nat.le_of_ble_eq_true rfl)
  rw [lg_entry_eq]
  generalize (lg_sl [.ref (ad 1 o0), .ref (ad 3 o1)] ++ List.replicate (3 - (lg_sl [.ref (ad 1 o0), .ref (ad 3 o1)]).length) Slot.unset).toArray = ls at hl ⊢
  have hl : lv_has ls 3 [(0, .ref (ad 1 o0)), (1, .ref (ad 3 o1))] := hl
  unfold wpX5_renumber at h
  refine lv_aload_n hx hb dX5_renumber_0 rfl (lv_at hl 1 rfl) ?_
  obtain ⟨g1, h⟩ := h
  refine r_get (C := RX0) (T := TX0) (N := 13) (ci := 3) (fs := fl_3 ad ν ρ o1 (σ 3 o1)) hx hb hts hown hE hW 3 o1 g1 rfl rfl (fun w h => List.mem_cons_of_mem _ (List.mem_append_left _ (List.mem_append_right _ h))) 4 (by decide) (List.mem_of_getElem? (i := 1) rfl) rfl (v := .int (σ 3 o1 4)) rfl dX5_renumber_1 ?_
  refine lv_istore_n (lv' := [(2, .int (σ 3 o1 4)), (0, .ref (ad 1 o0)), (1, .ref (ad 3 o1))]) hx hb dX5_renumber_4 rfl hl (by decide) rfl (fun ls hl => ?_)
  refine lv_aload_n hx hb dX5_renumber_5 rfl (lv_at hl 1 rfl) ?_
  refine lv_iload_n hx hb dX5_renumber_6 rfl (lv_at hl 0 rfl) ?_
  obtain ⟨g2, h⟩ := h
  refine k_Vi (rest := []) (As := [.int (σ 3 o1 4)]) ⟨hx, hb, hml, hown, hts⟩ hE hz hS hW (mtX5_isThere l z G ad σ ν ρ lo o0 (σ 3 o1 4) _ h) (cwV 1 hts gX5_renumber_X5_isThere rfl rfl rfl (by decide +kernel) ⟨Nat.le_of_ble_eq_true rfl, Nat.le_of_ble_eq_true rfl⟩) (r_recv hE hW 1 o0 g2 (ci := 8) rfl rfl) rfl hl.1 rfl (Nat.le_of_ble_eq_true rfl) dX5_renumber_7 ⟨Nat.le_of_ble_eq_true rfl, Nat.le_of_ble_eq_true rfl⟩ (fun r3 S1 H locs hp hW hS => ?_)
  obtain ⟨rfl, h⟩ := hp
  refine r_if_eq hx hb rfl (tgt := 30) dX5_renumber_10 (by decide) (fun c4 => ?_) (fun c4 => ?_)
  · have h := ite_t c4 h
    refine lv_iconst (v := (0 : Int32)) hx hb dX5_renumber_30 (by decide) ?_
    exact W.zret (v := (0 : Int32)) (ty := .boolean) hx hb hr rfl (fun t ht _ => ⟨⟨_, (σ, ν, ρ, lo), rfl, ⟨_, rfl, h⟩, WP.at9 ht hW⟩, hS.F ht⟩) hS.2.2 dX5_renumber_31 (hlocks := hlocks)
  · have h := ite_f c4 h
    refine lv_aload_n hx hb dX5_renumber_13 rfl (lv_at hl 1 rfl) ?_
    refine lv_aload_n hx hb dX5_renumber_14 rfl (lv_at hl 1 rfl) ?_
    refine lv_iload_n hx hb dX5_renumber_15 rfl (lv_at hl 0 rfl) ?_
    refine k_Vi (rest := [.ref (ad 1 o0)]) (As := [.int (σ 3 o1 4)]) ⟨hx, hb, hml, hown, hts⟩ hE hz hS hW (mtX5_outerOf l z G ad σ ν ρ lo o0 (σ 3 o1 4) _ h) (cwV 1 hts gX5_renumber_X5_outerOf rfl rfl rfl (by decide +kernel) ⟨Nat.le_of_ble_eq_true rfl, Nat.le_of_ble_eq_true rfl⟩) (r_recv hE hW 1 o0 g2 (ci := 8) rfl rfl) rfl hl.1 rfl (Nat.le_of_ble_eq_true rfl) dX5_renumber_16 ⟨Nat.le_of_ble_eq_true rfl, Nat.le_of_ble_eq_true rfl⟩ (fun r5 S1 H locs hp hW hS => ?_)
    obtain ⟨rfl, h⟩ := hp
    refine lv_aload_n hx hb dX5_renumber_19 rfl (lv_at hl 2 rfl) ?_
    refine r_get (C := RX0) (T := TX0) (N := 13) (ci := 3) (fs := fl_3 ad ν ρ o1 (σ 3 o1)) hx hb hts hown hE hW 3 o1 g1 rfl rfl (fun w h => List.mem_cons_of_mem _ (List.mem_append_left _ (List.mem_append_right _ h))) 6 (by decide) (List.mem_of_getElem? (i := 2) rfl) rfl (v := .int (σ 3 o1 6)) rfl dX5_renumber_20 ?_
    refine lv_iload_n hx hb dX5_renumber_23 rfl (lv_at hl 0 rfl) ?_
    refine k_Vi (rest := []) (As := [.int r5, .int (σ 3 o1 6), .int (σ 3 o1 4)]) ⟨hx, hb, hml, hown, hts⟩ hE hz hS hW (mtX5_mayHold l z G ad σ ν ρ lo o0 r5 (σ 3 o1 6) (σ 3 o1 4) _ h) (cwV 3 hts gX5_renumber_X5_mayHold rfl rfl rfl (by decide +kernel) ⟨Nat.le_of_ble_eq_true rfl, Nat.le_of_ble_eq_true rfl⟩) (r_recv hE hW 1 o0 g2 (ci := 8) rfl rfl) rfl hl.1 rfl (Nat.le_of_ble_eq_true rfl) dX5_renumber_24 ⟨Nat.le_of_ble_eq_true rfl, Nat.le_of_ble_eq_true rfl⟩ (fun r6 S1 H locs hp hW hS => ?_)
    obtain ⟨rfl, h⟩ := hp
    refine r_if_ne hx hb rfl (tgt := 32) dX5_renumber_27 (by decide) (fun c7 => ?_) (fun c7 => ?_)
    · have h := ite_f c7 h
      refine lv_aload_n hx hb dX5_renumber_32 rfl (lv_at hl 1 rfl) ?_
      refine r_get (C := RX5) (T := TX5) (N := 13) (ci := 8) (fs := fl_1 ad ν ρ o0 (σ 1 o0)) hx hb hts hown hE hW 1 o0 g2 rfl rfl (fun w h => List.mem_cons_of_mem _ (List.mem_append_right _ h)) 4 (by decide) (List.mem_of_getElem? (i := 3) rfl) rfl (v := .ref (ad 14 o0)) rfl dX5_renumber_33 ?_
      refine lv_iload_n hx hb dX5_renumber_36 rfl (lv_at hl 0 rfl) ?_
      refine lv_aload_n hx hb dX5_renumber_37 rfl (lv_at hl 2 rfl) ?_
      refine r_get (C := RX0) (T := TX0) (N := 13) (ci := 3) (fs := fl_3 ad ν ρ o1 (σ 3 o1)) hx hb hts hown hE hW 3 o1 g1 rfl rfl (fun w h => List.mem_cons_of_mem _ (List.mem_append_left _ (List.mem_append_right _ h))) 6 (by decide) (List.mem_of_getElem? (i := 2) rfl) rfl (v := .int (σ 3 o1 6)) rfl dX5_renumber_38 ?_
      obtain ⟨b8, h⟩ := h
      refine r_iastC hx hb hE hW hS 14 o0 g2 (n := 20) (fun _ => rfl) b8 dX5_renumber_41 (fun t9 e10 H locs hW hS => ?_)
      have h := h t9 e10
      refine lv_iconst (v := (1 : Int32)) hx hb dX5_renumber_42 (by decide) ?_
      exact W.zret (v := (1 : Int32)) (ty := .boolean) hx hb hr rfl (fun t ht _ => ⟨⟨_, (t9, ν, ρ, lo), rfl, ⟨_, rfl, h⟩, WP.at9 ht hW⟩, hS.F ht⟩) hS.2.2 dX5_renumber_43 (hlocks := hlocks)
    · have h := ite_t c7 h
      refine lv_iconst (v := (0 : Int32)) hx hb dX5_renumber_30 (by decide) ?_
      exact W.zret (v := (0 : Int32)) (ty := .boolean) hx hb hr rfl (fun t ht _ => ⟨⟨_, (σ, ν, ρ, lo), rfl, ⟨_, rfl, h⟩, WP.at9 ht hW⟩, hS.F ht⟩) hS.2.2 dX5_renumber_31 (hlocks := hlocks)
set_option maxHeartbeats 4000000 in
set_option maxRecDepth 100000 in
theorem tX5_isWithin_5 {p : Program} {l : Launch} {e : Env} {s : State} {m : MethodId} {args : Array Value} {below : List Frame} {meth : Method} {c : Code} {z : Nat} {G : Gl} {ad : Nat → Nat → Nat} {σ : SG} {ν : NU} {ρ : RH} {lo : Int64} (X : Cx p l e s m args below meth c cX5_isWithin (some .boolean) 5 RX5 wsX5_isWithin z G) (o0 : Nat) (p1 : Int32) (p2 : Int32)  (post : Int32 → Prop) : ∀ (n : Nat) (x3 : Int32) (x4 : Int32) {H : Heap} {locs : List Loc} {ls : Array Slot}, WP z G ad (σ, ν, ρ, lo) H → va_S (Az z) s.heap H locs → lv_has ls 5 [(0, .ref (ad 1 o0)), (2, .int p2), (3, .int x3), (4, .int x4)] → wX5_isWithin_5 o0 p1 p2 post n σ ν x3 x4 → W p l e ({ frames := 1, cells := 0, slots := 0, locals := 21 } : Room) s m args below meth c H locs 0 0 (MQ below (Qis z G ad (fun r S1 => S1 = (σ, ν, ρ, lo) ∧ post r)) args s 0 0 (Az z)) (F0 m 5 ls []) := by
  obtain ⟨hx, hb, hr, hml, hown, hts, hlocks, hE, hz⟩ := id X
  intro n
  induction n with
  | zero =>
    intro x3 x4 H locs ls hW hS hl h
    exact absurd h id
  | succ n ih =>
    intro x3 x4 H locs ls hW hS hl h
    unfold wX5_isWithin_5 at h
    refine lv_iload hx hb dX5_isWithin_5 (lv_at hl 3 rfl) ?_
    refine lv_bipush (v := (20 : Int32)) hx hb dX5_isWithin_7 (by decide) ?_
    refine r_icmp_ge hx hb rfl (show (20 : Int32).toInt = 20 by decide) (tgt := 36) dX5_isWithin_9 (by decide) (fun c1 => ?_) (fun c1 => ?_)
    · have h := ite_f c1 h
      refine lv_iconst (v := (0 : Int32)) hx hb dX5_isWithin_36 (by decide) ?_
      exact W.zret (v := (0 : Int32)) (ty := .boolean) hx hb hr rfl (fun t ht _ => ⟨⟨_, (σ, ν, ρ, lo), rfl, ⟨rfl, h⟩, WP.at9 ht hW⟩, hS.F ht⟩) hS.2.2 dX5_isWithin_37 (hlocks := hlocks)
    · have h := ite_t c1 h
      refine lv_iload_n hx hb dX5_isWithin_12 rfl (lv_at hl 2 rfl) ?_
      refine lv_iconst (v := (-1 : Int32)) hx hb dX5_isWithin_13 (by decide) ?_
      refine r_icmp_eq hx hb rfl (show (-1 : Int32).toInt = (-1) by decide) (tgt := 36) dX5_isWithin_14 (by decide) (fun c2 => ?_) (fun c2 => ?_)
      · have h := ite_t c2 h
        refine lv_iconst (v := (0 : Int32)) hx hb dX5_isWithin_36 (by decide) ?_
        exact W.zret (v := (0 : Int32)) (ty := .boolean) hx hb hr rfl (fun t ht _ => ⟨⟨_, (σ, ν, ρ, lo), rfl, ⟨rfl, h⟩, WP.at9 ht hW⟩, hS.F ht⟩) hS.2.2 dX5_isWithin_37 (hlocks := hlocks)
      · have h := ite_f c2 h
        refine lv_iload_n hx hb dX5_isWithin_17 rfl (lv_at hl 2 rfl) ?_
        refine lv_iload_n hx hb dX5_isWithin_18 rfl (lv_at hl 1 rfl) ?_
        refine r_icmp_ne hx hb rfl rfl (tgt := 24) dX5_isWithin_19 (by decide) (fun c3 => ?_) (fun c3 => ?_)
        · have h := ite_f c3 h
          refine lv_aload_n hx hb dX5_isWithin_24 rfl (lv_at hl 0 rfl) ?_
          refine lv_iload_n hx hb dX5_isWithin_25 rfl (lv_at hl 2 rfl) ?_
          obtain ⟨g4, h⟩ := h
          refine k_Vi (rest := []) (As := [.int x3]) ⟨hx, hb, hml, hown, hts⟩ hE hz hS hW (mtX5_outerOf l z G ad σ ν ρ lo o0 x3 _ h) (cwV 1 hts gX5_isWithin_X5_outerOf rfl rfl rfl (by decide +kernel) ⟨Nat.le_of_ble_eq_true rfl, Nat.le_of_ble_eq_true rfl⟩) (r_recv hE hW 1 o0 g4 (ci := 8) rfl rfl) rfl hl.1 rfl (Nat.le_of_ble_eq_true rfl) dX5_isWithin_26 ⟨Nat.le_of_ble_eq_true rfl, Nat.le_of_ble_eq_true rfl⟩ (fun r5 S1 H locs hp hW hS => ?_)
          obtain ⟨rfl, h⟩ := hp
          refine lv_istore_n (lv' := [(3, .int r5), (0, .ref (ad 1 o0)), (2, .int p2), (4, .int x4)]) hx hb dX5_isWithin_29 rfl hl (by decide) rfl (fun ls hl => ?_)
          refine lv_iinc (v := x4 + (1 : Int32)) (lv' := [(4, .int (x4 + (1 : Int32))), (3, .int r5), (0, .ref (ad 1 o0)), (2, .int p2)]) hx hb dX5_isWithin_30 hl (k := 3) rfl rfl (by decide) rfl (fun ls hl => ?_)
          refine lv_goto (tgt := 5) hx hb dX5_isWithin_33 (by decide) ?_
          exact ih r5 (x4 + (1 : Int32)) hW hS (lv_sub hl [2, 3, 1, 0] rfl) h
        · have h := ite_t c3 h
          refine lv_iconst (v := (1 : Int32)) hx hb dX5_isWithin_22 (by decide) ?_
          exact W.zret (v := (1 : Int32)) (ty := .boolean) hx hb hr rfl (fun t ht _ => ⟨⟨_, (σ, ν, ρ, lo), rfl, ⟨rfl, h⟩, WP.at9 ht hW⟩, hS.F ht⟩) hS.2.2 dX5_isWithin_23 (hlocks := hlocks)
set_option maxHeartbeats 4000000 in
set_option maxRecDepth 100000 in
theorem mtX5_isWithin (l : Launch) (z : Nat) (G : Gl) (ad : Nat → Nat → Nat) (σ : SG) (ν : NU) (ρ : RH) (lo : Int64) (o0 : Nat) (p1 : Int32) (p2 : Int32) (post : Int32 → Prop) (h : wpX5_isWithin σ ν o0 p1 p2 post) : Met l yX5_isWithin wsX5_isWithin ({ frames := 1, cells := 0, slots := 0, locals := 21 } : Room) (Pcs z G ad (σ, ν, ρ, lo) [.ref (ad 1 o0), .int p1, .int p2]) (Qis z G ad (fun r S1 => S1 = (σ, ν, ρ, lo) ∧ post r)) 0 0 (Az z) := by
  refine Met.ofW (cc := cX5_isWithin) (maxL := 5) (ret := (some .boolean)) (by decide) rfl ?_
  intro p e s m args below meth c s₁ B hml hv
  obtain ⟨rfl, hz, hW, hE⟩ := hv
  have hx := B.exec
  have hb := B.bytes
  have hr := B.returns
  have hts := atoms_spec (ws := wsX5_isWithin) B.pre
  have hown : s.vm.findClass RX5 = some m.cls := findClass_of_methodNamed B.named
  have hlocks := B.notSynchronized
  have X : Cx p l e s m _ below meth c cX5_isWithin (some .boolean) 5 RX5 wsX5_isWithin z G := ⟨hx, hb, hr, hml, hown, hts, hlocks, hE, hz⟩
  have hS : va_S (Az z) s.heap s.heap [] := va_S.rf
  have hl := lv_entry [.ref (ad 1 o0), .int p1, .int p2] (n := 5) (Nat.le_of_ble_eq_true rfl)
  rw [lg_entry_eq]
  generalize (lg_sl [.ref (ad 1 o0), .int p1, .int p2] ++ List.replicate (5 - (lg_sl [.ref (ad 1 o0), .int p1, .int p2]).length) Slot.unset).toArray = ls at hl ⊢
  have hl : lv_has ls 5 [(0, .ref (ad 1 o0)), (1, .int p1), (2, .int p2)] := hl
  unfold wpX5_isWithin at h
  refine lv_iload_n hx hb dX5_isWithin_0 rfl (lv_at hl 1 rfl) ?_
  refine lv_istore_n (lv' := [(3, .int p1), (0, .ref (ad 1 o0)), (1, .int p1), (2, .int p2)]) hx hb dX5_isWithin_1 rfl hl (by decide) rfl (fun ls hl => ?_)
  refine lv_iconst (v := (0 : Int32)) hx hb dX5_isWithin_2 (by decide) ?_
  refine lv_istore (lv' := [(4, .int ((0 : Int32))), (3, .int p1), (0, .ref (ad 1 o0)), (1, .int p1), (2, .int p2)]) hx hb dX5_isWithin_3 hl (by decide) rfl (fun ls hl => ?_)
  obtain ⟨n6, h⟩ := h
  exact tX5_isWithin_5 (σ := σ) (ρ := ρ) X o0 p1 p2 post  n6 p1 ((0 : Int32)) hW hS (lv_sub hl [2, 4, 1, 0] rfl) h
set_option maxHeartbeats 4000000 in
set_option maxRecDepth 100000 in
theorem mtX5_shift (l : Launch) (z : Nat) (G : Gl) (ad : Nat → Nat → Nat) (σ : SG) (ν : NU) (ρ : RH) (lo : Int64) (o0 : Nat) (o1 : Nat) (post : Int32 → SG → Prop) (h : wpX5_shift σ ν o0 o1 post) : Met l yX5_shift wsX5_shift ({ frames := 3, cells := 0, slots := 0, locals := 66 } : Room) (Pcs z G ad (σ, ν, ρ, lo) [.ref (ad 1 o0), .ref (ad 3 o1)]) (Qis z G ad (fun r S1 => ∃ t : SG, S1 = (t, ν, ρ, lo) ∧ post r t)) 0 0 (Az z) := by
  refine Met.ofW (cc := cX5_shift) (maxL := 3) (ret := (some .boolean)) (by decide) rfl ?_
  intro p e s m args below meth c s₁ B hml hv
  obtain ⟨rfl, hz, hW, hE⟩ := hv
  have hx := B.exec
  have hb := B.bytes
  have hr := B.returns
  have hts := atoms_spec (ws := wsX5_shift) B.pre
  have hown : s.vm.findClass RX5 = some m.cls := findClass_of_methodNamed B.named
  have hlocks := B.notSynchronized
  have X : Cx p l e s m _ below meth c cX5_shift (some .boolean) 3 RX5 wsX5_shift z G := ⟨hx, hb, hr, hml, hown, hts, hlocks, hE, hz⟩
  have hS : va_S (Az z) s.heap s.heap [] := va_S.rf
  have hl := lv_entry [.ref (ad 1 o0), .ref (ad 3 o1)] (n := 3) (Nat.le_of_ble_eq_true rfl)
  rw [lg_entry_eq]
  generalize (lg_sl [.ref (ad 1 o0), .ref (ad 3 o1)] ++ List.replicate (3 - (lg_sl [.ref (ad 1 o0), .ref (ad 3 o1)]).length) Slot.unset).toArray = ls at hl ⊢
  have hl : lv_has ls 3 [(0, .ref (ad 1 o0)), (1, .ref (ad 3 o1))] := hl
  unfold wpX5_shift at h
  refine lv_aload_n hx hb dX5_shift_0 rfl (lv_at hl 1 rfl) ?_
  obtain ⟨g1, h⟩ := h
  refine r_get (C := RX0) (T := TX0) (N := 13) (ci := 3) (fs := fl_3 ad ν ρ o1 (σ 3 o1)) hx hb hts hown hE hW 3 o1 g1 rfl rfl (fun w h => List.mem_cons_of_mem _ (List.mem_append_left _ (List.mem_append_right _ h))) 4 (by decide) (List.mem_of_getElem? (i := 1) rfl) rfl (v := .int (σ 3 o1 4)) rfl dX5_shift_1 ?_
  refine lv_istore_n (lv' := [(2, .int (σ 3 o1 4)), (0, .ref (ad 1 o0)), (1, .ref (ad 3 o1))]) hx hb dX5_shift_4 rfl hl (by decide) rfl (fun ls hl => ?_)
  refine lv_aload_n hx hb dX5_shift_5 rfl (lv_at hl 1 rfl) ?_
  refine lv_iload_n hx hb dX5_shift_6 rfl (lv_at hl 0 rfl) ?_
  obtain ⟨g2, h⟩ := h
  refine k_Vi (rest := []) (As := [.int (σ 3 o1 4)]) ⟨hx, hb, hml, hown, hts⟩ hE hz hS hW (mtX5_isThere l z G ad σ ν ρ lo o0 (σ 3 o1 4) _ h) (cwV 1 hts gX5_shift_X5_isThere rfl rfl rfl (by decide +kernel) ⟨Nat.le_of_ble_eq_true rfl, Nat.le_of_ble_eq_true rfl⟩) (r_recv hE hW 1 o0 g2 (ci := 8) rfl rfl) rfl hl.1 rfl (Nat.le_of_ble_eq_true rfl) dX5_shift_7 ⟨Nat.le_of_ble_eq_true rfl, Nat.le_of_ble_eq_true rfl⟩ (fun r3 S1 H locs hp hW hS => ?_)
  obtain ⟨rfl, h⟩ := hp
  refine r_if_eq hx hb rfl (tgt := 42) dX5_shift_10 (by decide) (fun c4 => ?_) (fun c4 => ?_)
  · have h := ite_t c4 h
    refine lv_iconst (v := (0 : Int32)) hx hb dX5_shift_42 (by decide) ?_
    exact W.zret (v := (0 : Int32)) (ty := .boolean) hx hb hr rfl (fun t ht _ => ⟨⟨_, (σ, ν, ρ, lo), rfl, ⟨_, rfl, h⟩, WP.at9 ht hW⟩, hS.F ht⟩) hS.2.2 dX5_shift_43 (hlocks := hlocks)
  · have h := ite_f c4 h
    refine lv_aload_n hx hb dX5_shift_13 rfl (lv_at hl 1 rfl) ?_
    refine lv_aload_n hx hb dX5_shift_14 rfl (lv_at hl 2 rfl) ?_
    refine r_get (C := RX0) (T := TX0) (N := 13) (ci := 3) (fs := fl_3 ad ν ρ o1 (σ 3 o1)) hx hb hts hown hE hW 3 o1 g1 rfl rfl (fun w h => List.mem_cons_of_mem _ (List.mem_append_left _ (List.mem_append_right _ h))) 5 (by decide) (List.mem_of_getElem? (i := 2) rfl) rfl (v := .int (σ 3 o1 5)) rfl dX5_shift_15 ?_
    refine lv_iload_n hx hb dX5_shift_18 rfl (lv_at hl 0 rfl) ?_
    refine k_Vi (rest := []) (As := [.int (σ 3 o1 5), .int (σ 3 o1 4)]) ⟨hx, hb, hml, hown, hts⟩ hE hz hS hW (mtX5_isWithin l z G ad σ ν ρ lo o0 (σ 3 o1 5) (σ 3 o1 4) _ h) (cwV 2 hts gX5_shift_X5_isWithin rfl rfl rfl (by decide +kernel) ⟨Nat.le_of_ble_eq_true rfl, Nat.le_of_ble_eq_true rfl⟩) (r_recv hE hW 1 o0 g2 (ci := 8) rfl rfl) rfl hl.1 rfl (Nat.le_of_ble_eq_true rfl) dX5_shift_19 ⟨Nat.le_of_ble_eq_true rfl, Nat.le_of_ble_eq_true rfl⟩ (fun r5 S1 H locs hp hW hS => ?_)
    obtain ⟨rfl, h⟩ := hp
    refine r_if_ne hx hb rfl (tgt := 42) dX5_shift_22 (by decide) (fun c6 => ?_) (fun c6 => ?_)
    · have h := ite_f c6 h
      refine lv_iconst (v := (0 : Int32)) hx hb dX5_shift_42 (by decide) ?_
      exact W.zret (v := (0 : Int32)) (ty := .boolean) hx hb hr rfl (fun t ht _ => ⟨⟨_, (σ, ν, ρ, lo), rfl, ⟨_, rfl, h⟩, WP.at9 ht hW⟩, hS.F ht⟩) hS.2.2 dX5_shift_43 (hlocks := hlocks)
    · have h := ite_t c6 h
      refine lv_aload_n hx hb dX5_shift_25 rfl (lv_at hl 1 rfl) ?_
      refine lv_aload_n hx hb dX5_shift_26 rfl (lv_at hl 2 rfl) ?_
      refine r_get (C := RX0) (T := TX0) (N := 13) (ci := 3) (fs := fl_3 ad ν ρ o1 (σ 3 o1)) hx hb hts hown hE hW 3 o1 g1 rfl rfl (fun w h => List.mem_cons_of_mem _ (List.mem_append_left _ (List.mem_append_right _ h))) 5 (by decide) (List.mem_of_getElem? (i := 2) rfl) rfl (v := .int (σ 3 o1 5)) rfl dX5_shift_27 ?_
      refine lv_aload_n hx hb dX5_shift_30 rfl (lv_at hl 1 rfl) ?_
      refine lv_iload_n hx hb dX5_shift_31 rfl (lv_at hl 0 rfl) ?_
      refine k_Vi (rest := [.int (σ 3 o1 5), .ref (ad 1 o0)]) (As := [.int (σ 3 o1 4)]) ⟨hx, hb, hml, hown, hts⟩ hE hz hS hW (mtX5_labelOf l z G ad σ ν ρ lo o0 (σ 3 o1 4) _ h) (cwV 1 hts gX5_shift_X5_labelOf rfl rfl rfl (by decide +kernel) ⟨Nat.le_of_ble_eq_true rfl, Nat.le_of_ble_eq_true rfl⟩) (r_recv hE hW 1 o0 g2 (ci := 8) rfl rfl) rfl hl.1 rfl (Nat.le_of_ble_eq_true rfl) dX5_shift_32 ⟨Nat.le_of_ble_eq_true rfl, Nat.le_of_ble_eq_true rfl⟩ (fun r7 S1 H locs hp hW hS => ?_)
      obtain ⟨rfl, h⟩ := hp
      refine lv_iload_n hx hb dX5_shift_35 rfl (lv_at hl 0 rfl) ?_
      refine k_Vi (rest := []) (As := [.int (σ 3 o1 5), .int r7, .int (σ 3 o1 4)]) ⟨hx, hb, hml, hown, hts⟩ hE hz hS hW (mtX5_mayHold l z G ad σ ν ρ lo o0 (σ 3 o1 5) r7 (σ 3 o1 4) _ h) (cwV 3 hts gX5_shift_X5_mayHold rfl rfl rfl (by decide +kernel) ⟨Nat.le_of_ble_eq_true rfl, Nat.le_of_ble_eq_true rfl⟩) (r_recv hE hW 1 o0 g2 (ci := 8) rfl rfl) rfl hl.1 rfl (Nat.le_of_ble_eq_true rfl) dX5_shift_36 ⟨Nat.le_of_ble_eq_true rfl, Nat.le_of_ble_eq_true rfl⟩ (fun r8 S1 H locs hp hW hS => ?_)
      obtain ⟨rfl, h⟩ := hp
      refine r_if_ne hx hb rfl (tgt := 44) dX5_shift_39 (by decide) (fun c9 => ?_) (fun c9 => ?_)
      · have h := ite_f c9 h
        refine lv_aload_n hx hb dX5_shift_44 rfl (lv_at hl 1 rfl) ?_
        refine r_get (C := RX5) (T := TX5) (N := 13) (ci := 8) (fs := fl_1 ad ν ρ o0 (σ 1 o0)) hx hb hts hown hE hW 1 o0 g2 rfl rfl (fun w h => List.mem_cons_of_mem _ (List.mem_append_right _ h)) 5 (by decide) (List.mem_of_getElem? (i := 3) rfl) rfl (v := .ref (ad 15 o0)) rfl dX5_shift_45 ?_
        refine lv_iload_n hx hb dX5_shift_48 rfl (lv_at hl 0 rfl) ?_
        refine lv_aload_n hx hb dX5_shift_49 rfl (lv_at hl 2 rfl) ?_
        refine r_get (C := RX0) (T := TX0) (N := 13) (ci := 3) (fs := fl_3 ad ν ρ o1 (σ 3 o1)) hx hb hts hown hE hW 3 o1 g1 rfl rfl (fun w h => List.mem_cons_of_mem _ (List.mem_append_left _ (List.mem_append_right _ h))) 5 (by decide) (List.mem_of_getElem? (i := 2) rfl) rfl (v := .int (σ 3 o1 5)) rfl dX5_shift_50 ?_
        obtain ⟨b10, h⟩ := h
        refine r_iastC hx hb hE hW hS 15 o0 g2 (n := 20) (fun _ => rfl) b10 dX5_shift_53 (fun t11 e12 H locs hW hS => ?_)
        have h := h t11 e12
        refine lv_iconst (v := (1 : Int32)) hx hb dX5_shift_54 (by decide) ?_
        exact W.zret (v := (1 : Int32)) (ty := .boolean) hx hb hr rfl (fun t ht _ => ⟨⟨_, (t11, ν, ρ, lo), rfl, ⟨_, rfl, h⟩, WP.at9 ht hW⟩, hS.F ht⟩) hS.2.2 dX5_shift_55 (hlocks := hlocks)
      · have h := ite_t c9 h
        refine lv_iconst (v := (0 : Int32)) hx hb dX5_shift_42 (by decide) ?_
        exact W.zret (v := (0 : Int32)) (ty := .boolean) hx hb hr rfl (fun t ht _ => ⟨⟨_, (σ, ν, ρ, lo), rfl, ⟨_, rfl, h⟩, WP.at9 ht hW⟩, hS.F ht⟩) hS.2.2 dX5_shift_43 (hlocks := hlocks)
set_option maxHeartbeats 4000000 in
set_option maxRecDepth 100000 in
theorem tX5_remove_12 {p : Program} {l : Launch} {e : Env} {s : State} {m : MethodId} {args : Array Value} {below : List Frame} {meth : Method} {c : Code} {z : Nat} {G : Gl} {ad : Nat → Nat → Nat} {σ : SG} {ν : NU} {ρ : RH} {lo : Int64} (X : Cx p l e s m args below meth c cX5_remove (some .boolean) 3 RX5 wsX5_remove z G) (o0 : Nat) (p1 : Int32)  (post : Int32 → SG → Prop) : ∀ (n : Nat) (a1 : SG) (x2 : Int32) {H : Heap} {locs : List Loc} {ls : Array Slot}, WP z G ad (a1, ν, ρ, lo) H → va_S (Az z) s.heap H locs → lv_has ls 3 [(0, .ref (ad 1 o0)), (1, .int p1), (2, .int x2)] → wX5_remove_12 o0 p1 post n a1 ν x2 → W p l e ({ frames := 2, cells := 0, slots := 0, locals := 45 } : Room) s m args below meth c H locs 0 0 (MQ below (Qis z G ad (fun r S1 => ∃ t : SG, S1 = (t, ν, ρ, lo) ∧ post r t)) args s 0 0 (Az z)) (F0 m 12 ls []) := by
  obtain ⟨hx, hb, hr, hml, hown, hts, hlocks, hE, hz⟩ := id X
  intro n
  induction n with
  | zero =>
    intro a1 x2 H locs ls hW hS hl h
    exact absurd h id
  | succ n ih =>
    intro a1 x2 H locs ls hW hS hl h
    unfold wX5_remove_12 at h
    refine lv_iload_n hx hb dX5_remove_12 rfl (lv_at hl 2 rfl) ?_
    refine lv_bipush (v := (20 : Int32)) hx hb dX5_remove_13 (by decide) ?_
    refine r_icmp_ge hx hb rfl (show (20 : Int32).toInt = 20 by decide) (tgt := 40) dX5_remove_15 (by decide) (fun c4 => ?_) (fun c4 => ?_)
    · have h := ite_f c4 h
      refine lv_iconst (v := (1 : Int32)) hx hb dX5_remove_40 (by decide) ?_
      exact W.zret (v := (1 : Int32)) (ty := .boolean) hx hb hr rfl (fun t ht _ => ⟨⟨_, (a1, ν, ρ, lo), rfl, ⟨_, rfl, h⟩, WP.at9 ht hW⟩, hS.F ht⟩) hS.2.2 dX5_remove_41 (hlocks := hlocks)
    · have h := ite_t c4 h
      refine lv_aload_n hx hb dX5_remove_18 rfl (lv_at hl 0 rfl) ?_
      refine lv_iload_n hx hb dX5_remove_19 rfl (lv_at hl 2 rfl) ?_
      refine lv_iload_n hx hb dX5_remove_20 rfl (lv_at hl 1 rfl) ?_
      obtain ⟨g5, h⟩ := h
      refine k_Vi (rest := []) (As := [.int x2, .int p1]) ⟨hx, hb, hml, hown, hts⟩ hE hz hS hW (mtX5_isWithin l z G ad a1 ν ρ lo o0 x2 p1 _ h) (cwV 2 hts gX5_remove_X5_isWithin rfl rfl rfl (by decide +kernel) ⟨Nat.le_of_ble_eq_true rfl, Nat.le_of_ble_eq_true rfl⟩) (r_recv hE hW 1 o0 g5 (ci := 8) rfl rfl) rfl hl.1 rfl (Nat.le_of_ble_eq_true rfl) dX5_remove_21 ⟨Nat.le_of_ble_eq_true rfl, Nat.le_of_ble_eq_true rfl⟩ (fun r6 S1 H locs hp hW hS => ?_)
      obtain ⟨rfl, h⟩ := hp
      refine r_if_eq hx hb rfl (tgt := 34) dX5_remove_24 (by decide) (fun c7 => ?_) (fun c7 => ?_)
      · have h := ite_t c7 h
        refine lv_iinc (v := x2 + (1 : Int32)) (lv' := [(2, .int (x2 + (1 : Int32))), (0, .ref (ad 1 o0)), (1, .int p1)]) hx hb dX5_remove_34 hl (k := 2) rfl rfl (by decide) rfl (fun ls hl => ?_)
        refine lv_goto (tgt := 12) hx hb dX5_remove_37 (by decide) ?_
        exact ih a1 (x2 + (1 : Int32)) hW hS (lv_sub hl [1, 2, 0] rfl) h
      · have h := ite_f c7 h
        refine lv_aload_n hx hb dX5_remove_27 rfl (lv_at hl 0 rfl) ?_
        refine r_get (C := RX5) (T := TX5) (N := 13) (ci := 8) (fs := fl_1 ad ν ρ o0 (a1 1 o0)) hx hb hts hown hE hW 1 o0 g5 rfl rfl (fun w h => List.mem_cons_of_mem _ (List.mem_append_right _ h)) 4 (by decide) (List.mem_of_getElem? (i := 1) rfl) rfl (v := .ref (ad 14 o0)) rfl dX5_remove_28 ?_
        refine lv_iload_n hx hb dX5_remove_31 rfl (lv_at hl 2 rfl) ?_
        refine lv_iconst (v := (-1 : Int32)) hx hb dX5_remove_32 (by decide) ?_
        obtain ⟨b8, h⟩ := h
        refine r_iastC hx hb hE hW hS 14 o0 g5 (n := 20) (fun _ => rfl) b8 dX5_remove_33 (fun t9 e10 H locs hW hS => ?_)
        have h := h t9 e10
        refine lv_iinc (v := x2 + (1 : Int32)) (lv' := [(2, .int (x2 + (1 : Int32))), (0, .ref (ad 1 o0)), (1, .int p1)]) hx hb dX5_remove_34 hl (k := 2) rfl rfl (by decide) rfl (fun ls hl => ?_)
        refine lv_goto (tgt := 12) hx hb dX5_remove_37 (by decide) ?_
        exact ih t9 (x2 + (1 : Int32)) hW hS (lv_sub hl [1, 2, 0] rfl) h
set_option maxHeartbeats 4000000 in
set_option maxRecDepth 100000 in
theorem mtX5_remove (l : Launch) (z : Nat) (G : Gl) (ad : Nat → Nat → Nat) (σ : SG) (ν : NU) (ρ : RH) (lo : Int64) (o0 : Nat) (p1 : Int32) (post : Int32 → SG → Prop) (h : wpX5_remove σ ν o0 p1 post) : Met l yX5_remove wsX5_remove ({ frames := 2, cells := 0, slots := 0, locals := 45 } : Room) (Pcs z G ad (σ, ν, ρ, lo) [.ref (ad 1 o0), .int p1]) (Qis z G ad (fun r S1 => ∃ t : SG, S1 = (t, ν, ρ, lo) ∧ post r t)) 0 0 (Az z) := by
  refine Met.ofW (cc := cX5_remove) (maxL := 3) (ret := (some .boolean)) (by decide) rfl ?_
  intro p e s m args below meth c s₁ B hml hv
  obtain ⟨rfl, hz, hW, hE⟩ := hv
  have hx := B.exec
  have hb := B.bytes
  have hr := B.returns
  have hts := atoms_spec (ws := wsX5_remove) B.pre
  have hown : s.vm.findClass RX5 = some m.cls := findClass_of_methodNamed B.named
  have hlocks := B.notSynchronized
  have X : Cx p l e s m _ below meth c cX5_remove (some .boolean) 3 RX5 wsX5_remove z G := ⟨hx, hb, hr, hml, hown, hts, hlocks, hE, hz⟩
  have hS : va_S (Az z) s.heap s.heap [] := va_S.rf
  have hl := lv_entry [.ref (ad 1 o0), .int p1] (n := 3) (Nat.le_of_ble_eq_true rfl)
  rw [lg_entry_eq]
  generalize (lg_sl [.ref (ad 1 o0), .int p1] ++ List.replicate (3 - (lg_sl [.ref (ad 1 o0), .int p1]).length) Slot.unset).toArray = ls at hl ⊢
  have hl : lv_has ls 3 [(0, .ref (ad 1 o0)), (1, .int p1)] := hl
  unfold wpX5_remove at h
  refine lv_aload_n hx hb dX5_remove_0 rfl (lv_at hl 0 rfl) ?_
  refine lv_iload_n hx hb dX5_remove_1 rfl (lv_at hl 1 rfl) ?_
  obtain ⟨g1, h⟩ := h
  refine k_Vi (rest := []) (As := [.int p1]) ⟨hx, hb, hml, hown, hts⟩ hE hz hS hW (mtX5_isThere l z G ad σ ν ρ lo o0 p1 _ h) (cwV 1 hts gX5_remove_X5_isThere rfl rfl rfl (by decide +kernel) ⟨Nat.le_of_ble_eq_true rfl, Nat.le_of_ble_eq_true rfl⟩) (r_recv hE hW 1 o0 g1 (ci := 8) rfl rfl) rfl hl.1 rfl (Nat.le_of_ble_eq_true rfl) dX5_remove_2 ⟨Nat.le_of_ble_eq_true rfl, Nat.le_of_ble_eq_true rfl⟩ (fun r2 S1 H locs hp hW hS => ?_)
  obtain ⟨rfl, h⟩ := hp
  refine r_if_ne hx hb rfl (tgt := 10) dX5_remove_5 (by decide) (fun c3 => ?_) (fun c3 => ?_)
  · have h := ite_f c3 h
    refine lv_iconst (v := (0 : Int32)) hx hb dX5_remove_10 (by decide) ?_
    refine lv_istore_n (lv' := [(2, .int ((0 : Int32))), (0, .ref (ad 1 o0)), (1, .int p1)]) hx hb dX5_remove_11 rfl hl (by decide) rfl (fun ls hl => ?_)
    obtain ⟨n11, h⟩ := h
    exact tX5_remove_12 (σ := σ) (ρ := ρ) X o0 p1 post  n11 σ ((0 : Int32)) hW hS (lv_sub hl [1, 2, 0] rfl) h
  · have h := ite_t c3 h
    refine lv_iconst (v := (0 : Int32)) hx hb dX5_remove_8 (by decide) ?_
    exact W.zret (v := (0 : Int32)) (ty := .boolean) hx hb hr rfl (fun t ht _ => ⟨⟨_, (σ, ν, ρ, lo), rfl, ⟨_, rfl, h⟩, WP.at9 ht hW⟩, hS.F ht⟩) hS.2.2 dX5_remove_9 (hlocks := hlocks)
set_option maxHeartbeats 4000000 in
set_option maxRecDepth 100000 in
theorem mtX5_retell (l : Launch) (z : Nat) (G : Gl) (ad : Nat → Nat → Nat) (σ : SG) (ν : NU) (ρ : RH) (lo : Int64) (o0 : Nat) (o1 : Nat) (post : Int32 → SG → NU → Prop) (h : wpX5_retell σ ν o0 o1 post) : Met l yX5_retell wsX5_retell ({ frames := 0, cells := 0, slots := 0, locals := 0 } : Room) (Pcs z G ad (σ, ν, ρ, lo) [.ref (ad 1 o0), .ref (ad 3 o1)]) (Qis z G ad (fun r S1 => ∃ (t : SG) (u : NU), S1 = (t, u, ρ, lo) ∧ u 99 = ν 99 ∧ post r t u)) 0 0 (Az z) := by
  refine Met.ofW (cc := cX5_retell) (maxL := 3) (ret := (some .boolean)) (by decide) rfl ?_
  intro p e s m args below meth c s₁ B hml hv
  obtain ⟨rfl, hz, hW, hE⟩ := hv
  have hx := B.exec
  have hb := B.bytes
  have hr := B.returns
  have hts := atoms_spec (ws := wsX5_retell) B.pre
  have hown : s.vm.findClass RX5 = some m.cls := findClass_of_methodNamed B.named
  have hlocks := B.notSynchronized
  have X : Cx p l e s m _ below meth c cX5_retell (some .boolean) 3 RX5 wsX5_retell z G := ⟨hx, hb, hr, hml, hown, hts, hlocks, hE, hz⟩
  have hS : va_S (Az z) s.heap s.heap [] := va_S.rf
  have hl := lv_entry [.ref (ad 1 o0), .ref (ad 3 o1)] (n := 3) (Nat.le_of_ble_eq_true rfl)
  rw [lg_entry_eq]
  generalize (lg_sl [.ref (ad 1 o0), .ref (ad 3 o1)] ++ List.replicate (3 - (lg_sl [.ref (ad 1 o0), .ref (ad 3 o1)]).length) Slot.unset).toArray = ls at hl ⊢
  have hl : lv_has ls 3 [(0, .ref (ad 1 o0)), (1, .ref (ad 3 o1))] := hl
  unfold wpX5_retell at h
  refine lv_aload_n hx hb dX5_retell_0 rfl (lv_at hl 1 rfl) ?_
  obtain ⟨g1, h⟩ := h
  refine r_get (C := RX0) (T := TX0) (N := 13) (ci := 3) (fs := fl_3 ad ν ρ o1 (σ 3 o1)) hx hb hts hown hE hW 3 o1 g1 rfl rfl (fun w h => List.mem_cons_of_mem _ (List.mem_append_left _ (List.mem_append_right _ h))) 4 (by decide) (List.mem_of_getElem? (i := 1) rfl) rfl (v := .int (σ 3 o1 4)) rfl dX5_retell_1 ?_
  refine lv_istore_n (lv' := [(2, .int (σ 3 o1 4)), (0, .ref (ad 1 o0)), (1, .ref (ad 3 o1))]) hx hb dX5_retell_4 rfl hl (by decide) rfl (fun ls hl => ?_)
  refine lv_iload_n hx hb dX5_retell_5 rfl (lv_at hl 0 rfl) ?_
  refine r_if_lt hx hb rfl (tgt := 24) dX5_retell_6 (by decide) (fun c2 => ?_) (fun c2 => ?_)
  · have h := ite_t c2 h
    refine lv_iconst (v := (0 : Int32)) hx hb dX5_retell_24 (by decide) ?_
    exact W.zret (v := (0 : Int32)) (ty := .boolean) hx hb hr rfl (fun t ht _ => ⟨⟨_, (σ, ν, ρ, lo), rfl, ⟨_, _, rfl, rfl, h⟩, WP.at9 ht hW⟩, hS.F ht⟩) hS.2.2 dX5_retell_25 (hlocks := hlocks)
  · have h := ite_f c2 h
    refine lv_iload_n hx hb dX5_retell_9 rfl (lv_at hl 0 rfl) ?_
    refine lv_bipush (v := (40 : Int32)) hx hb dX5_retell_10 (by decide) ?_
    refine r_icmp_ge hx hb rfl (show (40 : Int32).toInt = 40 by decide) (tgt := 24) dX5_retell_12 (by decide) (fun c3 => ?_) (fun c3 => ?_)
    · have h := ite_f c3 h
      refine lv_iconst (v := (0 : Int32)) hx hb dX5_retell_24 (by decide) ?_
      exact W.zret (v := (0 : Int32)) (ty := .boolean) hx hb hr rfl (fun t ht _ => ⟨⟨_, (σ, ν, ρ, lo), rfl, ⟨_, _, rfl, rfl, h⟩, WP.at9 ht hW⟩, hS.F ht⟩) hS.2.2 dX5_retell_25 (hlocks := hlocks)
    · have h := ite_t c3 h
      refine lv_aload_n hx hb dX5_retell_15 rfl (lv_at hl 1 rfl) ?_
      obtain ⟨g4, h⟩ := h
      refine r_get (C := RX5) (T := TX5) (N := 13) (ci := 8) (fs := fl_1 ad ν ρ o0 (σ 1 o0)) hx hb hts hown hE hW 1 o0 g4 rfl rfl (fun w h => List.mem_cons_of_mem _ (List.mem_append_right _ h)) 2 (by decide) (List.mem_of_getElem? (i := 2) rfl) rfl (v := .ref (ad 12 o0)) rfl dX5_retell_16 ?_
      refine lv_iload_n hx hb dX5_retell_19 rfl (lv_at hl 0 rfl) ?_
      obtain ⟨b5, h⟩ := h
      refine r_iald hx hb hE hW 12 o0 g4 (n := 40) (f := σ 12 o0) rfl b5 (v := σ 12 o0 (σ 3 o1 4).toNatClampNeg) rfl dX5_retell_20 ?_
      refine r_if_eq hx hb rfl (tgt := 26) dX5_retell_21 (by decide) (fun c6 => ?_) (fun c6 => ?_)
      · have h := ite_t c6 h
        refine lv_aload_n hx hb dX5_retell_26 rfl (lv_at hl 1 rfl) ?_
        refine r_get (C := RX5) (T := TX5) (N := 13) (ci := 8) (fs := fl_1 ad ν ρ o0 (σ 1 o0)) hx hb hts hown hE hW 1 o0 g4 rfl rfl (fun w h => List.mem_cons_of_mem _ (List.mem_append_right _ h)) 3 (by decide) (List.mem_of_getElem? (i := 3) rfl) rfl (v := .ref (ad 13 o0)) rfl dX5_retell_27 ?_
        refine lv_iload_n hx hb dX5_retell_30 rfl (lv_at hl 0 rfl) ?_
        refine lv_aload_n hx hb dX5_retell_31 rfl (lv_at hl 2 rfl) ?_
        refine r_get (C := RX0) (T := TX0) (N := 13) (ci := 3) (fs := fl_3 ad ν ρ o1 (σ 3 o1)) hx hb hts hown hE hW 3 o1 g1 rfl rfl (fun w h => List.mem_cons_of_mem _ (List.mem_append_left _ (List.mem_append_right _ h))) 9 (by decide) (List.mem_of_getElem? (i := 4) rfl) rfl (v := .ref (ad 4 (2 * o1 + 1))) rfl dX5_retell_32 ?_
        obtain ⟨b7, h⟩ := h
        refine r_told hx hb hE hW hS o0 g4 (2 * o1 + 1) (show 2 * o1 + 1 < 2 * ν 99 0 0 by omega) b7 dX5_retell_35 (fun vv8 e9 H locs hW hS => ?_)
        have q10 : vv8 99 = ν 99 := by rw [e9]; exact u3_ne (by decide)
        have h := h vv8 e9
        refine lv_iconst (v := (1 : Int32)) hx hb dX5_retell_36 (by decide) ?_
        exact W.zret (v := (1 : Int32)) (ty := .boolean) hx hb hr rfl (fun t ht _ => ⟨⟨_, (σ, vv8, ρ, lo), rfl, ⟨_, _, rfl, q10, h⟩, WP.at9 ht hW⟩, hS.F ht⟩) hS.2.2 dX5_retell_37 (hlocks := hlocks)
      · have h := ite_f c6 h
        refine lv_iconst (v := (0 : Int32)) hx hb dX5_retell_24 (by decide) ?_
        exact W.zret (v := (0 : Int32)) (ty := .boolean) hx hb hr rfl (fun t ht _ => ⟨⟨_, (σ, ν, ρ, lo), rfl, ⟨_, _, rfl, rfl, h⟩, WP.at9 ht hW⟩, hS.F ht⟩) hS.2.2 dX5_retell_25 (hlocks := hlocks)
set_option maxHeartbeats 4000000 in
set_option maxRecDepth 100000 in
theorem mtX5_carryOut (l : Launch) (z : Nat) (G : Gl) (ad : Nat → Nat → Nat) (σ : SG) (ν : NU) (ρ : RH) (lo : Int64) (o0 : Nat) (o1 : Nat) (post : Int32 → SG → NU → Prop) (h : wpX5_carryOut σ ν o0 o1 post) : Met l yX5_carryOut wsX5_carryOut ({ frames := 5, cells := 0, slots := 0, locals := 129 } : Room) (Pcs z G ad (σ, ν, ρ, lo) [.ref (ad 1 o0), .ref (ad 3 o1)]) (Qis z G ad (fun r S1 => ∃ (t : SG) (u : NU), S1 = (t, u, ρ, lo) ∧ u 99 = ν 99 ∧ post r t u)) 0 0 (Az z) := by
  refine Met.ofW (cc := cX5_carryOut) (maxL := 2) (ret := (some .boolean)) (by decide) rfl ?_
  intro p e s m args below meth c s₁ B hml hv
  obtain ⟨rfl, hz, hW, hE⟩ := hv
  have hx := B.exec
  have hb := B.bytes
  have hr := B.returns
  have hts := atoms_spec (ws := wsX5_carryOut) B.pre
  have hown : s.vm.findClass RX5 = some m.cls := findClass_of_methodNamed B.named
  have hlocks := B.notSynchronized
  have X : Cx p l e s m _ below meth c cX5_carryOut (some .boolean) 2 RX5 wsX5_carryOut z G := ⟨hx, hb, hr, hml, hown, hts, hlocks, hE, hz⟩
  have hS : va_S (Az z) s.heap s.heap [] := va_S.rf
  have hl := lv_entry [.ref (ad 1 o0), .ref (ad 3 o1)] (n := 2) (Nat.le_of_ble_eq_true rfl)
  rw [lg_entry_eq]
  generalize (lg_sl [.ref (ad 1 o0), .ref (ad 3 o1)] ++ List.replicate (2 - (lg_sl [.ref (ad 1 o0), .ref (ad 3 o1)]).length) Slot.unset).toArray = ls at hl ⊢
  have hl : lv_has ls 2 [(0, .ref (ad 1 o0)), (1, .ref (ad 3 o1))] := hl
  unfold wpX5_carryOut at h
  refine lv_aload_n hx hb dX5_carryOut_0 rfl (lv_at hl 1 rfl) ?_
  obtain ⟨g1, h⟩ := h
  refine r_get (C := RX0) (T := TX0) (N := 13) (ci := 3) (fs := fl_3 ad ν ρ o1 (σ 3 o1)) hx hb hts hown hE hW 3 o1 g1 rfl rfl (fun w h => List.mem_cons_of_mem _ (List.mem_append_left _ (List.mem_append_left _ (List.mem_append_left _ (List.mem_append_right _ h))))) 3 (by decide) (List.mem_of_getElem? (i := 1) rfl) rfl (v := .int (σ 3 o1 3)) rfl dX5_carryOut_1 ?_
  by_cases c2 : (σ 3 o1 3).toInt = 0
  · have h := ite_t c2 h
    refine lv_tableIn (tgt := 52) hx hb dX5_carryOut_4 (by rw [c2]; decide) (by rw [c2]; decide) (by rw [c2]; rfl) (by decide) ?_
    refine lv_aload_n hx hb dX5_carryOut_52 rfl (lv_at hl 0 rfl) ?_
    refine lv_aload_n hx hb dX5_carryOut_53 rfl (lv_at hl 1 rfl) ?_
    obtain ⟨g3, h⟩ := h
    refine k_Vi (rest := []) (As := [.ref (ad 3 o1)]) ⟨hx, hb, hml, hown, hts⟩ hE hz hS hW (mtX5_setUp l z G ad σ ν ρ lo o0 o1 _ h) (cwV 1 hts gX5_carryOut_X5_setUp rfl rfl rfl (by decide +kernel) ⟨Nat.le_of_ble_eq_true rfl, Nat.le_of_ble_eq_true rfl⟩) (r_recv hE hW 1 o0 g3 (ci := 8) rfl rfl) rfl hl.1 rfl (Nat.le_of_ble_eq_true rfl) dX5_carryOut_54 ⟨Nat.le_of_ble_eq_true rfl, Nat.le_of_ble_eq_true rfl⟩ (fun r4 S1 H locs hp hW hS => ?_)
    obtain ⟨t5, rfl, h⟩ := hp
    obtain ⟨g6, h⟩ := h
    exact W.zret (v := r4) (ty := .boolean) hx hb hr (narrow_bo g6) (fun t ht _ => ⟨⟨_, (t5, ν, ρ, lo), rfl, ⟨_, _, rfl, rfl, h⟩, WP.at9 ht hW⟩, hS.F ht⟩) hS.2.2 dX5_carryOut_57 (hlocks := hlocks)
  · have h := ite_f c2 h
    by_cases c7 : (σ 3 o1 3).toInt = 1
    · have h := ite_t c7 h
      refine lv_tableIn (tgt := 85) hx hb dX5_carryOut_4 (by rw [c7]; decide) (by rw [c7]; decide) (by rw [c7]; rfl) (by decide) ?_
      refine lv_aload_n hx hb dX5_carryOut_85 rfl (lv_at hl 0 rfl) ?_
      refine lv_aload_n hx hb dX5_carryOut_86 rfl (lv_at hl 1 rfl) ?_
      refine r_get (C := RX0) (T := TX0) (N := 13) (ci := 3) (fs := fl_3 ad ν ρ o1 (σ 3 o1)) hx hb hts hown hE hW 3 o1 g1 rfl rfl (fun w h => List.mem_cons_of_mem _ (List.mem_append_left _ (List.mem_append_left _ (List.mem_append_left _ (List.mem_append_right _ h))))) 4 (by decide) (List.mem_of_getElem? (i := 2) rfl) rfl (v := .int (σ 3 o1 4)) rfl dX5_carryOut_87 ?_
      obtain ⟨g8, h⟩ := h
      refine k_Vi (rest := []) (As := [.int (σ 3 o1 4)]) ⟨hx, hb, hml, hown, hts⟩ hE hz hS hW (mtX5_isThere l z G ad σ ν ρ lo o0 (σ 3 o1 4) _ h) (cwV 1 hts gX5_carryOut_X5_isThere rfl rfl rfl (by decide +kernel) ⟨Nat.le_of_ble_eq_true rfl, Nat.le_of_ble_eq_true rfl⟩) (r_recv hE hW 1 o0 g8 (ci := 8) rfl rfl) rfl hl.1 rfl (Nat.le_of_ble_eq_true rfl) dX5_carryOut_90 ⟨Nat.le_of_ble_eq_true rfl, Nat.le_of_ble_eq_true rfl⟩ (fun r9 S1 H locs hp hW hS => ?_)
      obtain ⟨rfl, h⟩ := hp
      refine r_if_eq hx hb rfl (tgt := 117) dX5_carryOut_93 (by decide) (fun c10 => ?_) (fun c10 => ?_)
      · have h := ite_t c10 h
        refine lv_iconst (v := (0 : Int32)) hx hb dX5_carryOut_117 (by decide) ?_
        exact W.zret (v := (0 : Int32)) (ty := .boolean) hx hb hr rfl (fun t ht _ => ⟨⟨_, (σ, ν, ρ, lo), rfl, ⟨_, _, rfl, rfl, h⟩, WP.at9 ht hW⟩, hS.F ht⟩) hS.2.2 dX5_carryOut_118 (hlocks := hlocks)
      · have h := ite_f c10 h
        refine lv_aload_n hx hb dX5_carryOut_96 rfl (lv_at hl 0 rfl) ?_
        refine lv_aload_n hx hb dX5_carryOut_97 rfl (lv_at hl 1 rfl) ?_
        refine lv_aload_n hx hb dX5_carryOut_98 rfl (lv_at hl 0 rfl) ?_
        refine r_get (C := RX5) (T := TX5) (N := 13) (ci := 8) (fs := fl_1 ad ν ρ o0 (σ 1 o0)) hx hb hts hown hE hW 1 o0 g8 rfl rfl (fun w h => List.mem_cons_of_mem _ (List.mem_append_left _ (List.mem_append_left _ (List.mem_append_right _ h)))) 6 (by decide) (List.mem_of_getElem? (i := 3) rfl) rfl (v := .ref (ad 16 o0)) rfl dX5_carryOut_99 ?_
        refine lv_aload_n hx hb dX5_carryOut_102 rfl (lv_at hl 1 rfl) ?_
        refine r_get (C := RX0) (T := TX0) (N := 13) (ci := 3) (fs := fl_3 ad ν ρ o1 (σ 3 o1)) hx hb hts hown hE hW 3 o1 g1 rfl rfl (fun w h => List.mem_cons_of_mem _ (List.mem_append_left _ (List.mem_append_left _ (List.mem_append_left _ (List.mem_append_right _ h))))) 4 (by decide) (List.mem_of_getElem? (i := 2) rfl) rfl (v := .int (σ 3 o1 4)) rfl dX5_carryOut_103 ?_
        obtain ⟨b11, h⟩ := h
        have b12 := vp_lt b11
        refine r_aldq hx hb hE hW 16 o0 g8 (n := 20) (f := fun i => some (ad 2 (21 * o0 + 1 + i))) rfl 3 rfl b11 (v := .ref (ad 2 (21 * o0 + 1 + (σ 3 o1 4).toNatClampNeg))) rfl dX5_carryOut_106 ?_
        refine k_Vi (rest := []) (As := [.ref (ad 3 o1), .ref (ad 2 (21 * o0 + 1 + (σ 3 o1 4).toNatClampNeg))]) ⟨hx, hb, hml, hown, hts⟩ hE hz hS hW (mtX5_reword l z G ad σ ν ρ lo o0 o1 (21 * o0 + 1 + (σ 3 o1 4).toNatClampNeg) _ h) (cwV 2 hts gX5_carryOut_X5_reword rfl rfl rfl (by decide +kernel) ⟨Nat.le_of_ble_eq_true rfl, Nat.le_of_ble_eq_true rfl⟩) (r_recv hE hW 1 o0 g8 (ci := 8) rfl rfl) rfl hl.1 rfl (Nat.le_of_ble_eq_true rfl) dX5_carryOut_107 ⟨Nat.le_of_ble_eq_true rfl, Nat.le_of_ble_eq_true rfl⟩ (fun r13 S1 H locs hp hW hS => ?_)
        obtain ⟨t14, rfl, h⟩ := hp
        refine r_if_eq hx hb rfl (tgt := 117) dX5_carryOut_110 (by decide) (fun c15 => ?_) (fun c15 => ?_)
        · have h := ite_t c15 h
          refine lv_iconst (v := (0 : Int32)) hx hb dX5_carryOut_117 (by decide) ?_
          exact W.zret (v := (0 : Int32)) (ty := .boolean) hx hb hr rfl (fun t ht _ => ⟨⟨_, (t14, ν, ρ, lo), rfl, ⟨_, _, rfl, rfl, h⟩, WP.at9 ht hW⟩, hS.F ht⟩) hS.2.2 dX5_carryOut_118 (hlocks := hlocks)
        · have h := ite_f c15 h
          refine lv_iconst (v := (1 : Int32)) hx hb dX5_carryOut_113 (by decide) ?_
          refine lv_goto (tgt := 118) hx hb dX5_carryOut_114 (by decide) ?_
          exact W.zret (v := (1 : Int32)) (ty := .boolean) hx hb hr rfl (fun t ht _ => ⟨⟨_, (t14, ν, ρ, lo), rfl, ⟨_, _, rfl, rfl, h⟩, WP.at9 ht hW⟩, hS.F ht⟩) hS.2.2 dX5_carryOut_118 (hlocks := hlocks)
    · have h := ite_f c7 h
      by_cases c16 : (σ 3 o1 3).toInt = 2
      · have h := ite_t c16 h
        refine lv_tableIn (tgt := 85) hx hb dX5_carryOut_4 (by rw [c16]; decide) (by rw [c16]; decide) (by rw [c16]; rfl) (by decide) ?_
        refine lv_aload_n hx hb dX5_carryOut_85 rfl (lv_at hl 0 rfl) ?_
        refine lv_aload_n hx hb dX5_carryOut_86 rfl (lv_at hl 1 rfl) ?_
        refine r_get (C := RX0) (T := TX0) (N := 13) (ci := 3) (fs := fl_3 ad ν ρ o1 (σ 3 o1)) hx hb hts hown hE hW 3 o1 g1 rfl rfl (fun w h => List.mem_cons_of_mem _ (List.mem_append_left _ (List.mem_append_left _ (List.mem_append_left _ (List.mem_append_right _ h))))) 4 (by decide) (List.mem_of_getElem? (i := 2) rfl) rfl (v := .int (σ 3 o1 4)) rfl dX5_carryOut_87 ?_
        obtain ⟨g17, h⟩ := h
        refine k_Vi (rest := []) (As := [.int (σ 3 o1 4)]) ⟨hx, hb, hml, hown, hts⟩ hE hz hS hW (mtX5_isThere l z G ad σ ν ρ lo o0 (σ 3 o1 4) _ h) (cwV 1 hts gX5_carryOut_X5_isThere rfl rfl rfl (by decide +kernel) ⟨Nat.le_of_ble_eq_true rfl, Nat.le_of_ble_eq_true rfl⟩) (r_recv hE hW 1 o0 g17 (ci := 8) rfl rfl) rfl hl.1 rfl (Nat.le_of_ble_eq_true rfl) dX5_carryOut_90 ⟨Nat.le_of_ble_eq_true rfl, Nat.le_of_ble_eq_true rfl⟩ (fun r18 S1 H locs hp hW hS => ?_)
        obtain ⟨rfl, h⟩ := hp
        refine r_if_eq hx hb rfl (tgt := 117) dX5_carryOut_93 (by decide) (fun c19 => ?_) (fun c19 => ?_)
        · have h := ite_t c19 h
          refine lv_iconst (v := (0 : Int32)) hx hb dX5_carryOut_117 (by decide) ?_
          exact W.zret (v := (0 : Int32)) (ty := .boolean) hx hb hr rfl (fun t ht _ => ⟨⟨_, (σ, ν, ρ, lo), rfl, ⟨_, _, rfl, rfl, h⟩, WP.at9 ht hW⟩, hS.F ht⟩) hS.2.2 dX5_carryOut_118 (hlocks := hlocks)
        · have h := ite_f c19 h
          refine lv_aload_n hx hb dX5_carryOut_96 rfl (lv_at hl 0 rfl) ?_
          refine lv_aload_n hx hb dX5_carryOut_97 rfl (lv_at hl 1 rfl) ?_
          refine lv_aload_n hx hb dX5_carryOut_98 rfl (lv_at hl 0 rfl) ?_
          refine r_get (C := RX5) (T := TX5) (N := 13) (ci := 8) (fs := fl_1 ad ν ρ o0 (σ 1 o0)) hx hb hts hown hE hW 1 o0 g17 rfl rfl (fun w h => List.mem_cons_of_mem _ (List.mem_append_left _ (List.mem_append_left _ (List.mem_append_right _ h)))) 6 (by decide) (List.mem_of_getElem? (i := 3) rfl) rfl (v := .ref (ad 16 o0)) rfl dX5_carryOut_99 ?_
          refine lv_aload_n hx hb dX5_carryOut_102 rfl (lv_at hl 1 rfl) ?_
          refine r_get (C := RX0) (T := TX0) (N := 13) (ci := 3) (fs := fl_3 ad ν ρ o1 (σ 3 o1)) hx hb hts hown hE hW 3 o1 g1 rfl rfl (fun w h => List.mem_cons_of_mem _ (List.mem_append_left _ (List.mem_append_left _ (List.mem_append_left _ (List.mem_append_right _ h))))) 4 (by decide) (List.mem_of_getElem? (i := 2) rfl) rfl (v := .int (σ 3 o1 4)) rfl dX5_carryOut_103 ?_
          obtain ⟨b20, h⟩ := h
          have b21 := vp_lt b20
          refine r_aldq hx hb hE hW 16 o0 g17 (n := 20) (f := fun i => some (ad 2 (21 * o0 + 1 + i))) rfl 3 rfl b20 (v := .ref (ad 2 (21 * o0 + 1 + (σ 3 o1 4).toNatClampNeg))) rfl dX5_carryOut_106 ?_
          refine k_Vi (rest := []) (As := [.ref (ad 3 o1), .ref (ad 2 (21 * o0 + 1 + (σ 3 o1 4).toNatClampNeg))]) ⟨hx, hb, hml, hown, hts⟩ hE hz hS hW (mtX5_reword l z G ad σ ν ρ lo o0 o1 (21 * o0 + 1 + (σ 3 o1 4).toNatClampNeg) _ h) (cwV 2 hts gX5_carryOut_X5_reword rfl rfl rfl (by decide +kernel) ⟨Nat.le_of_ble_eq_true rfl, Nat.le_of_ble_eq_true rfl⟩) (r_recv hE hW 1 o0 g17 (ci := 8) rfl rfl) rfl hl.1 rfl (Nat.le_of_ble_eq_true rfl) dX5_carryOut_107 ⟨Nat.le_of_ble_eq_true rfl, Nat.le_of_ble_eq_true rfl⟩ (fun r22 S1 H locs hp hW hS => ?_)
          obtain ⟨t23, rfl, h⟩ := hp
          refine r_if_eq hx hb rfl (tgt := 117) dX5_carryOut_110 (by decide) (fun c24 => ?_) (fun c24 => ?_)
          · have h := ite_t c24 h
            refine lv_iconst (v := (0 : Int32)) hx hb dX5_carryOut_117 (by decide) ?_
            exact W.zret (v := (0 : Int32)) (ty := .boolean) hx hb hr rfl (fun t ht _ => ⟨⟨_, (t23, ν, ρ, lo), rfl, ⟨_, _, rfl, rfl, h⟩, WP.at9 ht hW⟩, hS.F ht⟩) hS.2.2 dX5_carryOut_118 (hlocks := hlocks)
          · have h := ite_f c24 h
            refine lv_iconst (v := (1 : Int32)) hx hb dX5_carryOut_113 (by decide) ?_
            refine lv_goto (tgt := 118) hx hb dX5_carryOut_114 (by decide) ?_
            exact W.zret (v := (1 : Int32)) (ty := .boolean) hx hb hr rfl (fun t ht _ => ⟨⟨_, (t23, ν, ρ, lo), rfl, ⟨_, _, rfl, rfl, h⟩, WP.at9 ht hW⟩, hS.F ht⟩) hS.2.2 dX5_carryOut_118 (hlocks := hlocks)
      · have h := ite_f c16 h
        by_cases c25 : (σ 3 o1 3).toInt = 3
        · have h := ite_t c25 h
          refine lv_tableIn (tgt := 85) hx hb dX5_carryOut_4 (by rw [c25]; decide) (by rw [c25]; decide) (by rw [c25]; rfl) (by decide) ?_
          refine lv_aload_n hx hb dX5_carryOut_85 rfl (lv_at hl 0 rfl) ?_
          refine lv_aload_n hx hb dX5_carryOut_86 rfl (lv_at hl 1 rfl) ?_
          refine r_get (C := RX0) (T := TX0) (N := 13) (ci := 3) (fs := fl_3 ad ν ρ o1 (σ 3 o1)) hx hb hts hown hE hW 3 o1 g1 rfl rfl (fun w h => List.mem_cons_of_mem _ (List.mem_append_left _ (List.mem_append_left _ (List.mem_append_left _ (List.mem_append_right _ h))))) 4 (by decide) (List.mem_of_getElem? (i := 2) rfl) rfl (v := .int (σ 3 o1 4)) rfl dX5_carryOut_87 ?_
          obtain ⟨g26, h⟩ := h
          refine k_Vi (rest := []) (As := [.int (σ 3 o1 4)]) ⟨hx, hb, hml, hown, hts⟩ hE hz hS hW (mtX5_isThere l z G ad σ ν ρ lo o0 (σ 3 o1 4) _ h) (cwV 1 hts gX5_carryOut_X5_isThere rfl rfl rfl (by decide +kernel) ⟨Nat.le_of_ble_eq_true rfl, Nat.le_of_ble_eq_true rfl⟩) (r_recv hE hW 1 o0 g26 (ci := 8) rfl rfl) rfl hl.1 rfl (Nat.le_of_ble_eq_true rfl) dX5_carryOut_90 ⟨Nat.le_of_ble_eq_true rfl, Nat.le_of_ble_eq_true rfl⟩ (fun r27 S1 H locs hp hW hS => ?_)
          obtain ⟨rfl, h⟩ := hp
          refine r_if_eq hx hb rfl (tgt := 117) dX5_carryOut_93 (by decide) (fun c28 => ?_) (fun c28 => ?_)
          · have h := ite_t c28 h
            refine lv_iconst (v := (0 : Int32)) hx hb dX5_carryOut_117 (by decide) ?_
            exact W.zret (v := (0 : Int32)) (ty := .boolean) hx hb hr rfl (fun t ht _ => ⟨⟨_, (σ, ν, ρ, lo), rfl, ⟨_, _, rfl, rfl, h⟩, WP.at9 ht hW⟩, hS.F ht⟩) hS.2.2 dX5_carryOut_118 (hlocks := hlocks)
          · have h := ite_f c28 h
            refine lv_aload_n hx hb dX5_carryOut_96 rfl (lv_at hl 0 rfl) ?_
            refine lv_aload_n hx hb dX5_carryOut_97 rfl (lv_at hl 1 rfl) ?_
            refine lv_aload_n hx hb dX5_carryOut_98 rfl (lv_at hl 0 rfl) ?_
            refine r_get (C := RX5) (T := TX5) (N := 13) (ci := 8) (fs := fl_1 ad ν ρ o0 (σ 1 o0)) hx hb hts hown hE hW 1 o0 g26 rfl rfl (fun w h => List.mem_cons_of_mem _ (List.mem_append_left _ (List.mem_append_left _ (List.mem_append_right _ h)))) 6 (by decide) (List.mem_of_getElem? (i := 3) rfl) rfl (v := .ref (ad 16 o0)) rfl dX5_carryOut_99 ?_
            refine lv_aload_n hx hb dX5_carryOut_102 rfl (lv_at hl 1 rfl) ?_
            refine r_get (C := RX0) (T := TX0) (N := 13) (ci := 3) (fs := fl_3 ad ν ρ o1 (σ 3 o1)) hx hb hts hown hE hW 3 o1 g1 rfl rfl (fun w h => List.mem_cons_of_mem _ (List.mem_append_left _ (List.mem_append_left _ (List.mem_append_left _ (List.mem_append_right _ h))))) 4 (by decide) (List.mem_of_getElem? (i := 2) rfl) rfl (v := .int (σ 3 o1 4)) rfl dX5_carryOut_103 ?_
            obtain ⟨b29, h⟩ := h
            have b30 := vp_lt b29
            refine r_aldq hx hb hE hW 16 o0 g26 (n := 20) (f := fun i => some (ad 2 (21 * o0 + 1 + i))) rfl 3 rfl b29 (v := .ref (ad 2 (21 * o0 + 1 + (σ 3 o1 4).toNatClampNeg))) rfl dX5_carryOut_106 ?_
            refine k_Vi (rest := []) (As := [.ref (ad 3 o1), .ref (ad 2 (21 * o0 + 1 + (σ 3 o1 4).toNatClampNeg))]) ⟨hx, hb, hml, hown, hts⟩ hE hz hS hW (mtX5_reword l z G ad σ ν ρ lo o0 o1 (21 * o0 + 1 + (σ 3 o1 4).toNatClampNeg) _ h) (cwV 2 hts gX5_carryOut_X5_reword rfl rfl rfl (by decide +kernel) ⟨Nat.le_of_ble_eq_true rfl, Nat.le_of_ble_eq_true rfl⟩) (r_recv hE hW 1 o0 g26 (ci := 8) rfl rfl) rfl hl.1 rfl (Nat.le_of_ble_eq_true rfl) dX5_carryOut_107 ⟨Nat.le_of_ble_eq_true rfl, Nat.le_of_ble_eq_true rfl⟩ (fun r31 S1 H locs hp hW hS => ?_)
            obtain ⟨t32, rfl, h⟩ := hp
            refine r_if_eq hx hb rfl (tgt := 117) dX5_carryOut_110 (by decide) (fun c33 => ?_) (fun c33 => ?_)
            · have h := ite_t c33 h
              refine lv_iconst (v := (0 : Int32)) hx hb dX5_carryOut_117 (by decide) ?_
              exact W.zret (v := (0 : Int32)) (ty := .boolean) hx hb hr rfl (fun t ht _ => ⟨⟨_, (t32, ν, ρ, lo), rfl, ⟨_, _, rfl, rfl, h⟩, WP.at9 ht hW⟩, hS.F ht⟩) hS.2.2 dX5_carryOut_118 (hlocks := hlocks)
            · have h := ite_f c33 h
              refine lv_iconst (v := (1 : Int32)) hx hb dX5_carryOut_113 (by decide) ?_
              refine lv_goto (tgt := 118) hx hb dX5_carryOut_114 (by decide) ?_
              exact W.zret (v := (1 : Int32)) (ty := .boolean) hx hb hr rfl (fun t ht _ => ⟨⟨_, (t32, ν, ρ, lo), rfl, ⟨_, _, rfl, rfl, h⟩, WP.at9 ht hW⟩, hS.F ht⟩) hS.2.2 dX5_carryOut_118 (hlocks := hlocks)
        · have h := ite_f c25 h
          by_cases c34 : (σ 3 o1 3).toInt = 4
          · have h := ite_t c34 h
            refine lv_tableIn (tgt := 58) hx hb dX5_carryOut_4 (by rw [c34]; decide) (by rw [c34]; decide) (by rw [c34]; rfl) (by decide) ?_
            refine lv_aload_n hx hb dX5_carryOut_58 rfl (lv_at hl 0 rfl) ?_
            refine lv_aload_n hx hb dX5_carryOut_59 rfl (lv_at hl 1 rfl) ?_
            obtain ⟨g35, h⟩ := h
            refine k_Vi (rest := []) (As := [.ref (ad 3 o1)]) ⟨hx, hb, hml, hown, hts⟩ hE hz hS hW (mtX5_renumber l z G ad σ ν ρ lo o0 o1 _ h) (cwV 1 hts gX5_carryOut_X5_renumber rfl rfl rfl (by decide +kernel) ⟨Nat.le_of_ble_eq_true rfl, Nat.le_of_ble_eq_true rfl⟩) (r_recv hE hW 1 o0 g35 (ci := 8) rfl rfl) rfl hl.1 rfl (Nat.le_of_ble_eq_true rfl) dX5_carryOut_60 ⟨Nat.le_of_ble_eq_true rfl, Nat.le_of_ble_eq_true rfl⟩ (fun r36 S1 H locs hp hW hS => ?_)
            obtain ⟨t37, rfl, h⟩ := hp
            obtain ⟨g38, h⟩ := h
            exact W.zret (v := r36) (ty := .boolean) hx hb hr (narrow_bo g38) (fun t ht _ => ⟨⟨_, (t37, ν, ρ, lo), rfl, ⟨_, _, rfl, rfl, h⟩, WP.at9 ht hW⟩, hS.F ht⟩) hS.2.2 dX5_carryOut_63 (hlocks := hlocks)
          · have h := ite_f c34 h
            by_cases c39 : (σ 3 o1 3).toInt = 5
            · have h := ite_t c39 h
              refine lv_tableIn (tgt := 64) hx hb dX5_carryOut_4 (by rw [c39]; decide) (by rw [c39]; decide) (by rw [c39]; rfl) (by decide) ?_
              refine lv_aload_n hx hb dX5_carryOut_64 rfl (lv_at hl 0 rfl) ?_
              refine lv_aload_n hx hb dX5_carryOut_65 rfl (lv_at hl 1 rfl) ?_
              obtain ⟨g40, h⟩ := h
              refine k_Vi (rest := []) (As := [.ref (ad 3 o1)]) ⟨hx, hb, hml, hown, hts⟩ hE hz hS hW (mtX5_shift l z G ad σ ν ρ lo o0 o1 _ h) (cwV 1 hts gX5_carryOut_X5_shift rfl rfl rfl (by decide +kernel) ⟨Nat.le_of_ble_eq_true rfl, Nat.le_of_ble_eq_true rfl⟩) (r_recv hE hW 1 o0 g40 (ci := 8) rfl rfl) rfl hl.1 rfl (Nat.le_of_ble_eq_true rfl) dX5_carryOut_66 ⟨Nat.le_of_ble_eq_true rfl, Nat.le_of_ble_eq_true rfl⟩ (fun r41 S1 H locs hp hW hS => ?_)
              obtain ⟨t42, rfl, h⟩ := hp
              obtain ⟨g43, h⟩ := h
              exact W.zret (v := r41) (ty := .boolean) hx hb hr (narrow_bo g43) (fun t ht _ => ⟨⟨_, (t42, ν, ρ, lo), rfl, ⟨_, _, rfl, rfl, h⟩, WP.at9 ht hW⟩, hS.F ht⟩) hS.2.2 dX5_carryOut_69 (hlocks := hlocks)
            · have h := ite_f c39 h
              by_cases c44 : (σ 3 o1 3).toInt = 6
              · have h := ite_t c44 h
                refine lv_tableIn (tgt := 70) hx hb dX5_carryOut_4 (by rw [c44]; decide) (by rw [c44]; decide) (by rw [c44]; rfl) (by decide) ?_
                refine lv_aload_n hx hb dX5_carryOut_70 rfl (lv_at hl 0 rfl) ?_
                refine lv_aload_n hx hb dX5_carryOut_71 rfl (lv_at hl 1 rfl) ?_
                refine r_get (C := RX0) (T := TX0) (N := 13) (ci := 3) (fs := fl_3 ad ν ρ o1 (σ 3 o1)) hx hb hts hown hE hW 3 o1 g1 rfl rfl (fun w h => List.mem_cons_of_mem _ (List.mem_append_left _ (List.mem_append_left _ (List.mem_append_left _ (List.mem_append_right _ h))))) 4 (by decide) (List.mem_of_getElem? (i := 2) rfl) rfl (v := .int (σ 3 o1 4)) rfl dX5_carryOut_72 ?_
                obtain ⟨g45, h⟩ := h
                refine k_Vi (rest := []) (As := [.int (σ 3 o1 4)]) ⟨hx, hb, hml, hown, hts⟩ hE hz hS hW (mtX5_remove l z G ad σ ν ρ lo o0 (σ 3 o1 4) _ h) (cwV 1 hts gX5_carryOut_X5_remove rfl rfl rfl (by decide +kernel) ⟨Nat.le_of_ble_eq_true rfl, Nat.le_of_ble_eq_true rfl⟩) (r_recv hE hW 1 o0 g45 (ci := 8) rfl rfl) rfl hl.1 rfl (Nat.le_of_ble_eq_true rfl) dX5_carryOut_75 ⟨Nat.le_of_ble_eq_true rfl, Nat.le_of_ble_eq_true rfl⟩ (fun r46 S1 H locs hp hW hS => ?_)
                obtain ⟨t47, rfl, h⟩ := hp
                obtain ⟨g48, h⟩ := h
                exact W.zret (v := r46) (ty := .boolean) hx hb hr (narrow_bo g48) (fun t ht _ => ⟨⟨_, (t47, ν, ρ, lo), rfl, ⟨_, _, rfl, rfl, h⟩, WP.at9 ht hW⟩, hS.F ht⟩) hS.2.2 dX5_carryOut_78 (hlocks := hlocks)
              · have h := ite_f c44 h
                by_cases c49 : (σ 3 o1 3).toInt = 7
                · have h := ite_t c49 h
                  refine lv_tableIn (tgt := 79) hx hb dX5_carryOut_4 (by rw [c49]; decide) (by rw [c49]; decide) (by rw [c49]; rfl) (by decide) ?_
                  refine lv_aload_n hx hb dX5_carryOut_79 rfl (lv_at hl 0 rfl) ?_
                  refine lv_aload_n hx hb dX5_carryOut_80 rfl (lv_at hl 1 rfl) ?_
                  obtain ⟨g50, h⟩ := h
                  refine k_Vi (rest := []) (As := [.ref (ad 3 o1)]) ⟨hx, hb, hml, hown, hts⟩ hE hz hS hW (mtX5_retell l z G ad σ ν ρ lo o0 o1 _ h) (cwV 1 hts gX5_carryOut_X5_retell rfl rfl rfl (by decide +kernel) ⟨Nat.le_of_ble_eq_true rfl, Nat.le_of_ble_eq_true rfl⟩) (r_recv hE hW 1 o0 g50 (ci := 8) rfl rfl) rfl hl.1 rfl (Nat.le_of_ble_eq_true rfl) dX5_carryOut_81 ⟨Nat.le_of_ble_eq_true rfl, Nat.le_of_ble_eq_true rfl⟩ (fun r51 S1 H locs hp hW hS => ?_)
                  obtain ⟨t52, vv53, rfl, q54, h⟩ := hp
                  obtain ⟨g55, h⟩ := h
                  exact W.zret (v := r51) (ty := .boolean) hx hb hr (narrow_bo g55) (fun t ht _ => ⟨⟨_, (t52, vv53, ρ, lo), rfl, ⟨_, _, rfl, q54, h⟩, WP.at9 ht hW⟩, hS.F ht⟩) hS.2.2 dX5_carryOut_84 (hlocks := hlocks)
                · have h := ite_f c49 h
                  refine lv_tableOut (tgt := 85) hx hb dX5_carryOut_4 (by omega) (by decide) ?_
                  refine lv_aload_n hx hb dX5_carryOut_85 rfl (lv_at hl 0 rfl) ?_
                  refine lv_aload_n hx hb dX5_carryOut_86 rfl (lv_at hl 1 rfl) ?_
                  refine r_get (C := RX0) (T := TX0) (N := 13) (ci := 3) (fs := fl_3 ad ν ρ o1 (σ 3 o1)) hx hb hts hown hE hW 3 o1 g1 rfl rfl (fun w h => List.mem_cons_of_mem _ (List.mem_append_left _ (List.mem_append_left _ (List.mem_append_left _ (List.mem_append_right _ h))))) 4 (by decide) (List.mem_of_getElem? (i := 2) rfl) rfl (v := .int (σ 3 o1 4)) rfl dX5_carryOut_87 ?_
                  obtain ⟨g56, h⟩ := h
                  refine k_Vi (rest := []) (As := [.int (σ 3 o1 4)]) ⟨hx, hb, hml, hown, hts⟩ hE hz hS hW (mtX5_isThere l z G ad σ ν ρ lo o0 (σ 3 o1 4) _ h) (cwV 1 hts gX5_carryOut_X5_isThere rfl rfl rfl (by decide +kernel) ⟨Nat.le_of_ble_eq_true rfl, Nat.le_of_ble_eq_true rfl⟩) (r_recv hE hW 1 o0 g56 (ci := 8) rfl rfl) rfl hl.1 rfl (Nat.le_of_ble_eq_true rfl) dX5_carryOut_90 ⟨Nat.le_of_ble_eq_true rfl, Nat.le_of_ble_eq_true rfl⟩ (fun r57 S1 H locs hp hW hS => ?_)
                  obtain ⟨rfl, h⟩ := hp
                  refine r_if_eq hx hb rfl (tgt := 117) dX5_carryOut_93 (by decide) (fun c58 => ?_) (fun c58 => ?_)
                  · have h := ite_t c58 h
                    refine lv_iconst (v := (0 : Int32)) hx hb dX5_carryOut_117 (by decide) ?_
                    exact W.zret (v := (0 : Int32)) (ty := .boolean) hx hb hr rfl (fun t ht _ => ⟨⟨_, (σ, ν, ρ, lo), rfl, ⟨_, _, rfl, rfl, h⟩, WP.at9 ht hW⟩, hS.F ht⟩) hS.2.2 dX5_carryOut_118 (hlocks := hlocks)
                  · have h := ite_f c58 h
                    refine lv_aload_n hx hb dX5_carryOut_96 rfl (lv_at hl 0 rfl) ?_
                    refine lv_aload_n hx hb dX5_carryOut_97 rfl (lv_at hl 1 rfl) ?_
                    refine lv_aload_n hx hb dX5_carryOut_98 rfl (lv_at hl 0 rfl) ?_
                    refine r_get (C := RX5) (T := TX5) (N := 13) (ci := 8) (fs := fl_1 ad ν ρ o0 (σ 1 o0)) hx hb hts hown hE hW 1 o0 g56 rfl rfl (fun w h => List.mem_cons_of_mem _ (List.mem_append_left _ (List.mem_append_left _ (List.mem_append_right _ h)))) 6 (by decide) (List.mem_of_getElem? (i := 3) rfl) rfl (v := .ref (ad 16 o0)) rfl dX5_carryOut_99 ?_
                    refine lv_aload_n hx hb dX5_carryOut_102 rfl (lv_at hl 1 rfl) ?_
                    refine r_get (C := RX0) (T := TX0) (N := 13) (ci := 3) (fs := fl_3 ad ν ρ o1 (σ 3 o1)) hx hb hts hown hE hW 3 o1 g1 rfl rfl (fun w h => List.mem_cons_of_mem _ (List.mem_append_left _ (List.mem_append_left _ (List.mem_append_left _ (List.mem_append_right _ h))))) 4 (by decide) (List.mem_of_getElem? (i := 2) rfl) rfl (v := .int (σ 3 o1 4)) rfl dX5_carryOut_103 ?_
                    obtain ⟨b59, h⟩ := h
                    have b60 := vp_lt b59
                    refine r_aldq hx hb hE hW 16 o0 g56 (n := 20) (f := fun i => some (ad 2 (21 * o0 + 1 + i))) rfl 3 rfl b59 (v := .ref (ad 2 (21 * o0 + 1 + (σ 3 o1 4).toNatClampNeg))) rfl dX5_carryOut_106 ?_
                    refine k_Vi (rest := []) (As := [.ref (ad 3 o1), .ref (ad 2 (21 * o0 + 1 + (σ 3 o1 4).toNatClampNeg))]) ⟨hx, hb, hml, hown, hts⟩ hE hz hS hW (mtX5_reword l z G ad σ ν ρ lo o0 o1 (21 * o0 + 1 + (σ 3 o1 4).toNatClampNeg) _ h) (cwV 2 hts gX5_carryOut_X5_reword rfl rfl rfl (by decide +kernel) ⟨Nat.le_of_ble_eq_true rfl, Nat.le_of_ble_eq_true rfl⟩) (r_recv hE hW 1 o0 g56 (ci := 8) rfl rfl) rfl hl.1 rfl (Nat.le_of_ble_eq_true rfl) dX5_carryOut_107 ⟨Nat.le_of_ble_eq_true rfl, Nat.le_of_ble_eq_true rfl⟩ (fun r61 S1 H locs hp hW hS => ?_)
                    obtain ⟨t62, rfl, h⟩ := hp
                    refine r_if_eq hx hb rfl (tgt := 117) dX5_carryOut_110 (by decide) (fun c63 => ?_) (fun c63 => ?_)
                    · have h := ite_t c63 h
                      refine lv_iconst (v := (0 : Int32)) hx hb dX5_carryOut_117 (by decide) ?_
                      exact W.zret (v := (0 : Int32)) (ty := .boolean) hx hb hr rfl (fun t ht _ => ⟨⟨_, (t62, ν, ρ, lo), rfl, ⟨_, _, rfl, rfl, h⟩, WP.at9 ht hW⟩, hS.F ht⟩) hS.2.2 dX5_carryOut_118 (hlocks := hlocks)
                    · have h := ite_f c63 h
                      refine lv_iconst (v := (1 : Int32)) hx hb dX5_carryOut_113 (by decide) ?_
                      refine lv_goto (tgt := 118) hx hb dX5_carryOut_114 (by decide) ?_
                      exact W.zret (v := (1 : Int32)) (ty := .boolean) hx hb hr rfl (fun t ht _ => ⟨⟨_, (t62, ν, ρ, lo), rfl, ⟨_, _, rfl, rfl, h⟩, WP.at9 ht hW⟩, hS.F ht⟩) hS.2.2 dX5_carryOut_118 (hlocks := hlocks)
set_option maxHeartbeats 4000000 in
set_option maxRecDepth 100000 in
theorem mtX5_rank (l : Launch) (z : Nat) (G : Gl) (ad : Nat → Nat → Nat) (σ : SG) (ν : NU) (ρ : RH) (lo : Int64) (p0 : Int32) (post : Int32 → Prop) (h : wpX5_rank σ ν p0 post) : Met l yX5_rank wsX5_rank ({ frames := 0, cells := 0, slots := 0, locals := 0 } : Room) (Pcs z G ad (σ, ν, ρ, lo) [.int p0]) (Qis z G ad (fun r S1 => S1 = (σ, ν, ρ, lo) ∧ post r)) 0 0 (Az z) := by
  refine Met.ofW (cc := cX5_rank) (maxL := 2) (ret := (some .int)) (by decide) rfl ?_
  intro p e s m args below meth c s₁ B hml hv
  obtain ⟨rfl, hz, hW, hE⟩ := hv
  have hx := B.exec
  have hb := B.bytes
  have hr := B.returns
  have hts := atoms_spec (ws := wsX5_rank) B.pre
  have hown : s.vm.findClass RX5 = some m.cls := findClass_of_methodNamed B.named
  have hlocks := B.notSynchronized
  have X : Cx p l e s m _ below meth c cX5_rank (some .int) 2 RX5 wsX5_rank z G := ⟨hx, hb, hr, hml, hown, hts, hlocks, hE, hz⟩
  have hS : va_S (Az z) s.heap s.heap [] := va_S.rf
  have hl := lv_entry [.int p0] (n := 2) (Nat.le_of_ble_eq_true rfl)
  rw [lg_entry_eq]
  generalize (lg_sl [.int p0] ++ List.replicate (2 - (lg_sl [.int p0]).length) Slot.unset).toArray = ls at hl ⊢
  have hl : lv_has ls 2 [(0, .int p0)] := hl
  unfold wpX5_rank at h
  refine lv_iload_n hx hb dX5_rank_0 rfl (lv_at hl 0 rfl) ?_
  refine lv_sipush (v := (1000 : Int32)) hx hb dX5_rank_1 (by decide) ?_
  refine lv_irem hx hb dX5_rank_4 (by decide) ?_
  refine lv_istore_n (lv' := [(1, .int (p0 - p0 / ((1000 : Int32)) * ((1000 : Int32)))), (0, .int p0)]) hx hb dX5_rank_5 rfl hl (by decide) rfl (fun ls hl => ?_)
  refine lv_iload_n hx hb dX5_rank_6 rfl (lv_at hl 1 rfl) ?_
  refine lv_iload_n hx hb dX5_rank_7 rfl (lv_at hl 0 rfl) ?_
  refine lv_isub hx hb dX5_rank_8 ?_
  refine lv_iload_n hx hb dX5_rank_9 rfl (lv_at hl 0 rfl) ?_
  refine lv_bipush (v := (27 : Int32)) hx hb dX5_rank_10 (by decide) ?_
  refine r_icmp_ge hx hb rfl (show (27 : Int32).toInt = 27 by decide) (tgt := 22) dX5_rank_12 (by decide) (fun c1 => ?_) (fun c1 => ?_)
  · have h := ite_f c1 h
    refine lv_iload_n hx hb dX5_rank_22 rfl (lv_at hl 0 rfl) ?_
    refine lv_iadd hx hb dX5_rank_23 ?_
    exact W.iret (v := (p0 - (p0 - p0 / ((1000 : Int32)) * ((1000 : Int32)))) + (p0 - p0 / ((1000 : Int32)) * ((1000 : Int32)))) hx hb hr (fun t ht _ => ⟨⟨_, (σ, ν, ρ, lo), rfl, ⟨rfl, h⟩, WP.at9 ht hW⟩, hS.F ht⟩) hS.2.2 dX5_rank_24 (hlocks := hlocks)
  · have h := ite_t c1 h
    refine lv_iload_n hx hb dX5_rank_15 rfl (lv_at hl 0 rfl) ?_
    refine lv_bipush (v := (27 : Int32)) hx hb dX5_rank_16 (by decide) ?_
    refine lv_imul hx hb dX5_rank_18 ?_
    refine lv_goto (tgt := 23) hx hb dX5_rank_19 (by decide) ?_
    refine lv_iadd hx hb dX5_rank_23 ?_
    exact W.iret (v := (p0 - (p0 - p0 / ((1000 : Int32)) * ((1000 : Int32)))) + ((p0 - p0 / ((1000 : Int32)) * ((1000 : Int32))) * ((27 : Int32)))) hx hb hr (fun t ht _ => ⟨⟨_, (σ, ν, ρ, lo), rfl, ⟨rfl, h⟩, WP.at9 ht hW⟩, hS.F ht⟩) hS.2.2 dX5_rank_24 (hlocks := hlocks)
set_option maxHeartbeats 4000000 in
set_option maxRecDepth 100000 in
theorem tX5_innerBehind_67 {p : Program} {l : Launch} {e : Env} {s : State} {m : MethodId} {args : Array Value} {below : List Frame} {meth : Method} {c : Code} {z : Nat} {G : Gl} {ad : Nat → Nat → Nat} {σ : SG} {ν : NU} {ρ : RH} {lo : Int64} (X : Cx p l e s m args below meth c cX5_innerBehind (some .int) 7 RX5 wsX5_innerBehind z G) (o0 : Nat) (p1 : Int32) (p2 : Int32) (κ8 : SG → NU → Int32 → Int32 → Int32 → Prop) (post : Int32 → Prop) (hk8 : ∀ (x3 : Int32) (x4 : Int32) (x5 : Int32) {H : Heap} {locs : List Loc} {ls : Array Slot}, WP z G ad (σ, ν, ρ, lo) H → va_S (Az z) s.heap H locs → lv_has ls 7 [(0, .ref (ad 1 o0)), (1, .int p1), (2, .int p2), (3, .int x3), (4, .int x4), (5, .int x5)] → κ8 σ ν x3 x4 x5 → W p l e ({ frames := 1, cells := 0, slots := 0, locals := 21 } : Room) s m args below meth c H locs 0 0 (MQ below (Qis z G ad (fun r S1 => S1 = (σ, ν, ρ, lo) ∧ post r)) args s 0 0 (Az z)) (F0 m 8 ls [])) : ∀ (x5 : Int32) (x6 : Int32) {H : Heap} {locs : List Loc} {ls : Array Slot}, WP z G ad (σ, ν, ρ, lo) H → va_S (Az z) s.heap H locs → lv_has ls 7 [(0, .ref (ad 1 o0)), (1, .int p1), (2, .int p2), (5, .int x5), (6, .int x6)] → jX5_innerBehind_67 o0 p1 p2 κ8 post σ ν x5 x6 → W p l e ({ frames := 1, cells := 0, slots := 0, locals := 21 } : Room) s m args below meth c H locs 0 0 (MQ below (Qis z G ad (fun r S1 => S1 = (σ, ν, ρ, lo) ∧ post r)) args s 0 0 (Az z)) (F0 m 67 ls []) := by
  obtain ⟨hx, hb, hr, hml, hown, hts, hlocks, hE, hz⟩ := id X
  intro x5 x6 H locs ls hW hS hl h
  unfold jX5_innerBehind_67 at h
  refine lv_iload hx hb dX5_innerBehind_67 (lv_at hl 3 rfl) ?_
  refine lv_istore_n (lv' := [(3, .int x5), (0, .ref (ad 1 o0)), (1, .int p1), (2, .int p2), (5, .int x5), (6, .int x6)]) hx hb dX5_innerBehind_69 rfl hl (by decide) rfl (fun ls hl => ?_)
  refine lv_iload hx hb dX5_innerBehind_70 (lv_at hl 5 rfl) ?_
  refine lv_istore (lv' := [(4, .int x6), (3, .int x5), (0, .ref (ad 1 o0)), (1, .int p1), (2, .int p2), (5, .int x5), (6, .int x6)]) hx hb dX5_innerBehind_72 hl (by decide) rfl (fun ls hl => ?_)
  refine lv_iinc (v := x5 + (1 : Int32)) (lv' := [(5, .int (x5 + (1 : Int32))), (4, .int x6), (3, .int x5), (0, .ref (ad 1 o0)), (1, .int p1), (2, .int p2), (6, .int x6)]) hx hb dX5_innerBehind_74 hl (k := 5) rfl rfl (by decide) rfl (fun ls hl => ?_)
  refine lv_goto (tgt := 8) hx hb dX5_innerBehind_77 (by decide) ?_
  exact hk8 x5 x6 (x5 + (1 : Int32)) hW hS (lv_sub hl [3, 4, 5, 2, 1, 0] rfl) h
set_option maxHeartbeats 4000000 in
set_option maxRecDepth 100000 in
theorem tX5_innerBehind_8 {p : Program} {l : Launch} {e : Env} {s : State} {m : MethodId} {args : Array Value} {below : List Frame} {meth : Method} {c : Code} {z : Nat} {G : Gl} {ad : Nat → Nat → Nat} {σ : SG} {ν : NU} {ρ : RH} {lo : Int64} (X : Cx p l e s m args below meth c cX5_innerBehind (some .int) 7 RX5 wsX5_innerBehind z G) (o0 : Nat) (p1 : Int32) (p2 : Int32)  (post : Int32 → Prop) : ∀ (n : Nat) (x3 : Int32) (x4 : Int32) (x5 : Int32) {H : Heap} {locs : List Loc} {ls : Array Slot}, WP z G ad (σ, ν, ρ, lo) H → va_S (Az z) s.heap H locs → lv_has ls 7 [(0, .ref (ad 1 o0)), (1, .int p1), (2, .int p2), (3, .int x3), (4, .int x4), (5, .int x5)] → wX5_innerBehind_8 o0 p1 p2 post n σ ν x3 x4 x5 → W p l e ({ frames := 1, cells := 0, slots := 0, locals := 21 } : Room) s m args below meth c H locs 0 0 (MQ below (Qis z G ad (fun r S1 => S1 = (σ, ν, ρ, lo) ∧ post r)) args s 0 0 (Az z)) (F0 m 8 ls []) := by
  obtain ⟨hx, hb, hr, hml, hown, hts, hlocks, hE, hz⟩ := id X
  intro n
  induction n with
  | zero =>
    intro x3 x4 x5 H locs ls hW hS hl h
    exact absurd h id
  | succ n ih =>
    intro x3 x4 x5 H locs ls hW hS hl h
    unfold wX5_innerBehind_8 at h
    refine lv_iload hx hb dX5_innerBehind_8 (lv_at hl 5 rfl) ?_
    refine lv_bipush (v := (20 : Int32)) hx hb dX5_innerBehind_10 (by decide) ?_
    refine r_icmp_ge hx hb rfl (show (20 : Int32).toInt = 20 by decide) (tgt := 80) dX5_innerBehind_12 (by decide) (fun c1 => ?_) (fun c1 => ?_)
    · have h := ite_f c1 h
      refine lv_iload_n hx hb dX5_innerBehind_80 rfl (lv_at hl 3 rfl) ?_
      exact W.iret (v := x3) hx hb hr (fun t ht _ => ⟨⟨_, (σ, ν, ρ, lo), rfl, ⟨rfl, h⟩, WP.at9 ht hW⟩, hS.F ht⟩) hS.2.2 dX5_innerBehind_81 (hlocks := hlocks)
    · have h := ite_t c1 h
      refine lv_aload_n hx hb dX5_innerBehind_15 rfl (lv_at hl 0 rfl) ?_
      obtain ⟨g2, h⟩ := h
      refine r_get (C := RX5) (T := TX5) (N := 13) (ci := 8) (fs := fl_1 ad ν ρ o0 (σ 1 o0)) hx hb hts hown hE hW 1 o0 g2 rfl rfl (fun w h => List.mem_cons_of_mem _ (List.mem_append_right _ h)) 4 (by decide) (List.mem_of_getElem? (i := 1) rfl) rfl (v := .ref (ad 14 o0)) rfl dX5_innerBehind_16 ?_
      refine lv_iload hx hb dX5_innerBehind_19 (lv_at hl 5 rfl) ?_
      obtain ⟨b3, h⟩ := h
      refine r_iald hx hb hE hW 14 o0 g2 (n := 20) (f := σ 14 o0) rfl b3 (v := σ 14 o0 x5.toNatClampNeg) rfl dX5_innerBehind_21 ?_
      refine k_Si (rest := []) (As := [.int (σ 14 o0 x5.toNatClampNeg)]) ⟨hx, hb, hml, hown, hts⟩ hE hz hS hW (mtX5_rank l z G ad σ ν ρ lo (σ 14 o0 x5.toNatClampNeg) _ h) (va_cwS 1 hts gX5_innerBehind_X5_rank rfl rfl rfl (by decide +kernel) ⟨Nat.le_of_ble_eq_true rfl, Nat.le_of_ble_eq_true rfl⟩) rfl hl.1 rfl (Nat.le_of_ble_eq_true rfl) dX5_innerBehind_22 ⟨Nat.le_of_ble_eq_true rfl, Nat.le_of_ble_eq_true rfl⟩ (fun r4 S1 H locs hp hW hS => ?_)
      obtain ⟨rfl, h⟩ := hp
      refine lv_istore (lv' := [(6, .int r4), (0, .ref (ad 1 o0)), (1, .int p1), (2, .int p2), (3, .int x3), (4, .int x4), (5, .int x5)]) hx hb dX5_innerBehind_25 hl (by decide) rfl (fun ls hl => ?_)
      refine lv_aload_n hx hb dX5_innerBehind_27 rfl (lv_at hl 1 rfl) ?_
      refine r_get (C := RX5) (T := TX5) (N := 13) (ci := 8) (fs := fl_1 ad ν ρ o0 (σ 1 o0)) hx hb hts hown hE hW 1 o0 g2 rfl rfl (fun w h => List.mem_cons_of_mem _ (List.mem_append_right _ h)) 4 (by decide) (List.mem_of_getElem? (i := 1) rfl) rfl (v := .ref (ad 14 o0)) rfl dX5_innerBehind_28 ?_
      refine lv_iload hx hb dX5_innerBehind_31 (lv_at hl 6 rfl) ?_
      obtain ⟨b5, h⟩ := h
      refine r_iald hx hb hE hW 14 o0 g2 (n := 20) (f := σ 14 o0) rfl b5 (v := σ 14 o0 x5.toNatClampNeg) rfl dX5_innerBehind_33 ?_
      refine lv_iconst (v := (-1 : Int32)) hx hb dX5_innerBehind_34 (by decide) ?_
      refine r_icmp_eq hx hb rfl (show (-1 : Int32).toInt = (-1) by decide) (tgt := 74) dX5_innerBehind_35 (by decide) (fun c6 => ?_) (fun c6 => ?_)
      · have h := ite_t c6 h
        refine lv_iinc (v := x5 + (1 : Int32)) (lv' := [(5, .int (x5 + (1 : Int32))), (6, .int r4), (0, .ref (ad 1 o0)), (1, .int p1), (2, .int p2), (3, .int x3), (4, .int x4)]) hx hb dX5_innerBehind_74 hl (k := 6) rfl rfl (by decide) rfl (fun ls hl => ?_)
        refine lv_goto (tgt := 8) hx hb dX5_innerBehind_77 (by decide) ?_
        exact ih x3 x4 (x5 + (1 : Int32)) hW hS (lv_sub hl [2, 3, 4, 5, 6, 0] rfl) h
      · have h := ite_f c6 h
        refine lv_aload_n hx hb dX5_innerBehind_38 rfl (lv_at hl 1 rfl) ?_
        refine r_get (C := RX5) (T := TX5) (N := 13) (ci := 8) (fs := fl_1 ad ν ρ o0 (σ 1 o0)) hx hb hts hown hE hW 1 o0 g2 rfl rfl (fun w h => List.mem_cons_of_mem _ (List.mem_append_right _ h)) 5 (by decide) (List.mem_of_getElem? (i := 2) rfl) rfl (v := .ref (ad 15 o0)) rfl dX5_innerBehind_39 ?_
        refine lv_iload hx hb dX5_innerBehind_42 (lv_at hl 6 rfl) ?_
        obtain ⟨b7, h⟩ := h
        refine r_iald hx hb hE hW 15 o0 g2 (n := 20) (f := σ 15 o0) rfl b7 (v := σ 15 o0 x5.toNatClampNeg) rfl dX5_innerBehind_44 ?_
        refine lv_iload_n hx hb dX5_innerBehind_45 rfl (lv_at hl 2 rfl) ?_
        refine r_icmp_ne hx hb rfl rfl (tgt := 74) dX5_innerBehind_46 (by decide) (fun c8 => ?_) (fun c8 => ?_)
        · have h := ite_f c8 h
          refine lv_iinc (v := x5 + (1 : Int32)) (lv' := [(5, .int (x5 + (1 : Int32))), (6, .int r4), (0, .ref (ad 1 o0)), (1, .int p1), (2, .int p2), (3, .int x3), (4, .int x4)]) hx hb dX5_innerBehind_74 hl (k := 6) rfl rfl (by decide) rfl (fun ls hl => ?_)
          refine lv_goto (tgt := 8) hx hb dX5_innerBehind_77 (by decide) ?_
          exact ih x3 x4 (x5 + (1 : Int32)) hW hS (lv_sub hl [2, 3, 4, 5, 6, 0] rfl) h
        · have h := ite_t c8 h
          refine lv_iload hx hb dX5_innerBehind_49 (lv_at hl 0 rfl) ?_
          refine lv_iload_n hx hb dX5_innerBehind_51 rfl (lv_at hl 3 rfl) ?_
          refine r_icmp_le hx hb rfl rfl (tgt := 74) dX5_innerBehind_52 (by decide) (fun c9 => ?_) (fun c9 => ?_)
          · have h := ite_t c9 h
            refine lv_iinc (v := x5 + (1 : Int32)) (lv' := [(5, .int (x5 + (1 : Int32))), (6, .int r4), (0, .ref (ad 1 o0)), (1, .int p1), (2, .int p2), (3, .int x3), (4, .int x4)]) hx hb dX5_innerBehind_74 hl (k := 6) rfl rfl (by decide) rfl (fun ls hl => ?_)
            refine lv_goto (tgt := 8) hx hb dX5_innerBehind_77 (by decide) ?_
            exact ih x3 x4 (x5 + (1 : Int32)) hW hS (lv_sub hl [2, 3, 4, 5, 6, 0] rfl) h
          · have h := ite_f c9 h
            refine lv_iload_n hx hb dX5_innerBehind_55 rfl (lv_at hl 4 rfl) ?_
            refine lv_iconst (v := (-1 : Int32)) hx hb dX5_innerBehind_56 (by decide) ?_
            refine r_icmp_eq hx hb rfl (show (-1 : Int32).toInt = (-1) by decide) (tgt := 67) dX5_innerBehind_57 (by decide) (fun c10 => ?_) (fun c10 => ?_)
            · have h := ite_t c10 h
              exact tX5_innerBehind_67 (σ := σ) (ρ := ρ) X o0 p1 p2 (wX5_innerBehind_8 o0 p1 p2 post n) post ih x5 r4 hW hS (lv_sub hl [1, 2, 3, 6, 0] rfl) h
            · have h := ite_f c10 h
              refine lv_iload hx hb dX5_innerBehind_60 (lv_at hl 0 rfl) ?_
              refine lv_iload hx hb dX5_innerBehind_62 (lv_at hl 5 rfl) ?_
              refine r_icmp_ge hx hb rfl rfl (tgt := 74) dX5_innerBehind_64 (by decide) (fun c11 => ?_) (fun c11 => ?_)
              · have h := ite_f c11 h
                refine lv_iinc (v := x5 + (1 : Int32)) (lv' := [(5, .int (x5 + (1 : Int32))), (6, .int r4), (0, .ref (ad 1 o0)), (1, .int p1), (2, .int p2), (3, .int x3), (4, .int x4)]) hx hb dX5_innerBehind_74 hl (k := 6) rfl rfl (by decide) rfl (fun ls hl => ?_)
                refine lv_goto (tgt := 8) hx hb dX5_innerBehind_77 (by decide) ?_
                exact ih x3 x4 (x5 + (1 : Int32)) hW hS (lv_sub hl [2, 3, 4, 5, 6, 0] rfl) h
              · have h := ite_t c11 h
                exact tX5_innerBehind_67 (σ := σ) (ρ := ρ) X o0 p1 p2 (wX5_innerBehind_8 o0 p1 p2 post n) post ih x5 r4 hW hS (lv_sub hl [1, 2, 3, 6, 0] rfl) h
set_option maxHeartbeats 4000000 in
set_option maxRecDepth 100000 in
theorem mtX5_innerBehind (l : Launch) (z : Nat) (G : Gl) (ad : Nat → Nat → Nat) (σ : SG) (ν : NU) (ρ : RH) (lo : Int64) (o0 : Nat) (p1 : Int32) (p2 : Int32) (post : Int32 → Prop) (h : wpX5_innerBehind σ ν o0 p1 p2 post) : Met l yX5_innerBehind wsX5_innerBehind ({ frames := 1, cells := 0, slots := 0, locals := 21 } : Room) (Pcs z G ad (σ, ν, ρ, lo) [.ref (ad 1 o0), .int p1, .int p2]) (Qis z G ad (fun r S1 => S1 = (σ, ν, ρ, lo) ∧ post r)) 0 0 (Az z) := by
  refine Met.ofW (cc := cX5_innerBehind) (maxL := 7) (ret := (some .int)) (by decide) rfl ?_
  intro p e s m args below meth c s₁ B hml hv
  obtain ⟨rfl, hz, hW, hE⟩ := hv
  have hx := B.exec
  have hb := B.bytes
  have hr := B.returns
  have hts := atoms_spec (ws := wsX5_innerBehind) B.pre
  have hown : s.vm.findClass RX5 = some m.cls := findClass_of_methodNamed B.named
  have hlocks := B.notSynchronized
  have X : Cx p l e s m _ below meth c cX5_innerBehind (some .int) 7 RX5 wsX5_innerBehind z G := ⟨hx, hb, hr, hml, hown, hts, hlocks, hE, hz⟩
  have hS : va_S (Az z) s.heap s.heap [] := va_S.rf
  have hl := lv_entry [.ref (ad 1 o0), .int p1, .int p2] (n := 7) (Nat.le_of_ble_eq_true rfl)
  rw [lg_entry_eq]
  generalize (lg_sl [.ref (ad 1 o0), .int p1, .int p2] ++ List.replicate (7 - (lg_sl [.ref (ad 1 o0), .int p1, .int p2]).length) Slot.unset).toArray = ls at hl ⊢
  have hl : lv_has ls 7 [(0, .ref (ad 1 o0)), (1, .int p1), (2, .int p2)] := hl
  unfold wpX5_innerBehind at h
  refine lv_iconst (v := (-1 : Int32)) hx hb dX5_innerBehind_0 (by decide) ?_
  refine lv_istore_n (lv' := [(3, .int ((-1 : Int32))), (0, .ref (ad 1 o0)), (1, .int p1), (2, .int p2)]) hx hb dX5_innerBehind_1 rfl hl (by decide) rfl (fun ls hl => ?_)
  refine lv_iconst (v := (-1 : Int32)) hx hb dX5_innerBehind_2 (by decide) ?_
  refine lv_istore (lv' := [(4, .int ((-1 : Int32))), (3, .int ((-1 : Int32))), (0, .ref (ad 1 o0)), (1, .int p1), (2, .int p2)]) hx hb dX5_innerBehind_3 hl (by decide) rfl (fun ls hl => ?_)
  refine lv_iconst (v := (0 : Int32)) hx hb dX5_innerBehind_5 (by decide) ?_
  refine lv_istore (lv' := [(5, .int ((0 : Int32))), (4, .int ((-1 : Int32))), (3, .int ((-1 : Int32))), (0, .ref (ad 1 o0)), (1, .int p1), (2, .int p2)]) hx hb dX5_innerBehind_6 hl (by decide) rfl (fun ls hl => ?_)
  obtain ⟨n12, h⟩ := h
  exact tX5_innerBehind_8 (σ := σ) (ρ := ρ) X o0 p1 p2 post  n12 ((-1 : Int32)) ((-1 : Int32)) ((0 : Int32)) hW hS (lv_sub hl [3, 4, 5, 2, 1, 0] rfl) h
set_option maxHeartbeats 4000000 in
set_option maxRecDepth 100000 in
theorem tX5_listInOrder_67 {p : Program} {l : Launch} {e : Env} {s : State} {m : MethodId} {args : Array Value} {below : List Frame} {meth : Method} {c : Code} {z : Nat} {G : Gl} {ad : Nat → Nat → Nat} {σ : SG} {ν : NU} {ρ : RH} {lo : Int64} (X : Cx p l e s m args below meth c cX5_listInOrder none 5 RX5 wsX5_listInOrder z G) (o0 : Nat) (κ6 : SG → NU → Int32 → Int32 → Int32 → Prop) (post : SG → Prop) (hk6 : ∀ (a1 : SG) (x1 : Int32) (x2 : Int32) (x3 : Int32) {H : Heap} {locs : List Loc} {ls : Array Slot}, WP z G ad (a1, ν, ρ, lo) H → va_S (Az z) s.heap H locs → lv_has ls 5 [(0, .ref (ad 1 o0)), (1, .int x1), (2, .int x2), (3, .int x3)] → κ6 a1 ν x1 x2 x3 → W p l e ({ frames := 2, cells := 0, slots := 0, locals := 47 } : Room) s m args below meth c H locs 0 0 (MQ below (Qvs z G ad (fun S1 => ∃ t : SG, S1 = (t, ν, ρ, lo) ∧ post t)) args s 0 0 (Az z)) (F0 m 6 ls [])) : ∀ (a1 : SG) (x1 : Int32) (x3 : Int32) {H : Heap} {locs : List Loc} {ls : Array Slot}, WP z G ad (a1, ν, ρ, lo) H → va_S (Az z) s.heap H locs → lv_has ls 5 [(0, .ref (ad 1 o0)), (1, .int x1), (3, .int x3)] → jX5_listInOrder_67 o0 κ6 post a1 ν x1 x3 → W p l e ({ frames := 2, cells := 0, slots := 0, locals := 47 } : Room) s m args below meth c H locs 0 0 (MQ below (Qvs z G ad (fun S1 => ∃ t : SG, S1 = (t, ν, ρ, lo) ∧ post t)) args s 0 0 (Az z)) (F0 m 67 ls []) := by
  obtain ⟨hx, hb, hr, hml, hown, hts, hlocks, hE, hz⟩ := id X
  intro a1 x1 x3 H locs ls hW hS hl h
  unfold jX5_listInOrder_67 at h
  refine lv_iload_n hx hb dX5_listInOrder_67 rfl (lv_at hl 1 rfl) ?_
  refine lv_iconst (v := (-1 : Int32)) hx hb dX5_listInOrder_68 (by decide) ?_
  refine r_icmp_eq hx hb rfl (show (-1 : Int32).toInt = (-1) by decide) (tgt := 90) dX5_listInOrder_69 (by decide) (fun c5 => ?_) (fun c5 => ?_)
  · have h := ite_t c5 h
    exact W.vret hx hb hr (fun t ht _ => ⟨⟨(a1, ν, ρ, lo), rfl, ⟨_, rfl, h⟩, WP.at9 ht hW⟩, hS.F ht⟩) hS.2.2 dX5_listInOrder_90 (hlocks := hlocks)
  · have h := ite_f c5 h
    refine lv_aload_n hx hb dX5_listInOrder_72 rfl (lv_at hl 0 rfl) ?_
    refine lv_iload_n hx hb dX5_listInOrder_73 rfl (lv_at hl 1 rfl) ?_
    obtain ⟨g6, h⟩ := h
    refine k_Vi (rest := []) (As := [.int x1]) ⟨hx, hb, hml, hown, hts⟩ hE hz hS hW (mtX5_labelOf l z G ad a1 ν ρ lo o0 x1 _ h) (cwV 1 hts gX5_listInOrder_X5_labelOf rfl rfl rfl (by decide +kernel) ⟨Nat.le_of_ble_eq_true rfl, Nat.le_of_ble_eq_true rfl⟩) (r_recv hE hW 1 o0 g6 (ci := 8) rfl rfl) rfl hl.1 rfl (Nat.le_of_ble_eq_true rfl) dX5_listInOrder_74 ⟨Nat.le_of_ble_eq_true rfl, Nat.le_of_ble_eq_true rfl⟩ (fun r7 S1 H locs hp hW hS => ?_)
    obtain ⟨rfl, h⟩ := hp
    refine k_Si (rest := []) (As := [.int r7]) ⟨hx, hb, hml, hown, hts⟩ hE hz hS hW (mtX5_rank l z G ad a1 ν ρ lo r7 _ h) (va_cwS 1 hts gX5_listInOrder_X5_rank rfl rfl rfl (by decide +kernel) ⟨Nat.le_of_ble_eq_true rfl, Nat.le_of_ble_eq_true rfl⟩) rfl hl.1 rfl (Nat.le_of_ble_eq_true rfl) dX5_listInOrder_77 ⟨Nat.le_of_ble_eq_true rfl, Nat.le_of_ble_eq_true rfl⟩ (fun r8 S1 H locs hp hW hS => ?_)
    obtain ⟨rfl, h⟩ := hp
    refine lv_istore_n (lv' := [(2, .int r8), (0, .ref (ad 1 o0)), (1, .int x1), (3, .int x3)]) hx hb dX5_listInOrder_80 rfl hl (by decide) rfl (fun ls hl => ?_)
    refine lv_aload_n hx hb dX5_listInOrder_81 rfl (lv_at hl 1 rfl) ?_
    refine lv_iload_n hx hb dX5_listInOrder_82 rfl (lv_at hl 2 rfl) ?_
    refine k_Vi (rest := []) (As := [.int x1]) ⟨hx, hb, hml, hown, hts⟩ hE hz hS hW (mtX5_outerOf l z G ad a1 ν ρ lo o0 x1 _ h) (cwV 1 hts gX5_listInOrder_X5_outerOf rfl rfl rfl (by decide +kernel) ⟨Nat.le_of_ble_eq_true rfl, Nat.le_of_ble_eq_true rfl⟩) (r_recv hE hW 1 o0 g6 (ci := 8) rfl rfl) rfl hl.1 rfl (Nat.le_of_ble_eq_true rfl) dX5_listInOrder_83 ⟨Nat.le_of_ble_eq_true rfl, Nat.le_of_ble_eq_true rfl⟩ (fun r9 S1 H locs hp hW hS => ?_)
    obtain ⟨rfl, h⟩ := hp
    refine lv_istore_n (lv' := [(1, .int r9), (2, .int r8), (0, .ref (ad 1 o0)), (3, .int x3)]) hx hb dX5_listInOrder_86 rfl hl (by decide) rfl (fun ls hl => ?_)
    refine lv_goto (tgt := 91) hx hb dX5_listInOrder_87 (by decide) ?_
    refine lv_iinc (v := x3 + (1 : Int32)) (lv' := [(3, .int (x3 + (1 : Int32))), (1, .int r9), (2, .int r8), (0, .ref (ad 1 o0))]) hx hb dX5_listInOrder_91 hl (k := 3) rfl rfl (by decide) rfl (fun ls hl => ?_)
    refine lv_goto (tgt := 6) hx hb dX5_listInOrder_94 (by decide) ?_
    exact hk6 a1 r9 r8 (x3 + (1 : Int32)) hW hS (lv_sub hl [3, 1, 2, 0] rfl) h
set_option maxHeartbeats 4000000 in
set_option maxRecDepth 100000 in
theorem tX5_listInOrder_6 {p : Program} {l : Launch} {e : Env} {s : State} {m : MethodId} {args : Array Value} {below : List Frame} {meth : Method} {c : Code} {z : Nat} {G : Gl} {ad : Nat → Nat → Nat} {σ : SG} {ν : NU} {ρ : RH} {lo : Int64} (X : Cx p l e s m args below meth c cX5_listInOrder none 5 RX5 wsX5_listInOrder z G) (o0 : Nat)  (post : SG → Prop) : ∀ (n : Nat) (a1 : SG) (x1 : Int32) (x2 : Int32) (x3 : Int32) {H : Heap} {locs : List Loc} {ls : Array Slot}, WP z G ad (a1, ν, ρ, lo) H → va_S (Az z) s.heap H locs → lv_has ls 5 [(0, .ref (ad 1 o0)), (1, .int x1), (2, .int x2), (3, .int x3)] → wX5_listInOrder_6 o0 post n a1 ν x1 x2 x3 → W p l e ({ frames := 2, cells := 0, slots := 0, locals := 47 } : Room) s m args below meth c H locs 0 0 (MQ below (Qvs z G ad (fun S1 => ∃ t : SG, S1 = (t, ν, ρ, lo) ∧ post t)) args s 0 0 (Az z)) (F0 m 6 ls []) := by
  obtain ⟨hx, hb, hr, hml, hown, hts, hlocks, hE, hz⟩ := id X
  intro n
  induction n with
  | zero =>
    intro a1 x1 x2 x3 H locs ls hW hS hl h
    exact absurd h id
  | succ n ih =>
    intro a1 x1 x2 x3 H locs ls hW hS hl h
    unfold wX5_listInOrder_6 at h
    refine lv_iload_n hx hb dX5_listInOrder_6 rfl (lv_at hl 3 rfl) ?_
    refine lv_bipush (v := (40 : Int32)) hx hb dX5_listInOrder_7 (by decide) ?_
    refine r_icmp_gt hx hb rfl (show (40 : Int32).toInt = 40 by decide) (tgt := 97) dX5_listInOrder_9 (by decide) (fun c1 => ?_) (fun c1 => ?_)
    · have h := ite_f c1 h
      exact W.vret hx hb hr (fun t ht _ => ⟨⟨(a1, ν, ρ, lo), rfl, ⟨_, rfl, h⟩, WP.at9 ht hW⟩, hS.F ht⟩) hS.2.2 dX5_listInOrder_97 (hlocks := hlocks)
    · have h := ite_t c1 h
      refine lv_aload_n hx hb dX5_listInOrder_12 rfl (lv_at hl 0 rfl) ?_
      refine lv_iload_n hx hb dX5_listInOrder_13 rfl (lv_at hl 1 rfl) ?_
      refine lv_iload_n hx hb dX5_listInOrder_14 rfl (lv_at hl 2 rfl) ?_
      obtain ⟨g2, h⟩ := h
      refine k_Vi (rest := []) (As := [.int x1, .int x2]) ⟨hx, hb, hml, hown, hts⟩ hE hz hS hW (mtX5_innerBehind l z G ad a1 ν ρ lo o0 x1 x2 _ h) (cwV 2 hts gX5_listInOrder_X5_innerBehind rfl rfl rfl (by decide +kernel) ⟨Nat.le_of_ble_eq_true rfl, Nat.le_of_ble_eq_true rfl⟩) (r_recv hE hW 1 o0 g2 (ci := 8) rfl rfl) rfl hl.1 rfl (Nat.le_of_ble_eq_true rfl) dX5_listInOrder_15 ⟨Nat.le_of_ble_eq_true rfl, Nat.le_of_ble_eq_true rfl⟩ (fun r3 S1 H locs hp hW hS => ?_)
      obtain ⟨rfl, h⟩ := hp
      refine lv_istore (lv' := [(4, .int r3), (0, .ref (ad 1 o0)), (1, .int x1), (2, .int x2), (3, .int x3)]) hx hb dX5_listInOrder_18 hl (by decide) rfl (fun ls hl => ?_)
      refine lv_iload hx hb dX5_listInOrder_20 (lv_at hl 0 rfl) ?_
      refine lv_iconst (v := (-1 : Int32)) hx hb dX5_listInOrder_22 (by decide) ?_
      refine r_icmp_eq hx hb rfl (show (-1 : Int32).toInt = (-1) by decide) (tgt := 67) dX5_listInOrder_23 (by decide) (fun c4 => ?_) (fun c4 => ?_)
      · have h := ite_t c4 h
        exact tX5_listInOrder_67 (σ := σ) (ρ := ρ) X o0 (wX5_listInOrder_6 o0 post n) post ih a1 x1 x3 hW hS (lv_sub hl [1, 2, 4] rfl) h
      · have h := ite_f c4 h
        refine lv_aload_n hx hb dX5_listInOrder_26 rfl (lv_at hl 1 rfl) ?_
        refine r_get (C := RX5) (T := TX5) (N := 13) (ci := 8) (fs := fl_1 ad ν ρ o0 (a1 1 o0)) hx hb hts hown hE hW 1 o0 g2 rfl rfl (fun w h => List.mem_cons_of_mem _ (List.mem_append_right _ h)) 9 (by decide) (List.mem_of_getElem? (i := 1) rfl) rfl (v := .int (a1 1 o0 9)) rfl dX5_listInOrder_27 ?_
        refine lv_aload_n hx hb dX5_listInOrder_30 rfl (lv_at hl 1 rfl) ?_
        refine r_get (C := RX5) (T := TX5) (N := 13) (ci := 8) (fs := fl_1 ad ν ρ o0 (a1 1 o0)) hx hb hts hown hE hW 1 o0 g2 rfl rfl (fun w h => List.mem_cons_of_mem _ (List.mem_append_right _ h)) 8 (by decide) (List.mem_of_getElem? (i := 2) rfl) rfl (v := .ref (ad 18 o0)) rfl dX5_listInOrder_31 ?_
        refine r_alen hx hb hE hW 18 o0 g2 rfl 0 rfl (v := (20 : Int32)) rfl dX5_listInOrder_34 ?_
        refine r_icmp_ge hx hb rfl (show (20 : Int32).toInt = 20 by decide) (tgt := 67) dX5_listInOrder_35 (by decide) (fun c10 => ?_) (fun c10 => ?_)
        · have h := ite_f c10 h
          exact tX5_listInOrder_67 (σ := σ) (ρ := ρ) X o0 (wX5_listInOrder_6 o0 post n) post ih a1 x1 x3 hW hS (lv_sub hl [1, 2, 4] rfl) h
        · have h := ite_t c10 h
          refine lv_aload_n hx hb dX5_listInOrder_38 rfl (lv_at hl 1 rfl) ?_
          refine r_get (C := RX5) (T := TX5) (N := 13) (ci := 8) (fs := fl_1 ad ν ρ o0 (a1 1 o0)) hx hb hts hown hE hW 1 o0 g2 rfl rfl (fun w h => List.mem_cons_of_mem _ (List.mem_append_right _ h)) 8 (by decide) (List.mem_of_getElem? (i := 2) rfl) rfl (v := .ref (ad 18 o0)) rfl dX5_listInOrder_39 ?_
          refine lv_aload_n hx hb dX5_listInOrder_42 rfl (lv_at hl 1 rfl) ?_
          refine r_get (C := RX5) (T := TX5) (N := 13) (ci := 8) (fs := fl_1 ad ν ρ o0 (a1 1 o0)) hx hb hts hown hE hW 1 o0 g2 rfl rfl (fun w h => List.mem_cons_of_mem _ (List.mem_append_right _ h)) 9 (by decide) (List.mem_of_getElem? (i := 1) rfl) rfl (v := .int (a1 1 o0 9)) rfl dX5_listInOrder_43 ?_
          refine lv_iload hx hb dX5_listInOrder_46 (lv_at hl 0 rfl) ?_
          obtain ⟨b11, h⟩ := h
          refine r_iastC hx hb hE hW hS 18 o0 g2 (n := 20) (fun _ => rfl) b11 dX5_listInOrder_48 (fun t12 e13 H locs hW hS => ?_)
          have h := h t12 e13
          refine lv_aload_n hx hb dX5_listInOrder_49 rfl (lv_at hl 1 rfl) ?_
          refine lv_dup hx hb dX5_listInOrder_50 rfl ?_
          refine r_get (C := RX5) (T := TX5) (N := 13) (ci := 8) (fs := fl_1 ad ν ρ o0 (t12 1 o0)) hx hb hts hown hE hW 1 o0 g2 rfl rfl (fun w h => List.mem_cons_of_mem _ (List.mem_append_right _ h)) 9 (by decide) (List.mem_of_getElem? (i := 1) rfl) rfl (v := .int (t12 1 o0 9)) rfl dX5_listInOrder_51 ?_
          refine lv_iconst (v := (1 : Int32)) hx hb dX5_listInOrder_54 (by decide) ?_
          refine lv_iadd hx hb dX5_listInOrder_55 ?_
          refine r_putC (C := RX5) (T := TX5) (N := 13) (ci := 8) (fl := fl_1 ad ν ρ o0) hx hb hts hown hE hW hS 1 o0 g2 (fun _ => rfl) rfl (fun w h => List.mem_cons_of_mem _ (List.mem_append_right _ h)) tyX5_ok nmX5 9 (by decide) (List.mem_of_getElem? (i := 1) rfl) rfl rfl rfl (Nat.le_of_ble_eq_true rfl) (x := (t12 1 o0 9) + ((1 : Int32))) rfl dX5_listInOrder_56 (fun t14 e15 H locs hW hS => ?_)
          have h := h t14 e15
          refine lv_iload hx hb dX5_listInOrder_59 (lv_at hl 0 rfl) ?_
          refine lv_istore_n (lv' := [(1, .int r3), (4, .int r3), (0, .ref (ad 1 o0)), (2, .int x2), (3, .int x3)]) hx hb dX5_listInOrder_61 rfl hl (by decide) rfl (fun ls hl => ?_)
          refine lv_iconst (v := (-1 : Int32)) hx hb dX5_listInOrder_62 (by decide) ?_
          refine lv_istore_n (lv' := [(2, .int ((-1 : Int32))), (1, .int r3), (4, .int r3), (0, .ref (ad 1 o0)), (3, .int x3)]) hx hb dX5_listInOrder_63 rfl hl (by decide) rfl (fun ls hl => ?_)
          refine lv_goto (tgt := 91) hx hb dX5_listInOrder_64 (by decide) ?_
          refine lv_iinc (v := x3 + (1 : Int32)) (lv' := [(3, .int (x3 + (1 : Int32))), (2, .int ((-1 : Int32))), (1, .int r3), (4, .int r3), (0, .ref (ad 1 o0))]) hx hb dX5_listInOrder_91 hl (k := 4) rfl rfl (by decide) rfl (fun ls hl => ?_)
          refine lv_goto (tgt := 6) hx hb dX5_listInOrder_94 (by decide) ?_
          exact ih t14 r3 ((-1 : Int32)) (x3 + (1 : Int32)) hW hS (lv_sub hl [4, 2, 1, 0] rfl) h
set_option maxHeartbeats 4000000 in
set_option maxRecDepth 100000 in
theorem mtX5_listInOrder (l : Launch) (z : Nat) (G : Gl) (ad : Nat → Nat → Nat) (σ : SG) (ν : NU) (ρ : RH) (lo : Int64) (o0 : Nat) (post : SG → Prop) (h : wpX5_listInOrder σ ν o0 post) : Met l yX5_listInOrder wsX5_listInOrder ({ frames := 2, cells := 0, slots := 0, locals := 47 } : Room) (Pcs z G ad (σ, ν, ρ, lo) [.ref (ad 1 o0)]) (Qvs z G ad (fun S1 => ∃ t : SG, S1 = (t, ν, ρ, lo) ∧ post t)) 0 0 (Az z) := by
  refine Met.ofW (cc := cX5_listInOrder) (maxL := 5) (ret := none) (by decide) rfl ?_
  intro p e s m args below meth c s₁ B hml hv
  obtain ⟨rfl, hz, hW, hE⟩ := hv
  have hx := B.exec
  have hb := B.bytes
  have hr := B.returns
  have hts := atoms_spec (ws := wsX5_listInOrder) B.pre
  have hown : s.vm.findClass RX5 = some m.cls := findClass_of_methodNamed B.named
  have hlocks := B.notSynchronized
  have X : Cx p l e s m _ below meth c cX5_listInOrder none 5 RX5 wsX5_listInOrder z G := ⟨hx, hb, hr, hml, hown, hts, hlocks, hE, hz⟩
  have hS : va_S (Az z) s.heap s.heap [] := va_S.rf
  have hl := lv_entry [.ref (ad 1 o0)] (n := 5) (Nat.le_of_ble_eq_true rfl)
  rw [lg_entry_eq]
  generalize (lg_sl [.ref (ad 1 o0)] ++ List.replicate (5 - (lg_sl [.ref (ad 1 o0)]).length) Slot.unset).toArray = ls at hl ⊢
  have hl : lv_has ls 5 [(0, .ref (ad 1 o0))] := hl
  unfold wpX5_listInOrder at h
  refine lv_iconst (v := (-1 : Int32)) hx hb dX5_listInOrder_0 (by decide) ?_
  refine lv_istore_n (lv' := [(1, .int ((-1 : Int32))), (0, .ref (ad 1 o0))]) hx hb dX5_listInOrder_1 rfl hl (by decide) rfl (fun ls hl => ?_)
  refine lv_iconst (v := (-1 : Int32)) hx hb dX5_listInOrder_2 (by decide) ?_
  refine lv_istore_n (lv' := [(2, .int ((-1 : Int32))), (1, .int ((-1 : Int32))), (0, .ref (ad 1 o0))]) hx hb dX5_listInOrder_3 rfl hl (by decide) rfl (fun ls hl => ?_)
  refine lv_iconst (v := (0 : Int32)) hx hb dX5_listInOrder_4 (by decide) ?_
  refine lv_istore_n (lv' := [(3, .int ((0 : Int32))), (2, .int ((-1 : Int32))), (1, .int ((-1 : Int32))), (0, .ref (ad 1 o0))]) hx hb dX5_listInOrder_5 rfl hl (by decide) rfl (fun ls hl => ?_)
  obtain ⟨n16, h⟩ := h
  exact tX5_listInOrder_6 (σ := σ) (ρ := ρ) X o0 post  n16 σ ((-1 : Int32)) ((-1 : Int32)) ((0 : Int32)) hW hS (lv_sub hl [3, 2, 1, 0] rfl) h
set_option maxHeartbeats 4000000 in
set_option maxRecDepth 100000 in
theorem tX5_build_73 {p : Program} {l : Launch} {e : Env} {s : State} {m : MethodId} {args : Array Value} {below : List Frame} {meth : Method} {c : Code} {z : Nat} {G : Gl} {ad : Nat → Nat → Nat} {σ : SG} {ν : NU} {ρ : RH} {lo : Int64} (X : Cx p l e s m args below meth c cX5_build none 5 RX5 wsX5_build z G) (o0 : Nat) (o1 : Nat)  (post : SG → NU → Prop) : ∀ (n : Nat) (a1 : SG) (a2 : NU) (b1 : Nat → Nat → Nat) (x2 : Int32) {H : Heap} {locs : List Loc} {ls : Array Slot}, Xt ad b1 ν a2 → WP z G b1 (a1, a2, ρ, lo) H → va_S (Az z) s.heap H locs → lv_has ls 5 [(0, .ref (b1 1 o0)), (2, .int x2)] → wX5_build_73 o0 o1 post n a1 a2 x2 → W p l e ({ frames := 8, cells := 8, slots := 157, locals := 197 } : Room) s m args below meth c H locs 8 157 (MQ below (Qva z G (fun S1 => ∃ (t : SG) (u : NU), S1.1 = (t, u, ρ, lo) ∧ Xt ad S1.2 ν u ∧ post t u)) args s 8 157 (Az z)) (F0 m 73 ls []) := by
  obtain ⟨hx, hb, hr, hml, hown, hts, hlocks, hE, hz⟩ := id X
  intro n
  induction n with
  | zero =>
    intro a1 a2 b1 x2 H locs ls hX9 hW hS hl h
    exact absurd h id
  | succ n ih =>
    intro a1 a2 b1 x2 H locs ls hX9 hW hS hl h
    unfold wX5_build_73 at h
    refine lv_iload_n hx hb dX5_build_73 rfl (lv_at hl 1 rfl) ?_
    refine lv_aload_n hx hb dX5_build_74 rfl (lv_at hl 0 rfl) ?_
    obtain ⟨g8, h⟩ := h
    refine r_get (C := RX5) (T := TX5) (N := 13) (ci := 8) (fs := fl_1 b1 a2 ρ o0 (a1 1 o0)) hx hb hts hown hE hW 1 o0 g8 rfl rfl (fun w h => List.mem_cons_of_mem _ (List.mem_append_left _ (List.mem_append_left _ (List.mem_append_left _ (List.mem_append_left _ (List.mem_append_left _ (List.mem_append_left _ (List.mem_append_right _ h)))))))) 0 (by decide) (List.mem_of_getElem? (i := 3) rfl) rfl (v := .ref (b1 7 (1 + o0))) rfl dX5_build_75 ?_
    refine k_Vi (rest := [.int x2]) (As := []) ⟨hx, hb, hml, hown, hts⟩ hE hz hS hW (mtJx4a65c_size_8abf5 l z G b1 a1 a2 ρ lo (1 + o0) _ h) (cwV 0 hts gX5_build_Jx4a65c_size_8abf5 rfl rfl rfl (by decide +kernel) ⟨Nat.le_of_ble_eq_true rfl, Nat.le_of_ble_eq_true rfl⟩) (r_recv hE hW 7 (1 + o0) (show 1 + o0 < 3 by omega) (ci := 2) rfl rfl) rfl hl.1 rfl (Nat.le_of_ble_eq_true rfl) dX5_build_78 ⟨Nat.le_of_ble_eq_true rfl, Nat.le_of_ble_eq_true rfl⟩ (fun r9 S1 H locs hp hW hS => ?_)
    obtain ⟨rfl, h⟩ := hp
    refine r_icmp_ge hx hb rfl rfl (tgt := 147) dX5_build_81 (by decide) (fun c10 => ?_) (fun c10 => ?_)
    · have h := ite_f c10 h
      refine lv_aload_n hx hb dX5_build_147 rfl (lv_at hl 0 rfl) ?_
      refine k_Vv (rest := []) (As := []) ⟨hx, hb, hml, hown, hts⟩ hE hz hS hW (mtX5_listInOrder l z G b1 a1 a2 ρ lo o0 _ h) (cwV 0 hts gX5_build_X5_listInOrder rfl rfl rfl (by decide +kernel) ⟨Nat.le_of_ble_eq_true rfl, Nat.le_of_ble_eq_true rfl⟩) (r_recv hE hW 1 o0 g8 (ci := 8) rfl rfl) rfl hl.1 rfl (Nat.le_of_ble_eq_true rfl) dX5_build_148 ⟨Nat.le_of_ble_eq_true rfl, Nat.le_of_ble_eq_true rfl⟩ (fun S1 H locs hp hW hS => ?_)
      obtain ⟨t11, rfl, h⟩ := hp
      exact W.vret hx hb hr (fun t ht _ => ⟨⟨((t11, a2, ρ, lo), b1), rfl, ⟨_, _, rfl, hX9, h⟩, WP.at9 ht hW⟩, hS.F ht⟩) hS.2.2 dX5_build_151 (hlocks := hlocks)
    · have h := ite_t c10 h
      refine lv_aload_n hx hb dX5_build_84 rfl (lv_at hl 0 rfl) ?_
      refine r_get (C := RX5) (T := TX5) (N := 13) (ci := 8) (fs := fl_1 b1 a2 ρ o0 (a1 1 o0)) hx hb hts hown hE hW 1 o0 g8 rfl rfl (fun w h => List.mem_cons_of_mem _ (List.mem_append_left _ (List.mem_append_left _ (List.mem_append_left _ (List.mem_append_left _ (List.mem_append_left _ (List.mem_append_left _ (List.mem_append_right _ h)))))))) 0 (by decide) (List.mem_of_getElem? (i := 3) rfl) rfl (v := .ref (b1 7 (1 + o0))) rfl dX5_build_85 ?_
      refine lv_iload_n hx hb dX5_build_88 rfl (lv_at hl 1 rfl) ?_
      refine k_Vr (rest := []) (As := [.int x2]) ⟨hx, hb, hml, hown, hts⟩ hE hz hS hW (mtJx4a65c_get_915e3 l z G b1 a1 a2 ρ lo (1 + o0) x2 _ h) (cwV 1 hts gX5_build_Jx4a65c_get_915e3 rfl rfl rfl (by decide +kernel) ⟨Nat.le_of_ble_eq_true rfl, Nat.le_of_ble_eq_true rfl⟩) (r_recv hE hW 7 (1 + o0) (show 1 + o0 < 3 by omega) (ci := 2) rfl rfl) rfl hl.1 rfl (Nat.le_of_ble_eq_true rfl) dX5_build_89 ⟨Nat.le_of_ble_eq_true rfl, Nat.le_of_ble_eq_true rfl⟩ (fun r12 S1 H locs hp hW hS => ?_)
      obtain ⟨rfl, h⟩ := hp
      obtain ⟨g13, h⟩ := h
      refine r_cast hx hb hts hown hE hW r12 g13 (List.mem_of_getElem? (i := 1) rfl) dX5_build_92 ?_
      refine lv_astore_n (lv' := [(3, .ref (b1 3 r12)), (0, .ref (b1 1 o0)), (2, .int x2)]) hx hb dX5_build_95 rfl hl (by decide) rfl (fun ls hl => ?_)
      refine lv_aload_n hx hb dX5_build_96 rfl (lv_at hl 1 rfl) ?_
      refine lv_aload_n hx hb dX5_build_97 rfl (lv_at hl 0 rfl) ?_
      refine k_Vi (rest := []) (As := [.ref (b1 3 r12)]) ⟨hx, hb, hml, hown, hts⟩ hE hz hS hW (mtX5_carryOut l z G b1 a1 a2 ρ lo o0 r12 _ h) (cwV 1 hts gX5_build_X5_carryOut rfl rfl rfl (by decide +kernel) ⟨Nat.le_of_ble_eq_true rfl, Nat.le_of_ble_eq_true rfl⟩) (r_recv hE hW 1 o0 g8 (ci := 8) rfl rfl) rfl hl.1 rfl (Nat.le_of_ble_eq_true rfl) dX5_build_98 ⟨Nat.le_of_ble_eq_true rfl, Nat.le_of_ble_eq_true rfl⟩ (fun r14 S1 H locs hp hW hS => ?_)
      obtain ⟨t15, vv16, rfl, q17, h⟩ := hp
      refine lv_istore (lv' := [(4, .int r14), (3, .ref (b1 3 r12)), (0, .ref (b1 1 o0)), (2, .int x2)]) hx hb dX5_build_101 hl (by decide) rfl (fun ls hl => ?_)
      refine lv_aload_n hx hb dX5_build_103 rfl (lv_at hl 1 rfl) ?_
      obtain ⟨g18, h⟩ := h
      refine r_get (C := RX0) (T := TX0) (N := 13) (ci := 3) (fs := fl_3 b1 vv16 ρ r12 (t15 3 r12)) hx hb hts hown hE hW 3 r12 g18 rfl rfl (fun w h => List.mem_cons_of_mem _ (List.mem_append_left _ (List.mem_append_left _ (List.mem_append_left _ (List.mem_append_left _ (List.mem_append_left _ (List.mem_append_right _ h))))))) 0 (by decide) (List.mem_of_getElem? (i := 4) rfl) rfl (v := .int (t15 3 r12 0)) rfl dX5_build_104 ?_
      refine r_if_lt hx hb rfl (tgt := 141) dX5_build_107 (by decide) (fun c19 => ?_) (fun c19 => ?_)
      · have h := ite_t c19 h
        refine lv_iinc (v := x2 + (1 : Int32)) (lv' := [(2, .int (x2 + (1 : Int32))), (4, .int r14), (3, .ref (b1 3 r12)), (0, .ref (b1 1 o0))]) hx hb dX5_build_141 hl (k := 3) rfl rfl (by decide) rfl (fun ls hl => ?_)
        refine lv_goto (tgt := 73) hx hb dX5_build_144 (by decide) ?_
        exact ih t15 vv16 b1 (x2 + (1 : Int32)) (Xt.tr hX9 (Xt.n q17)) hW hS (lv_sub hl [3, 0] rfl) h
      · have h := ite_f c19 h
        refine lv_aload_n hx hb dX5_build_110 rfl (lv_at hl 1 rfl) ?_
        refine r_get (C := RX0) (T := TX0) (N := 13) (ci := 3) (fs := fl_3 b1 vv16 ρ r12 (t15 3 r12)) hx hb hts hown hE hW 3 r12 g18 rfl rfl (fun w h => List.mem_cons_of_mem _ (List.mem_append_left _ (List.mem_append_left _ (List.mem_append_left _ (List.mem_append_left _ (List.mem_append_left _ (List.mem_append_right _ h))))))) 0 (by decide) (List.mem_of_getElem? (i := 4) rfl) rfl (v := .int (t15 3 r12 0)) rfl dX5_build_111 ?_
        refine lv_aload_n hx hb dX5_build_114 rfl (lv_at hl 2 rfl) ?_
        refine r_get (C := RX5) (T := TX5) (N := 13) (ci := 8) (fs := fl_1 b1 vv16 ρ o0 (t15 1 o0)) hx hb hts hown hE hW 1 o0 g8 rfl rfl (fun w h => List.mem_cons_of_mem _ (List.mem_append_left _ (List.mem_append_left _ (List.mem_append_left _ (List.mem_append_left _ (List.mem_append_left _ (List.mem_append_left _ (List.mem_append_right _ h)))))))) 2 (by decide) (List.mem_of_getElem? (i := 5) rfl) rfl (v := .ref (b1 12 o0)) rfl dX5_build_115 ?_
        refine r_alen hx hb hE hW 12 o0 g8 rfl 0 rfl (v := (40 : Int32)) rfl dX5_build_118 ?_
        refine r_icmp_ge hx hb rfl (show (40 : Int32).toInt = 40 by decide) (tgt := 141) dX5_build_119 (by decide) (fun c20 => ?_) (fun c20 => ?_)
        · have h := ite_f c20 h
          refine lv_iinc (v := x2 + (1 : Int32)) (lv' := [(2, .int (x2 + (1 : Int32))), (4, .int r14), (3, .ref (b1 3 r12)), (0, .ref (b1 1 o0))]) hx hb dX5_build_141 hl (k := 3) rfl rfl (by decide) rfl (fun ls hl => ?_)
          refine lv_goto (tgt := 73) hx hb dX5_build_144 (by decide) ?_
          exact ih t15 vv16 b1 (x2 + (1 : Int32)) (Xt.tr hX9 (Xt.n q17)) hW hS (lv_sub hl [3, 0] rfl) h
        · have h := ite_t c20 h
          refine lv_aload_n hx hb dX5_build_122 rfl (lv_at hl 2 rfl) ?_
          refine r_get (C := RX5) (T := TX5) (N := 13) (ci := 8) (fs := fl_1 b1 vv16 ρ o0 (t15 1 o0)) hx hb hts hown hE hW 1 o0 g8 rfl rfl (fun w h => List.mem_cons_of_mem _ (List.mem_append_left _ (List.mem_append_left _ (List.mem_append_left _ (List.mem_append_left _ (List.mem_append_left _ (List.mem_append_left _ (List.mem_append_right _ h)))))))) 2 (by decide) (List.mem_of_getElem? (i := 5) rfl) rfl (v := .ref (b1 12 o0)) rfl dX5_build_123 ?_
          refine lv_aload_n hx hb dX5_build_126 rfl (lv_at hl 1 rfl) ?_
          refine r_get (C := RX0) (T := TX0) (N := 13) (ci := 3) (fs := fl_3 b1 vv16 ρ r12 (t15 3 r12)) hx hb hts hown hE hW 3 r12 g18 rfl rfl (fun w h => List.mem_cons_of_mem _ (List.mem_append_left _ (List.mem_append_left _ (List.mem_append_left _ (List.mem_append_left _ (List.mem_append_left _ (List.mem_append_right _ h))))))) 0 (by decide) (List.mem_of_getElem? (i := 4) rfl) rfl (v := .int (t15 3 r12 0)) rfl dX5_build_127 ?_
          refine lv_iload hx hb dX5_build_130 (lv_at hl 0 rfl) ?_
          refine r_if_eq hx hb rfl (tgt := 139) dX5_build_132 (by decide) (fun c21 => ?_) (fun c21 => ?_)
          · have h := ite_t c21 h
            refine lv_iconst (v := (2 : Int32)) hx hb dX5_build_139 (by decide) ?_
            obtain ⟨b22, h⟩ := h
            refine r_iastC hx hb hE hW hS 12 o0 g8 (n := 40) (fun _ => rfl) b22 dX5_build_140 (fun t23 e24 H locs hW hS => ?_)
            have h := h t23 e24
            refine lv_iinc (v := x2 + (1 : Int32)) (lv' := [(2, .int (x2 + (1 : Int32))), (4, .int r14), (3, .ref (b1 3 r12)), (0, .ref (b1 1 o0))]) hx hb dX5_build_141 hl (k := 3) rfl rfl (by decide) rfl (fun ls hl => ?_)
            refine lv_goto (tgt := 73) hx hb dX5_build_144 (by decide) ?_
            exact ih t23 vv16 b1 (x2 + (1 : Int32)) (Xt.tr hX9 (Xt.n q17)) hW hS (lv_sub hl [3, 0] rfl) h
          · have h := ite_f c21 h
            refine lv_iconst (v := (1 : Int32)) hx hb dX5_build_135 (by decide) ?_
            refine lv_goto (tgt := 140) hx hb dX5_build_136 (by decide) ?_
            obtain ⟨b25, h⟩ := h
            refine r_iastC hx hb hE hW hS 12 o0 g8 (n := 40) (fun _ => rfl) b25 dX5_build_140 (fun t26 e27 H locs hW hS => ?_)
            have h := h t26 e27
            refine lv_iinc (v := x2 + (1 : Int32)) (lv' := [(2, .int (x2 + (1 : Int32))), (4, .int r14), (3, .ref (b1 3 r12)), (0, .ref (b1 1 o0))]) hx hb dX5_build_141 hl (k := 3) rfl rfl (by decide) rfl (fun ls hl => ?_)
            refine lv_goto (tgt := 73) hx hb dX5_build_144 (by decide) ?_
            exact ih t26 vv16 b1 (x2 + (1 : Int32)) (Xt.tr hX9 (Xt.n q17)) hW hS (lv_sub hl [3, 0] rfl) h
set_option maxHeartbeats 4000000 in
set_option maxRecDepth 100000 in
theorem tX5_build_6 {p : Program} {l : Launch} {e : Env} {s : State} {m : MethodId} {args : Array Value} {below : List Frame} {meth : Method} {c : Code} {z : Nat} {G : Gl} {ad : Nat → Nat → Nat} {σ : SG} {ν : NU} {ρ : RH} {lo : Int64} (X : Cx p l e s m args below meth c cX5_build none 5 RX5 wsX5_build z G) (o0 : Nat) (o1 : Nat)  (post : SG → NU → Prop) : ∀ (n : Nat) (kc ks : Nat), ∀ (a1 : SG) (a2 : NU) (b1 : Nat → Nat → Nat) (x2 : Int32) {H : Heap} {locs : List Loc} {ls : Array Slot}, Xt ad b1 ν a2 → kc + gp9 8 (a2 7 (1 + o0) 1) ≤ 8 → ks + sp9 8 (a2 7 (1 + o0) 1) ≤ 157 → WP z G b1 (a1, a2, ρ, lo) H → va_S (Az z) s.heap H locs → lv_has ls 5 [(0, .ref (b1 1 o0)), (1, .ref (b1 7 o1)), (2, .int x2)] → wX5_build_6 o0 o1 post n a1 a2 x2 → W p l e ({ frames := 8, cells := 8, slots := 157, locals := 197 } : Room) s m args below meth c H locs kc ks (MQ below (Qva z G (fun S1 => ∃ (t : SG) (u : NU), S1.1 = (t, u, ρ, lo) ∧ Xt ad S1.2 ν u ∧ post t u)) args s 8 157 (Az z)) (F0 m 6 ls []) := by
  obtain ⟨hx, hb, hr, hml, hown, hts, hlocks, hE, hz⟩ := id X
  intro n
  induction n with
  | zero =>
    intro kc ks a1 a2 b1 x2 H locs ls hX9 hkc hks hW hS hl h
    exact absurd h id
  | succ n ih =>
    intro kc ks a1 a2 b1 x2 H locs ls hX9 hkc hks hW hS hl h
    unfold wX5_build_6 at h
    refine lv_iload_n hx hb dX5_build_6 rfl (lv_at hl 2 rfl) ?_
    refine lv_aload_n hx hb dX5_build_7 rfl (lv_at hl 1 rfl) ?_
    obtain ⟨g5, h⟩ := h
    refine k_Vi (rest := [.int x2]) (As := []) ⟨hx, hb, hml, hown, hts⟩ hE hz hS hW (mtJx4a65c_size_8abf5 l z G b1 a1 a2 ρ lo o1 _ h) (cwV 0 hts gX5_build_Jx4a65c_size_8abf5 rfl rfl rfl (by decide +kernel) ⟨Nat.le_of_ble_eq_true rfl, Nat.le_of_ble_eq_true rfl⟩) (r_recv hE hW 7 o1 g5 (ci := 2) rfl rfl) rfl hl.1 rfl (Nat.le_of_ble_eq_true rfl) dX5_build_8 ⟨by show _ ≤ 8; omega, by show _ ≤ 157; omega⟩ (fun r6 S1 H locs hp hW hS => ?_)
    obtain ⟨rfl, h⟩ := hp
    refine r_icmp_ge hx hb rfl rfl (tgt := 71) dX5_build_11 (by decide) (fun c7 => ?_) (fun c7 => ?_)
    · have h := ite_f c7 h
      refine lv_iconst (v := (0 : Int32)) hx hb dX5_build_71 (by decide) ?_
      refine lv_istore_n (lv' := [(2, .int ((0 : Int32))), (0, .ref (b1 1 o0)), (1, .ref (b1 7 o1))]) hx hb dX5_build_72 rfl hl (by decide) rfl (fun ls hl => ?_)
      refine W.widen (k := 8) (n := 157) (by omega) (by omega) ?_
      obtain ⟨n28, h⟩ := h
      exact tX5_build_73 (σ := σ) (ρ := ρ) X o0 o1 post  n28 a1 a2 b1 ((0 : Int32)) hX9 hW hS (lv_sub hl [1, 0] rfl) h
    · have h := ite_t c7 h
      refine lv_iload_n hx hb dX5_build_14 rfl (lv_at hl 2 rfl) ?_
      refine lv_bipush (v := (40 : Int32)) hx hb dX5_build_15 (by decide) ?_
      refine r_icmp_ge hx hb rfl (show (40 : Int32).toInt = 40 by decide) (tgt := 71) dX5_build_17 (by decide) (fun c29 => ?_) (fun c29 => ?_)
      · have h := ite_f c29 h
        refine lv_iconst (v := (0 : Int32)) hx hb dX5_build_71 (by decide) ?_
        refine lv_istore_n (lv' := [(2, .int ((0 : Int32))), (0, .ref (b1 1 o0)), (1, .ref (b1 7 o1))]) hx hb dX5_build_72 rfl hl (by decide) rfl (fun ls hl => ?_)
        refine W.widen (k := 8) (n := 157) (by omega) (by omega) ?_
        obtain ⟨n30, h⟩ := h
        exact tX5_build_73 (σ := σ) (ρ := ρ) X o0 o1 post  n30 a1 a2 b1 ((0 : Int32)) hX9 hW hS (lv_sub hl [1, 0] rfl) h
      · have h := ite_t c29 h
        refine lv_aload_n hx hb dX5_build_20 rfl (lv_at hl 1 rfl) ?_
        refine lv_iload_n hx hb dX5_build_21 rfl (lv_at hl 2 rfl) ?_
        refine k_Vr (rest := []) (As := [.int x2]) ⟨hx, hb, hml, hown, hts⟩ hE hz hS hW (mtJx4a65c_get_915e3 l z G b1 a1 a2 ρ lo o1 x2 _ h) (cwV 1 hts gX5_build_Jx4a65c_get_915e3 rfl rfl rfl (by decide +kernel) ⟨Nat.le_of_ble_eq_true rfl, Nat.le_of_ble_eq_true rfl⟩) (r_recv hE hW 7 o1 g5 (ci := 2) rfl rfl) rfl hl.1 rfl (Nat.le_of_ble_eq_true rfl) dX5_build_22 ⟨by show _ ≤ 8; omega, by show _ ≤ 157; omega⟩ (fun r31 S1 H locs hp hW hS => ?_)
        obtain ⟨rfl, h⟩ := hp
        obtain ⟨g32, h⟩ := h
        refine r_cast hx hb hts hown hE hW r31 g32 (List.mem_of_getElem? (i := 1) rfl) dX5_build_25 ?_
        refine lv_astore_n (lv' := [(3, .ref (b1 3 r31)), (0, .ref (b1 1 o0)), (1, .ref (b1 7 o1)), (2, .int x2)]) hx hb dX5_build_28 rfl hl (by decide) rfl (fun ls hl => ?_)
        refine lv_aload_n hx hb dX5_build_29 rfl (lv_at hl 1 rfl) ?_
        obtain ⟨g33, h⟩ := h
        refine r_get (C := RX5) (T := TX5) (N := 13) (ci := 8) (fs := fl_1 b1 a2 ρ o0 (a1 1 o0)) hx hb hts hown hE hW 1 o0 g33 rfl rfl (fun w h => List.mem_cons_of_mem _ (List.mem_append_left _ (List.mem_append_left _ (List.mem_append_left _ (List.mem_append_left _ (List.mem_append_left _ (List.mem_append_left _ (List.mem_append_right _ h)))))))) 1 (by decide) (List.mem_of_getElem? (i := 2) rfl) rfl (v := .ref (b1 11 o0)) rfl dX5_build_30 ?_
        refine lv_iload_n hx hb dX5_build_33 rfl (lv_at hl 3 rfl) ?_
        refine lv_aload_n hx hb dX5_build_34 rfl (lv_at hl 1 rfl) ?_
        refine lv_aload_n hx hb dX5_build_35 rfl (lv_at hl 0 rfl) ?_
        refine k_Vi (rest := [.int x2, .ref (b1 11 o0)]) (As := [.ref (b1 3 r31)]) ⟨hx, hb, hml, hown, hts⟩ hE hz hS hW (mtX5_findBeginning l z G b1 a1 a2 ρ lo o0 r31 _ h) (cwV 1 hts gX5_build_X5_findBeginning rfl rfl rfl (by decide +kernel) ⟨Nat.le_of_ble_eq_true rfl, Nat.le_of_ble_eq_true rfl⟩) (r_recv hE hW 1 o0 g33 (ci := 8) rfl rfl) rfl hl.1 rfl (Nat.le_of_ble_eq_true rfl) dX5_build_36 ⟨by show _ ≤ 8; omega, by show _ ≤ 157; omega⟩ (fun r34 S1 H locs hp hW hS => ?_)
        obtain ⟨rfl, h⟩ := hp
        obtain ⟨b35, h⟩ := h
        refine r_iastC hx hb hE hW hS 11 o0 g33 (n := 40) (fun _ => rfl) b35 dX5_build_39 (fun t36 e37 H locs hW hS => ?_)
        have h := h t36 e37
        refine lv_aload_n hx hb dX5_build_40 rfl (lv_at hl 1 rfl) ?_
        refine lv_aload_n hx hb dX5_build_41 rfl (lv_at hl 0 rfl) ?_
        refine lv_aload_n hx hb dX5_build_42 rfl (lv_at hl 1 rfl) ?_
        refine r_get (C := RX5) (T := TX5) (N := 13) (ci := 8) (fs := fl_1 b1 a2 ρ o0 (t36 1 o0)) hx hb hts hown hE hW 1 o0 g33 rfl rfl (fun w h => List.mem_cons_of_mem _ (List.mem_append_left _ (List.mem_append_left _ (List.mem_append_left _ (List.mem_append_left _ (List.mem_append_left _ (List.mem_append_left _ (List.mem_append_right _ h)))))))) 1 (by decide) (List.mem_of_getElem? (i := 2) rfl) rfl (v := .ref (b1 11 o0)) rfl dX5_build_43 ?_
        refine lv_iload_n hx hb dX5_build_46 rfl (lv_at hl 3 rfl) ?_
        obtain ⟨b38, h⟩ := h
        refine r_iald hx hb hE hW 11 o0 g33 (n := 40) (f := t36 11 o0) rfl b38 (v := t36 11 o0 x2.toNatClampNeg) rfl dX5_build_47 ?_
        refine k_Vi (rest := []) (As := [.ref (b1 3 r31), .int (t36 11 o0 x2.toNatClampNeg)]) ⟨hx, hb, hml, hown, hts⟩ hE hz hS hW (mtX5_isInEffect l z G b1 t36 a2 ρ lo o0 r31 (t36 11 o0 x2.toNatClampNeg) _ h) (cwV 2 hts gX5_build_X5_isInEffect rfl rfl rfl (by decide +kernel) ⟨Nat.le_of_ble_eq_true rfl, Nat.le_of_ble_eq_true rfl⟩) (r_recv hE hW 1 o0 g33 (ci := 8) rfl rfl) rfl hl.1 rfl (Nat.le_of_ble_eq_true rfl) dX5_build_48 ⟨by show _ ≤ 8; omega, by show _ ≤ 157; omega⟩ (fun r39 S1 H locs hp hW hS => ?_)
        obtain ⟨rfl, h⟩ := hp
        refine r_if_eq hx hb rfl (tgt := 65) dX5_build_51 (by decide) (fun c40 => ?_) (fun c40 => ?_)
        · have h := ite_t c40 h
          refine lv_iinc (v := x2 + (1 : Int32)) (lv' := [(2, .int (x2 + (1 : Int32))), (3, .ref (b1 3 r31)), (0, .ref (b1 1 o0)), (1, .ref (b1 7 o1))]) hx hb dX5_build_65 hl (k := 3) rfl rfl (by decide) rfl (fun ls hl => ?_)
          refine lv_goto (tgt := 6) hx hb dX5_build_68 (by decide) ?_
          exact ih _ _ t36 a2 b1 (x2 + (1 : Int32)) hX9 (by omega) (by omega) hW hS (lv_sub hl [2, 3, 0] rfl) h
        · have h := ite_f c40 h
          refine lv_aload_n hx hb dX5_build_54 rfl (lv_at hl 1 rfl) ?_
          refine lv_aload_n hx hb dX5_build_55 rfl (lv_at hl 0 rfl) ?_
          refine lv_aload_n hx hb dX5_build_56 rfl (lv_at hl 1 rfl) ?_
          refine r_get (C := RX5) (T := TX5) (N := 13) (ci := 8) (fs := fl_1 b1 a2 ρ o0 (t36 1 o0)) hx hb hts hown hE hW 1 o0 g33 rfl rfl (fun w h => List.mem_cons_of_mem _ (List.mem_append_left _ (List.mem_append_left _ (List.mem_append_left _ (List.mem_append_left _ (List.mem_append_left _ (List.mem_append_left _ (List.mem_append_right _ h)))))))) 1 (by decide) (List.mem_of_getElem? (i := 2) rfl) rfl (v := .ref (b1 11 o0)) rfl dX5_build_57 ?_
          refine lv_iload_n hx hb dX5_build_60 rfl (lv_at hl 3 rfl) ?_
          obtain ⟨b41, h⟩ := h
          refine r_iald hx hb hE hW 11 o0 g33 (n := 40) (f := t36 11 o0) rfl b41 (v := t36 11 o0 x2.toNatClampNeg) rfl dX5_build_61 ?_
          obtain ⟨⟨f1, f2⟩, h⟩ := tt_fit h
          refine kA_Vv (rest := []) (As := [.ref (b1 3 r31), .int (t36 11 o0 x2.toNatClampNeg)]) ⟨hx, hb, hml, hown, hts⟩ hE hz hS hW (mtX5_takeTurn l z G b1 t36 a2 ρ lo o0 r31 (t36 11 o0 x2.toNatClampNeg) _ (kcT t36 a2 o0) (ksT t36 a2 o0) ks_ok h) (cwV 2 hts gX5_build_X5_takeTurn rfl rfl rfl (by decide +kernel) ⟨Nat.le_of_ble_eq_true rfl, Nat.le_of_ble_eq_true rfl⟩) (r_recv hE hW 1 o0 g33 (ci := 8) rfl rfl) rfl hl.1 rfl (Nat.le_of_ble_eq_true rfl) dX5_build_62 ⟨by show _ ≤ 8; omega, by show _ ≤ 157; omega⟩ (fun S1 ad44 H locs hp hW hS => ?_)
          obtain ⟨t42, vv43, rfl, q45, h⟩ := hp
          obtain ⟨⟨f3, f4⟩, h⟩ := h
          have z46 : ad44 3 r31 = b1 3 r31 := (q45 3 r31 (by decide) g32).2
          have z47 : ad44 1 o0 = b1 1 o0 := (q45 1 o0 (by decide) g33).2
          have z48 : ad44 7 o1 = b1 7 o1 := (q45 7 o1 (by decide) g5).2
          have hl : lv_has ls 5 [(3, .ref (ad44 3 r31)), (0, .ref (ad44 1 o0)), (1, .ref (ad44 7 o1)), (2, .int x2)] := by rw [z46, z47, z48]; exact hl
          refine lv_iinc (v := x2 + (1 : Int32)) (lv' := [(2, .int (x2 + (1 : Int32))), (3, .ref (ad44 3 r31)), (0, .ref (ad44 1 o0)), (1, .ref (ad44 7 o1))]) hx hb dX5_build_65 hl (k := 3) rfl rfl (by decide) rfl (fun ls hl => ?_)
          refine lv_goto (tgt := 6) hx hb dX5_build_68 (by decide) ?_
          exact ih _ _ t42 vv43 ad44 (x2 + (1 : Int32)) (Xt.tr hX9 q45) (by omega) (by omega) hW hS (lv_sub hl [2, 3, 0] rfl) h
set_option maxHeartbeats 4000000 in
set_option maxRecDepth 100000 in
theorem mtX5_build (l : Launch) (z : Nat) (G : Gl) (ad : Nat → Nat → Nat) (σ : SG) (ν : NU) (ρ : RH) (lo : Int64) (o0 : Nat) (o1 : Nat) (post : SG → NU → Prop) (h : wpX5_build σ ν o0 o1 post) : Met l yX5_build wsX5_build ({ frames := 8, cells := 8, slots := 157, locals := 197 } : Room) (Pcs z G ad (σ, ν, ρ, lo) [.ref (ad 1 o0), .ref (ad 7 o1)]) (Qva z G (fun S1 => ∃ (t : SG) (u : NU), S1.1 = (t, u, ρ, lo) ∧ Xt ad S1.2 ν u ∧ post t u)) 8 157 (Az z) := by
  refine Met.ofW (cc := cX5_build) (maxL := 5) (ret := none) (by decide) rfl ?_
  intro p e s m args below meth c s₁ B hml hv
  obtain ⟨rfl, hz, hW, hE⟩ := hv
  have hx := B.exec
  have hb := B.bytes
  have hr := B.returns
  have hts := atoms_spec (ws := wsX5_build) B.pre
  have hown : s.vm.findClass RX5 = some m.cls := findClass_of_methodNamed B.named
  have hlocks := B.notSynchronized
  have X : Cx p l e s m _ below meth c cX5_build none 5 RX5 wsX5_build z G := ⟨hx, hb, hr, hml, hown, hts, hlocks, hE, hz⟩
  have hS : va_S (Az z) s.heap s.heap [] := va_S.rf
  have hl := lv_entry [.ref (ad 1 o0), .ref (ad 7 o1)] (n := 5) (Nat.le_of_ble_eq_true rfl)
  rw [lg_entry_eq]
  generalize (lg_sl [.ref (ad 1 o0), .ref (ad 7 o1)] ++ List.replicate (5 - (lg_sl [.ref (ad 1 o0), .ref (ad 7 o1)]).length) Slot.unset).toArray = ls at hl ⊢
  have hl : lv_has ls 5 [(0, .ref (ad 1 o0)), (1, .ref (ad 7 o1))] := hl
  unfold wpX5_build at h
  refine lv_aload_n hx hb dX5_build_0 rfl (lv_at hl 0 rfl) ?_
  obtain ⟨g1, h⟩ := h
  refine k_Vv (rest := []) (As := []) ⟨hx, hb, hml, hown, hts⟩ hE hz hS hW (mtX5_clear l z G ad σ ν ρ lo o0 _ h) (cwV 0 hts gX5_build_X5_clear rfl rfl rfl (by decide +kernel) ⟨Nat.le_of_ble_eq_true rfl, Nat.le_of_ble_eq_true rfl⟩) (r_recv hE hW 1 o0 g1 (ci := 8) rfl rfl) rfl hl.1 rfl (Nat.le_of_ble_eq_true rfl) dX5_build_1 ⟨Nat.le_of_ble_eq_true rfl, Nat.le_of_ble_eq_true rfl⟩ (fun S1 H locs hp hW hS => ?_)
  obtain ⟨t2, vv3, rfl, q4, h⟩ := hp
  refine lv_iconst (v := (0 : Int32)) hx hb dX5_build_4 (by decide) ?_
  refine lv_istore_n (lv' := [(2, .int ((0 : Int32))), (0, .ref (ad 1 o0)), (1, .ref (ad 7 o1))]) hx hb dX5_build_5 rfl hl (by decide) rfl (fun ls hl => ?_)
  obtain ⟨n49, n50, h⟩ := h
  exact tX5_build_6 (σ := σ) (ρ := ρ) X o0 o1 post  n49 _ _ t2 vv3 ad ((0 : Int32)) (Xt.tr Xt.rf (Xt.n q4)) (by have := pot_le (vv3 7 (1 + o0) 1); omega) (by have := pot_le (vv3 7 (1 + o0) 1); omega) hW hS (lv_sub hl [1, 2, 0] rfl) h
