/-! method by method: what it asks of the state (wp), and its walk. Written by wip/gen/gen.py -/
set_option maxHeartbeats 4000000 in
set_option maxRecDepth 100000 in
theorem tX5_findAnew_12 {p : Program} {l : Launch} {e : Env} {s : State} {m : MethodId} {args : Array Value} {below : List Frame} {meth : Method} {c : Code} {z : Nat} {G : Gl} {ad : Nat → Nat → Nat} {σ : SG} {ν : NU} {ρ : RH} {lo : Int64} (X : Cx p l e s m args below meth c cX5_findAnew (some .int) 5 RX5 wsX5_findAnew z G) (o0 : Nat) (p1 : Int32) (p2 : Int32)  (post : Int32 → SG → Prop) : ∀ (n : Nat) (a1 : SG) (x3 : Int32) {H : Heap} {locs : List Loc} {ls : Array Slot}, WP z G ad (a1, ν, ρ, lo) H → va_S (Az z) s.heap H locs → lv_has ls 5 [(0, .ref (ad 1 o0)), (1, .int p1), (2, .int p2), (3, .int x3)] → wX5_findAnew_12 o0 p1 p2 post n a1 ν x3 → W p l e ({ frames := 4, cells := 0, slots := 0, locals := 107 } : Room) s m args below meth c H locs 0 0 (MQ below (Qis z G ad (fun r S1 => ∃ t : SG, S1 = (t, ν, ρ, lo) ∧ post r t)) args s 0 0 (Az z)) (F0 m 12 ls []) := by
  obtain ⟨hx, hb, hr, hml, hown, hts, hlocks, hE, hz⟩ := id X
  intro n
  induction n with
  | zero =>
    intro a1 x3 H locs ls hW hS hl h
    exact absurd h id
  | succ n ih =>
    intro a1 x3 H locs ls hW hS hl h
    unfold wX5_findAnew_12 at h
    refine lv_iload_n hx hb dX5_findAnew_12 rfl (lv_at hl 3 rfl) ?_
    refine lv_aload_n hx hb dX5_findAnew_13 rfl (lv_at hl 0 rfl) ?_
    obtain ⟨g4, h⟩ := h
    refine r_get (C := RX5) (T := TX5) (N := 13) (ci := 8) (fs := fl_1 ad ν ρ o0 (a1 1 o0)) hx hb hts hown hE hW 1 o0 g4 rfl rfl (fun w h => List.mem_cons_of_mem _ (List.mem_append_left _ (List.mem_append_left _ (List.mem_append_left _ (List.mem_append_left _ (List.mem_append_right _ h)))))) 0 (by decide) (List.mem_of_getElem? (i := 1) rfl) rfl (v := .ref (ad 7 (1 + o0))) rfl dX5_findAnew_14 ?_
    refine k_Vi (rest := [.int x3]) (As := []) ⟨hx, hb, hml, hown, hts⟩ hE hz hS hW (mtJx4a65c_size_8abf5 l z G ad a1 ν ρ lo (1 + o0) _ h) (cwV 0 hts gX5_findAnew_Jx4a65c_size_8abf5 rfl rfl rfl (by decide +kernel) ⟨Nat.le_of_ble_eq_true rfl, Nat.le_of_ble_eq_true rfl⟩) (r_recv hE hW 7 (1 + o0) (show 1 + o0 < 3 by omega) (ci := 2) rfl rfl) rfl hl.1 rfl (Nat.le_of_ble_eq_true rfl) dX5_findAnew_17 ⟨Nat.le_of_ble_eq_true rfl, Nat.le_of_ble_eq_true rfl⟩ (fun r5 S1 H locs hp hW hS => ?_)
    obtain ⟨rfl, h⟩ := hp
    refine r_icmp_ge hx hb rfl rfl (tgt := 75) dX5_findAnew_20 (by decide) (fun c6 => ?_) (fun c6 => ?_)
    · have h := ite_f c6 h
      refine lv_aload_n hx hb dX5_findAnew_75 rfl (lv_at hl 0 rfl) ?_
      refine r_get (C := RX5) (T := TX5) (N := 13) (ci := 8) (fs := fl_1 ad ν ρ o0 (a1 1 o0)) hx hb hts hown hE hW 1 o0 g4 rfl rfl (fun w h => List.mem_cons_of_mem _ (List.mem_append_left _ (List.mem_append_left _ (List.mem_append_left _ (List.mem_append_left _ (List.mem_append_right _ h)))))) 7 (by decide) (List.mem_of_getElem? (i := 4) rfl) rfl (v := .ref (ad 2 (21 * o0))) rfl dX5_findAnew_76 ?_
      refine lv_iload_n hx hb dX5_findAnew_79 rfl (lv_at hl 2 rfl) ?_
      refine k_Vi (rest := []) (As := [.int p2]) ⟨hx, hb, hml, hown, hts⟩ hE hz hS hW (mtX4_readAt l z G ad a1 ν ρ lo (21 * o0) p2 _ h) (cwV 1 hts gX5_findAnew_X4_readAt rfl rfl rfl (by decide +kernel) ⟨Nat.le_of_ble_eq_true rfl, Nat.le_of_ble_eq_true rfl⟩) (r_recv hE hW 2 (21 * o0) (show 21 * o0 < 42 by omega) (ci := 7) rfl rfl) rfl hl.1 rfl (Nat.le_of_ble_eq_true rfl) dX5_findAnew_80 ⟨Nat.le_of_ble_eq_true rfl, Nat.le_of_ble_eq_true rfl⟩ (fun r7 S1 H locs hp hW hS => ?_)
      obtain ⟨rfl, h⟩ := hp
      exact W.iret (v := r7) hx hb hr (fun t ht _ => ⟨⟨_, (a1, ν, ρ, lo), rfl, ⟨_, rfl, h⟩, WP.at9 ht hW⟩, hS.F ht⟩) hS.2.2 dX5_findAnew_83 (hlocks := hlocks)
    · have h := ite_t c6 h
      refine lv_aload_n hx hb dX5_findAnew_23 rfl (lv_at hl 0 rfl) ?_
      refine r_get (C := RX5) (T := TX5) (N := 13) (ci := 8) (fs := fl_1 ad ν ρ o0 (a1 1 o0)) hx hb hts hown hE hW 1 o0 g4 rfl rfl (fun w h => List.mem_cons_of_mem _ (List.mem_append_left _ (List.mem_append_left _ (List.mem_append_left _ (List.mem_append_left _ (List.mem_append_right _ h)))))) 0 (by decide) (List.mem_of_getElem? (i := 1) rfl) rfl (v := .ref (ad 7 (1 + o0))) rfl dX5_findAnew_24 ?_
      refine lv_iload_n hx hb dX5_findAnew_27 rfl (lv_at hl 3 rfl) ?_
      refine k_Vr (rest := []) (As := [.int x3]) ⟨hx, hb, hml, hown, hts⟩ hE hz hS hW (mtJx4a65c_get_915e3 l z G ad a1 ν ρ lo (1 + o0) x3 _ h) (cwV 1 hts gX5_findAnew_Jx4a65c_get_915e3 rfl rfl rfl (by decide +kernel) ⟨Nat.le_of_ble_eq_true rfl, Nat.le_of_ble_eq_true rfl⟩) (r_recv hE hW 7 (1 + o0) (show 1 + o0 < 3 by omega) (ci := 2) rfl rfl) rfl hl.1 rfl (Nat.le_of_ble_eq_true rfl) dX5_findAnew_28 ⟨Nat.le_of_ble_eq_true rfl, Nat.le_of_ble_eq_true rfl⟩ (fun r8 S1 H locs hp hW hS => ?_)
      obtain ⟨rfl, h⟩ := hp
      obtain ⟨g9, h⟩ := h
      refine r_cast hx hb hts hown hE hW r8 g9 (List.mem_of_getElem? (i := 2) rfl) dX5_findAnew_31 ?_
      refine lv_astore (lv' := [(4, .ref (ad 3 r8)), (0, .ref (ad 1 o0)), (1, .int p1), (2, .int p2), (3, .int x3)]) hx hb dX5_findAnew_34 hl (by decide) rfl (fun ls hl => ?_)
      refine lv_aload hx hb dX5_findAnew_36 (lv_at hl 0 rfl) ?_
      refine lv_iload_n hx hb dX5_findAnew_38 rfl (lv_at hl 2 rfl) ?_
      refine k_Vi (rest := []) (As := [.int p1]) ⟨hx, hb, hml, hown, hts⟩ hE hz hS hW (mtX0_isOf l z G ad a1 ν ρ lo r8 p1 _ h) (cwV 1 hts gX5_findAnew_X0_isOf rfl rfl rfl (by decide +kernel) ⟨Nat.le_of_ble_eq_true rfl, Nat.le_of_ble_eq_true rfl⟩) (r_recv hE hW 3 r8 g9 (ci := 3) rfl rfl) rfl hl.1 rfl (Nat.le_of_ble_eq_true rfl) dX5_findAnew_39 ⟨Nat.le_of_ble_eq_true rfl, Nat.le_of_ble_eq_true rfl⟩ (fun r10 S1 H locs hp hW hS => ?_)
      obtain ⟨rfl, h⟩ := hp
      refine r_if_eq hx hb rfl (tgt := 69) dX5_findAnew_42 (by decide) (fun c11 => ?_) (fun c11 => ?_)
      · have h := ite_t c11 h
        refine lv_iinc (v := x3 + (1 : Int32)) (lv' := [(3, .int (x3 + (1 : Int32))), (4, .ref (ad 3 r8)), (0, .ref (ad 1 o0)), (1, .int p1), (2, .int p2)]) hx hb dX5_findAnew_69 hl (k := 4) rfl rfl (by decide) rfl (fun ls hl => ?_)
        refine lv_goto (tgt := 12) hx hb dX5_findAnew_72 (by decide) ?_
        exact ih a1 (x3 + (1 : Int32)) hW hS (lv_sub hl [2, 3, 4, 0] rfl) h
      · have h := ite_f c11 h
        refine lv_aload_n hx hb dX5_findAnew_45 rfl (lv_at hl 1 rfl) ?_
        refine lv_aload hx hb dX5_findAnew_46 (lv_at hl 0 rfl) ?_
        refine r_get (C := RX0) (T := TX0) (N := 13) (ci := 3) (fs := fl_3 ad ν ρ r8 (a1 3 r8)) hx hb hts hown hE hW 3 r8 g9 rfl rfl (fun w h => List.mem_cons_of_mem _ (List.mem_append_left _ (List.mem_append_left _ (List.mem_append_left _ (List.mem_append_right _ h))))) 0 (by decide) (List.mem_of_getElem? (i := 3) rfl) rfl (v := .int (a1 3 r8 0)) rfl dX5_findAnew_48 ?_
        refine k_Vi (rest := []) (As := [.int (a1 3 r8 0)]) ⟨hx, hb, hml, hown, hts⟩ hE hz hS hW (mtX5_stateOf l z G ad a1 ν ρ lo o0 (a1 3 r8 0) _ h) (cwV 1 hts gX5_findAnew_X5_stateOf rfl rfl rfl (by decide +kernel) ⟨Nat.le_of_ble_eq_true rfl, Nat.le_of_ble_eq_true rfl⟩) (r_recv hE hW 1 o0 g4 (ci := 8) rfl rfl) rfl hl.1 rfl (Nat.le_of_ble_eq_true rfl) dX5_findAnew_51 ⟨Nat.le_of_ble_eq_true rfl, Nat.le_of_ble_eq_true rfl⟩ (fun r12 S1 H locs hp hW hS => ?_)
        obtain ⟨rfl, h⟩ := hp
        refine lv_iconst (v := (1 : Int32)) hx hb dX5_findAnew_54 (by decide) ?_
        refine r_icmp_ne hx hb rfl (show (1 : Int32).toInt = 1 by decide) (tgt := 69) dX5_findAnew_55 (by decide) (fun c13 => ?_) (fun c13 => ?_)
        · have h := ite_f c13 h
          refine lv_iinc (v := x3 + (1 : Int32)) (lv' := [(3, .int (x3 + (1 : Int32))), (4, .ref (ad 3 r8)), (0, .ref (ad 1 o0)), (1, .int p1), (2, .int p2)]) hx hb dX5_findAnew_69 hl (k := 4) rfl rfl (by decide) rfl (fun ls hl => ?_)
          refine lv_goto (tgt := 12) hx hb dX5_findAnew_72 (by decide) ?_
          exact ih a1 (x3 + (1 : Int32)) hW hS (lv_sub hl [2, 3, 4, 0] rfl) h
        · have h := ite_t c13 h
          refine lv_aload_n hx hb dX5_findAnew_58 rfl (lv_at hl 1 rfl) ?_
          refine lv_aload hx hb dX5_findAnew_59 (lv_at hl 0 rfl) ?_
          refine lv_aload_n hx hb dX5_findAnew_61 rfl (lv_at hl 1 rfl) ?_
          refine r_get (C := RX5) (T := TX5) (N := 13) (ci := 8) (fs := fl_1 ad ν ρ o0 (a1 1 o0)) hx hb hts hown hE hW 1 o0 g4 rfl rfl (fun w h => List.mem_cons_of_mem _ (List.mem_append_left _ (List.mem_append_left _ (List.mem_append_left _ (List.mem_append_left _ (List.mem_append_right _ h)))))) 7 (by decide) (List.mem_of_getElem? (i := 4) rfl) rfl (v := .ref (ad 2 (21 * o0))) rfl dX5_findAnew_62 ?_
          refine k_Vi (rest := []) (As := [.ref (ad 3 r8), .ref (ad 2 (21 * o0))]) ⟨hx, hb, hml, hown, hts⟩ hE hz hS hW (mtX5_reword l z G ad a1 ν ρ lo o0 r8 (21 * o0) _ h) (cwV 2 hts gX5_findAnew_X5_reword rfl rfl rfl (by decide +kernel) ⟨Nat.le_of_ble_eq_true rfl, Nat.le_of_ble_eq_true rfl⟩) (r_recv hE hW 1 o0 g4 (ci := 8) rfl rfl) rfl hl.1 rfl (Nat.le_of_ble_eq_true rfl) dX5_findAnew_65 ⟨Nat.le_of_ble_eq_true rfl, Nat.le_of_ble_eq_true rfl⟩ (fun r14 S1 H locs hp hW hS => ?_)
          obtain ⟨t15, rfl, h⟩ := hp
          refine lv_pop hx hb dX5_findAnew_68 rfl ?_
          refine lv_iinc (v := x3 + (1 : Int32)) (lv' := [(3, .int (x3 + (1 : Int32))), (4, .ref (ad 3 r8)), (0, .ref (ad 1 o0)), (1, .int p1), (2, .int p2)]) hx hb dX5_findAnew_69 hl (k := 4) rfl rfl (by decide) rfl (fun ls hl => ?_)
          refine lv_goto (tgt := 12) hx hb dX5_findAnew_72 (by decide) ?_
          exact ih t15 (x3 + (1 : Int32)) hW hS (lv_sub hl [2, 3, 4, 0] rfl) h
set_option maxHeartbeats 4000000 in
set_option maxRecDepth 100000 in
theorem mtX5_findAnew (l : Launch) (z : Nat) (G : Gl) (ad : Nat → Nat → Nat) (σ : SG) (ν : NU) (ρ : RH) (lo : Int64) (o0 : Nat) (p1 : Int32) (p2 : Int32) (post : Int32 → SG → Prop) (h : wpX5_findAnew σ ν o0 p1 p2 post) : Met l yX5_findAnew wsX5_findAnew ({ frames := 4, cells := 0, slots := 0, locals := 107 } : Room) (Pcs z G ad (σ, ν, ρ, lo) [.ref (ad 1 o0), .int p1, .int p2]) (Qis z G ad (fun r S1 => ∃ t : SG, S1 = (t, ν, ρ, lo) ∧ post r t)) 0 0 (Az z) := by
  refine Met.ofW (cc := cX5_findAnew) (maxL := 5) (ret := (some .int)) (by decide) rfl ?_
  intro p e s m args below meth c s₁ B hml hv
  obtain ⟨rfl, hz, hW, hE⟩ := hv
  have hx := B.exec
  have hb := B.bytes
  have hr := B.returns
  have hts := atoms_spec (ws := wsX5_findAnew) B.pre
  have hown : s.vm.findClass RX5 = some m.cls := findClass_of_methodNamed B.named
  have hlocks := B.notSynchronized
  have X : Cx p l e s m _ below meth c cX5_findAnew (some .int) 5 RX5 wsX5_findAnew z G := ⟨hx, hb, hr, hml, hown, hts, hlocks, hE, hz⟩
  have hS : va_S (Az z) s.heap s.heap [] := va_S.rf
  have hl := lv_entry [.ref (ad 1 o0), .int p1, .int p2] (n := 5) (Nat.le_of_ble_eq_true rfl)
  rw [lg_entry_eq]
  generalize (lg_sl [.ref (ad 1 o0), .int p1, .int p2] ++ List.replicate (5 - (lg_sl [.ref (ad 1 o0), .int p1, .int p2]).length) Slot.unset).toArray = ls at hl ⊢
  have hl : lv_has ls 5 [(0, .ref (ad 1 o0)), (1, .int p1), (2, .int p2)] := hl
  unfold wpX5_findAnew at h
  refine lv_aload_n hx hb dX5_findAnew_0 rfl (lv_at hl 0 rfl) ?_
  refine lv_iload_n hx hb dX5_findAnew_1 rfl (lv_at hl 1 rfl) ?_
  obtain ⟨g1, h⟩ := h
  refine k_Vi (rest := []) (As := [.int p1]) ⟨hx, hb, hml, hown, hts⟩ hE hz hS hW (mtX5_isThere l z G ad σ ν ρ lo o0 p1 _ h) (cwV 1 hts gX5_findAnew_X5_isThere rfl rfl rfl (by decide +kernel) ⟨Nat.le_of_ble_eq_true rfl, Nat.le_of_ble_eq_true rfl⟩) (r_recv hE hW 1 o0 g1 (ci := 8) rfl rfl) rfl hl.1 rfl (Nat.le_of_ble_eq_true rfl) dX5_findAnew_2 ⟨Nat.le_of_ble_eq_true rfl, Nat.le_of_ble_eq_true rfl⟩ (fun r2 S1 H locs hp hW hS => ?_)
  obtain ⟨rfl, h⟩ := hp
  refine r_if_ne hx hb rfl (tgt := 10) dX5_findAnew_5 (by decide) (fun c3 => ?_) (fun c3 => ?_)
  · have h := ite_f c3 h
    refine lv_iconst (v := (0 : Int32)) hx hb dX5_findAnew_10 (by decide) ?_
    refine lv_istore_n (lv' := [(3, .int ((0 : Int32))), (0, .ref (ad 1 o0)), (1, .int p1), (2, .int p2)]) hx hb dX5_findAnew_11 rfl hl (by decide) rfl (fun ls hl => ?_)
    obtain ⟨n16, h⟩ := h
    exact tX5_findAnew_12 (σ := σ) (ρ := ρ) X o0 p1 p2 post  n16 σ ((0 : Int32)) hW hS (lv_sub hl [1, 2, 3, 0] rfl) h
  · have h := ite_t c3 h
    refine lv_iconst (v := (-1 : Int32)) hx hb dX5_findAnew_8 (by decide) ?_
    exact W.iret (v := (-1 : Int32)) hx hb hr (fun t ht _ => ⟨⟨_, (σ, ν, ρ, lo), rfl, ⟨_, rfl, h⟩, WP.at9 ht hW⟩, hS.F ht⟩) hS.2.2 dX5_findAnew_9 (hlocks := hlocks)
set_option maxHeartbeats 4000000 in
set_option maxRecDepth 100000 in
theorem mtX6_wordAnew (l : Launch) (hlt : l.stackTraces = false) (z : Nat) (G : Gl) (ad : Nat → Nat → Nat) (σ : SG) (ν : NU) (ρ : RH) (lo : Int64) (p1 : Int32) (p2 : Int32) (post : Int32 → SG → Prop) (px : String → SG → Prop) (h : wpX6_wordAnew σ ν p1 p2 post px) : vx_Met l yX6_wordAnew wsX6_wordAnew ({ frames := 7, cells := 2, slots := 12, locals := 131 } : Room) (Pcs z G ad (σ, ν, ρ, lo) [.ref (ad 0 0), .int p1, .int p2]) (Qis z G ad (fun r S1 => ∃ t : SG, S1 = (t, ν, ρ, lo) ∧ post r t)) (XCs z G ad (fun E S1 => ∃ t : SG, S1 = (t, ν, ρ, lo) ∧ px E t)) 2 12 (Az z) := by
  refine vx_ofW (cc := cX6_wordAnew) (maxL := 3) (ret := (some .int)) (by decide) rfl ?_
  intro p e s m args below meth c s₁ B hml htb hv
  obtain ⟨rfl, hz, hW, hE⟩ := hv
  have hx := B.exec
  have hb := B.bytes
  have hr := B.returns
  have hts := atoms_spec (ws := wsX6_wordAnew) B.pre
  have hown : s.vm.findClass RX6 = some m.cls := findClass_of_methodNamed B.named
  have hlocks := B.notSynchronized
  have X : Cxx p l e s m _ below meth c cX6_wordAnew (some .int) 3 RX6 wsX6_wordAnew z G := ⟨hx, hb, hr, hml, hown, hts, hlocks, hE, hz, htb, hlt⟩
  have hS : va_S (Az z) s.heap s.heap [] := va_S.rf
  have hl := lv_entry [.ref (ad 0 0), .int p1, .int p2] (n := 3) (Nat.le_of_ble_eq_true rfl)
  rw [lg_entry_eq]
  generalize (lg_sl [.ref (ad 0 0), .int p1, .int p2] ++ List.replicate (3 - (lg_sl [.ref (ad 0 0), .int p1, .int p2]).length) Slot.unset).toArray = ls at hl ⊢
  have hl : lv_has ls 3 [(0, .ref (ad 0 0)), (1, .int p1), (2, .int p2)] := hl
  unfold wpX6_wordAnew at h
  refine lv_aload_n hx hb dX6_wordAnew_0 rfl (lv_at hl 0 rfl) ?_
  refine lv_iload_n hx hb dX6_wordAnew_1 rfl (lv_at hl 1 rfl) ?_
  refine x_Vv (rest := []) (As := [.int p1]) ⟨hx, hb, hml, hown, hts⟩ hE hz hS hW (mtX6_needProvision l hlt z G ad σ ν ρ lo p1 _ _ h) (cwV 1 hts gX6_wordAnew_X6_needProvision rfl rfl rfl (by decide +kernel) ⟨Nat.le_of_ble_eq_true rfl, Nat.le_of_ble_eq_true rfl⟩) (r_recv hE hW 0 0 rfl (ci := 9) rfl rfl) rfl hl.1 rfl (Nat.le_of_ble_eq_true rfl) dX6_wordAnew_2 ⟨Nat.le_of_ble_eq_true rfl, Nat.le_of_ble_eq_true rfl⟩ hlocks htb (fun E S1 q => ⟨_, q⟩) ⟨Nat.le_of_ble_eq_true rfl, Nat.le_of_ble_eq_true rfl⟩ (fun S1 H locs hp hW hS => ?_)
  obtain ⟨rfl, h⟩ := hp
  refine lv_iload_n hx hb dX6_wordAnew_5 rfl (lv_at hl 2 rfl) ?_
  refine r_if_ge hx hb rfl (tgt := 19) dX6_wordAnew_6 (by decide) (fun c1 => ?_) (fun c1 => ?_)
  · have h := ite_f c1 h
    refine lv_aload_n hx hb dX6_wordAnew_19 rfl (lv_at hl 0 rfl) ?_
    refine r_get (C := RX6) (T := TX6) (N := 8) (ci := 9) (fs := fl_0 ad ν ρ 0 (σ 0 0)) hx hb hts hown hE hW 0 0 rfl rfl rfl (fun w h => List.mem_cons_of_mem _ (List.mem_append_left _ (List.mem_append_left _ (List.mem_append_left _ (List.mem_append_left _ (List.mem_append_left _ (List.mem_append_left _ (List.mem_append_right _ h)))))))) 1 (by decide) (List.mem_of_getElem? (i := 3) rfl) rfl (v := .ref (ad 1 0)) rfl dX6_wordAnew_20 ?_
    refine lv_iload_n hx hb dX6_wordAnew_23 rfl (lv_at hl 1 rfl) ?_
    refine lv_iload_n hx hb dX6_wordAnew_24 rfl (lv_at hl 2 rfl) ?_
    refine k_Vi (rest := []) (As := [.int p1, .int p2]) ⟨hx, hb, hml, hown, hts⟩ hE hz hS hW (mtX5_findAnew l z G ad σ ν ρ lo 0 p1 p2 _ h) (cwV 2 hts gX6_wordAnew_X5_findAnew rfl rfl rfl (by decide +kernel) ⟨Nat.le_of_ble_eq_true rfl, Nat.le_of_ble_eq_true rfl⟩) (r_recv hE hW 1 0 (show 0 < 2 by decide) (ci := 8) rfl rfl) rfl hl.1 rfl (Nat.le_of_ble_eq_true rfl) dX6_wordAnew_25 ⟨Nat.le_of_ble_eq_true rfl, Nat.le_of_ble_eq_true rfl⟩ (fun r2 S1 H locs hp hW hS => ?_)
    obtain ⟨t3, rfl, h⟩ := hp
    refine W.widen (k := 2) (n := 12) (Nat.le_of_ble_eq_true rfl) (Nat.le_of_ble_eq_true rfl) ?_
    refine vx_ret ?_
    exact W.iret (v := r2) hx hb hr (fun t ht _ => ⟨⟨_, (t3, ν, ρ, lo), rfl, ⟨_, rfl, h⟩, WP.at9 ht hW⟩, hS.F ht⟩) hS.2.2 dX6_wordAnew_28 (hlocks := hlocks)
  · have h := ite_t c1 h
    exact r_throw (k := 17) (k2 := 4) (cls := "java/lang/IndexOutOfBoundsException") (ik := 189) (is := 191) (ic := 193) (text := "there is no such place") hx hb hlt hts hown hml hlocks htb hE hW hS hl.1 (List.mem_of_getElem? (i := 1) rfl) (List.mem_of_getElem? (i := 2) rfl) (fun w h => List.mem_cons_of_mem _ (List.mem_append_right _ h)) rfl rfl (by decide +kernel) (by decide +kernel) rfl dX6_wordAnew_9 dX6_wordAnew_12 dX6_wordAnew_13 dX6_wordAnew_15 dX6_wordAnew_18 (Nat.le_of_ble_eq_true rfl) (Nat.le_of_ble_eq_true rfl) (Nat.le_of_ble_eq_true rfl) (Nat.le_of_ble_eq_true rfl) (Nat.le_of_ble_eq_true rfl) (Nat.le_of_ble_eq_true rfl) ⟨_, rfl, h⟩
set_option maxHeartbeats 4000000 in
set_option maxRecDepth 100000 in
theorem mtX4_sourceAt (l : Launch) (z : Nat) (G : Gl) (ad : Nat → Nat → Nat) (σ : SG) (ν : NU) (ρ : RH) (lo : Int64) (o0 : Nat) (p1 : Int32) (post : Int32 → Prop) (h : wpX4_sourceAt σ ν o0 p1 post) : Met l yX4_sourceAt wsX4_sourceAt ({ frames := 0, cells := 0, slots := 0, locals := 0 } : Room) (Pcs z G ad (σ, ν, ρ, lo) [.ref (ad 2 o0), .int p1]) (Qis z G ad (fun r S1 => S1 = (σ, ν, ρ, lo) ∧ post r)) 0 0 (Az z) := by
  refine Met.ofW (cc := cX4_sourceAt) (maxL := 2) (ret := (some .int)) (by decide) rfl ?_
  intro p e s m args below meth c s₁ B hml hv
  obtain ⟨rfl, hz, hW, hE⟩ := hv
  have hx := B.exec
  have hb := B.bytes
  have hr := B.returns
  have hts := atoms_spec (ws := wsX4_sourceAt) B.pre
  have hown : s.vm.findClass RX4 = some m.cls := findClass_of_methodNamed B.named
  have hlocks := B.notSynchronized
  have X : Cx p l e s m _ below meth c cX4_sourceAt (some .int) 2 RX4 wsX4_sourceAt z G := ⟨hx, hb, hr, hml, hown, hts, hlocks, hE, hz⟩
  have hS : va_S (Az z) s.heap s.heap [] := va_S.rf
  have hl := lv_entry [.ref (ad 2 o0), .int p1] (n := 2) (Nat.le_of_ble_eq_true rfl)
  rw [lg_entry_eq]
  generalize (lg_sl [.ref (ad 2 o0), .int p1] ++ List.replicate (2 - (lg_sl [.ref (ad 2 o0), .int p1]).length) Slot.unset).toArray = ls at hl ⊢
  have hl : lv_has ls 2 [(0, .ref (ad 2 o0)), (1, .int p1)] := hl
  unfold wpX4_sourceAt at h
  refine lv_iload_n hx hb dX4_sourceAt_0 rfl (lv_at hl 1 rfl) ?_
  refine r_if_lt hx hb rfl (tgt := 30) dX4_sourceAt_1 (by decide) (fun c1 => ?_) (fun c1 => ?_)
  · have h := ite_t c1 h
    refine lv_iconst (v := (-1 : Int32)) hx hb dX4_sourceAt_30 (by decide) ?_
    exact W.iret (v := (-1 : Int32)) hx hb hr (fun t ht _ => ⟨⟨_, (σ, ν, ρ, lo), rfl, ⟨rfl, h⟩, WP.at9 ht hW⟩, hS.F ht⟩) hS.2.2 dX4_sourceAt_31 (hlocks := hlocks)
  · have h := ite_f c1 h
    refine lv_iload_n hx hb dX4_sourceAt_4 rfl (lv_at hl 1 rfl) ?_
    refine lv_aload_n hx hb dX4_sourceAt_5 rfl (lv_at hl 0 rfl) ?_
    obtain ⟨g2, h⟩ := h
    refine r_get (C := RX4) (T := TX4) (N := 3) (ci := 7) (fs := fl_2 ad ν ρ o0 (σ 2 o0)) hx hb hts hown hE hW 2 o0 g2 rfl rfl (fun w h => List.mem_cons_of_mem _ (List.mem_append_right _ h)) 2 (by decide) (List.mem_of_getElem? (i := 1) rfl) rfl (v := .int (σ 2 o0 2)) rfl dX4_sourceAt_6 ?_
    refine r_icmp_ge hx hb rfl rfl (tgt := 30) dX4_sourceAt_9 (by decide) (fun c3 => ?_) (fun c3 => ?_)
    · have h := ite_f c3 h
      refine lv_iconst (v := (-1 : Int32)) hx hb dX4_sourceAt_30 (by decide) ?_
      exact W.iret (v := (-1 : Int32)) hx hb hr (fun t ht _ => ⟨⟨_, (σ, ν, ρ, lo), rfl, ⟨rfl, h⟩, WP.at9 ht hW⟩, hS.F ht⟩) hS.2.2 dX4_sourceAt_31 (hlocks := hlocks)
    · have h := ite_t c3 h
      refine lv_iload_n hx hb dX4_sourceAt_12 rfl (lv_at hl 1 rfl) ?_
      refine lv_aload_n hx hb dX4_sourceAt_13 rfl (lv_at hl 0 rfl) ?_
      refine r_get (C := RX4) (T := TX4) (N := 3) (ci := 7) (fs := fl_2 ad ν ρ o0 (σ 2 o0)) hx hb hts hown hE hW 2 o0 g2 rfl rfl (fun w h => List.mem_cons_of_mem _ (List.mem_append_right _ h)) 1 (by decide) (List.mem_of_getElem? (i := 2) rfl) rfl (v := .ref (ad 21 o0)) rfl dX4_sourceAt_14 ?_
      refine r_alen hx hb hE hW 21 o0 g2 rfl 0 rfl (v := (12 : Int32)) rfl dX4_sourceAt_17 ?_
      refine r_icmp_ge hx hb rfl (show (12 : Int32).toInt = 12 by decide) (tgt := 30) dX4_sourceAt_18 (by decide) (fun c4 => ?_) (fun c4 => ?_)
      · have h := ite_f c4 h
        refine lv_iconst (v := (-1 : Int32)) hx hb dX4_sourceAt_30 (by decide) ?_
        exact W.iret (v := (-1 : Int32)) hx hb hr (fun t ht _ => ⟨⟨_, (σ, ν, ρ, lo), rfl, ⟨rfl, h⟩, WP.at9 ht hW⟩, hS.F ht⟩) hS.2.2 dX4_sourceAt_31 (hlocks := hlocks)
      · have h := ite_t c4 h
        refine lv_aload_n hx hb dX4_sourceAt_21 rfl (lv_at hl 0 rfl) ?_
        refine r_get (C := RX4) (T := TX4) (N := 3) (ci := 7) (fs := fl_2 ad ν ρ o0 (σ 2 o0)) hx hb hts hown hE hW 2 o0 g2 rfl rfl (fun w h => List.mem_cons_of_mem _ (List.mem_append_right _ h)) 1 (by decide) (List.mem_of_getElem? (i := 2) rfl) rfl (v := .ref (ad 21 o0)) rfl dX4_sourceAt_22 ?_
        refine lv_iload_n hx hb dX4_sourceAt_25 rfl (lv_at hl 1 rfl) ?_
        obtain ⟨b5, h⟩ := h
        refine r_iald hx hb hE hW 21 o0 g2 (n := 12) (f := σ 21 o0) rfl b5 (v := σ 21 o0 p1.toNatClampNeg) rfl dX4_sourceAt_26 ?_
        refine lv_goto (tgt := 31) hx hb dX4_sourceAt_27 (by decide) ?_
        exact W.iret (v := σ 21 o0 p1.toNatClampNeg) hx hb hr (fun t ht _ => ⟨⟨_, (σ, ν, ρ, lo), rfl, ⟨rfl, h⟩, WP.at9 ht hW⟩, hS.F ht⟩) hS.2.2 dX4_sourceAt_31 (hlocks := hlocks)
set_option maxHeartbeats 4000000 in
set_option maxRecDepth 100000 in
theorem mtX5_sourceAt (l : Launch) (z : Nat) (G : Gl) (ad : Nat → Nat → Nat) (σ : SG) (ν : NU) (ρ : RH) (lo : Int64) (o0 : Nat) (p1 : Int32) (p2 : Int32) (post : Int32 → Prop) (h : wpX5_sourceAt σ ν o0 p1 p2 post) : Met l yX5_sourceAt wsX5_sourceAt ({ frames := 2, cells := 0, slots := 0, locals := 42 } : Room) (Pcs z G ad (σ, ν, ρ, lo) [.ref (ad 1 o0), .int p1, .int p2]) (Qis z G ad (fun r S1 => S1 = (σ, ν, ρ, lo) ∧ post r)) 0 0 (Az z) := by
  refine Met.ofW (cc := cX5_sourceAt) (maxL := 3) (ret := (some .int)) (by decide) rfl ?_
  intro p e s m args below meth c s₁ B hml hv
  obtain ⟨rfl, hz, hW, hE⟩ := hv
  have hx := B.exec
  have hb := B.bytes
  have hr := B.returns
  have hts := atoms_spec (ws := wsX5_sourceAt) B.pre
  have hown : s.vm.findClass RX5 = some m.cls := findClass_of_methodNamed B.named
  have hlocks := B.notSynchronized
  have X : Cx p l e s m _ below meth c cX5_sourceAt (some .int) 3 RX5 wsX5_sourceAt z G := ⟨hx, hb, hr, hml, hown, hts, hlocks, hE, hz⟩
  have hS : va_S (Az z) s.heap s.heap [] := va_S.rf
  have hl := lv_entry [.ref (ad 1 o0), .int p1, .int p2] (n := 3) (Nat.le_of_ble_eq_true rfl)
  rw [lg_entry_eq]
  generalize (lg_sl [.ref (ad 1 o0), .int p1, .int p2] ++ List.replicate (3 - (lg_sl [.ref (ad 1 o0), .int p1, .int p2]).length) Slot.unset).toArray = ls at hl ⊢
  have hl : lv_has ls 3 [(0, .ref (ad 1 o0)), (1, .int p1), (2, .int p2)] := hl
  unfold wpX5_sourceAt at h
  refine lv_aload_n hx hb dX5_sourceAt_0 rfl (lv_at hl 0 rfl) ?_
  refine lv_iload_n hx hb dX5_sourceAt_1 rfl (lv_at hl 1 rfl) ?_
  obtain ⟨g1, h⟩ := h
  refine k_Vi (rest := []) (As := [.int p1]) ⟨hx, hb, hml, hown, hts⟩ hE hz hS hW (mtX5_isThere l z G ad σ ν ρ lo o0 p1 _ h) (cwV 1 hts gX5_sourceAt_X5_isThere rfl rfl rfl (by decide +kernel) ⟨Nat.le_of_ble_eq_true rfl, Nat.le_of_ble_eq_true rfl⟩) (r_recv hE hW 1 o0 g1 (ci := 8) rfl rfl) rfl hl.1 rfl (Nat.le_of_ble_eq_true rfl) dX5_sourceAt_2 ⟨Nat.le_of_ble_eq_true rfl, Nat.le_of_ble_eq_true rfl⟩ (fun r2 S1 H locs hp hW hS => ?_)
  obtain ⟨rfl, h⟩ := hp
  refine r_if_eq hx hb rfl (tgt := 21) dX5_sourceAt_5 (by decide) (fun c3 => ?_) (fun c3 => ?_)
  · have h := ite_t c3 h
    refine lv_iconst (v := (-1 : Int32)) hx hb dX5_sourceAt_21 (by decide) ?_
    exact W.iret (v := (-1 : Int32)) hx hb hr (fun t ht _ => ⟨⟨_, (σ, ν, ρ, lo), rfl, ⟨rfl, h⟩, WP.at9 ht hW⟩, hS.F ht⟩) hS.2.2 dX5_sourceAt_22 (hlocks := hlocks)
  · have h := ite_f c3 h
    refine lv_aload_n hx hb dX5_sourceAt_8 rfl (lv_at hl 0 rfl) ?_
    refine r_get (C := RX5) (T := TX5) (N := 13) (ci := 8) (fs := fl_1 ad ν ρ o0 (σ 1 o0)) hx hb hts hown hE hW 1 o0 g1 rfl rfl (fun w h => List.mem_cons_of_mem _ (List.mem_append_left _ (List.mem_append_right _ h))) 6 (by decide) (List.mem_of_getElem? (i := 1) rfl) rfl (v := .ref (ad 16 o0)) rfl dX5_sourceAt_9 ?_
    refine lv_iload_n hx hb dX5_sourceAt_12 rfl (lv_at hl 1 rfl) ?_
    obtain ⟨b4, h⟩ := h
    have b5 := vp_lt b4
    refine r_aldq hx hb hE hW 16 o0 g1 (n := 20) (f := fun i => some (ad 2 (21 * o0 + 1 + i))) rfl 3 rfl b4 (v := .ref (ad 2 (21 * o0 + 1 + p1.toNatClampNeg))) rfl dX5_sourceAt_13 ?_
    refine lv_iload_n hx hb dX5_sourceAt_14 rfl (lv_at hl 2 rfl) ?_
    refine k_Vi (rest := []) (As := [.int p2]) ⟨hx, hb, hml, hown, hts⟩ hE hz hS hW (mtX4_sourceAt l z G ad σ ν ρ lo (21 * o0 + 1 + p1.toNatClampNeg) p2 _ h) (cwV 1 hts gX5_sourceAt_X4_sourceAt rfl rfl rfl (by decide +kernel) ⟨Nat.le_of_ble_eq_true rfl, Nat.le_of_ble_eq_true rfl⟩) (r_recv hE hW 2 (21 * o0 + 1 + p1.toNatClampNeg) (show 21 * o0 + 1 + p1.toNatClampNeg < 42 by omega) (ci := 7) rfl rfl) rfl hl.1 rfl (Nat.le_of_ble_eq_true rfl) dX5_sourceAt_15 ⟨Nat.le_of_ble_eq_true rfl, Nat.le_of_ble_eq_true rfl⟩ (fun r6 S1 H locs hp hW hS => ?_)
    obtain ⟨rfl, h⟩ := hp
    refine lv_goto (tgt := 22) hx hb dX5_sourceAt_18 (by decide) ?_
    exact W.iret (v := r6) hx hb hr (fun t ht _ => ⟨⟨_, (σ, ν, ρ, lo), rfl, ⟨rfl, h⟩, WP.at9 ht hW⟩, hS.F ht⟩) hS.2.2 dX5_sourceAt_22 (hlocks := hlocks)
set_option maxHeartbeats 4000000 in
set_option maxRecDepth 100000 in
theorem mtX6_origin (l : Launch) (hlt : l.stackTraces = false) (z : Nat) (G : Gl) (ad : Nat → Nat → Nat) (σ : SG) (ν : NU) (ρ : RH) (lo : Int64) (p1 : Int32) (p2 : Int32) (post : Int32 → Prop) (px : String → Prop) (h : wpX6_origin σ ν p1 p2 post px) : vx_Met l yX6_origin wsX6_origin ({ frames := 8, cells := 2, slots := 12, locals := 125 } : Room) (Pcs z G ad (σ, ν, ρ, lo) [.ref (ad 0 0), .int p1, .int p2]) (Qis z G ad (fun r S1 => S1 = (σ, ν, ρ, lo) ∧ post r)) (XCs z G ad (fun E S1 => S1 = (σ, ν, ρ, lo) ∧ px E)) 2 12 (Az z) := by
  refine vx_ofW (cc := cX6_origin) (maxL := 3) (ret := (some .int)) (by decide) rfl ?_
  intro p e s m args below meth c s₁ B hml htb hv
  obtain ⟨rfl, hz, hW, hE⟩ := hv
  have hx := B.exec
  have hb := B.bytes
  have hr := B.returns
  have hts := atoms_spec (ws := wsX6_origin) B.pre
  have hown : s.vm.findClass RX6 = some m.cls := findClass_of_methodNamed B.named
  have hlocks := B.notSynchronized
  have X : Cxx p l e s m _ below meth c cX6_origin (some .int) 3 RX6 wsX6_origin z G := ⟨hx, hb, hr, hml, hown, hts, hlocks, hE, hz, htb, hlt⟩
  have hS : va_S (Az z) s.heap s.heap [] := va_S.rf
  have hl := lv_entry [.ref (ad 0 0), .int p1, .int p2] (n := 3) (Nat.le_of_ble_eq_true rfl)
  rw [lg_entry_eq]
  generalize (lg_sl [.ref (ad 0 0), .int p1, .int p2] ++ List.replicate (3 - (lg_sl [.ref (ad 0 0), .int p1, .int p2]).length) Slot.unset).toArray = ls at hl ⊢
  have hl : lv_has ls 3 [(0, .ref (ad 0 0)), (1, .int p1), (2, .int p2)] := hl
  unfold wpX6_origin at h
  refine lv_aload_n hx hb dX6_origin_0 rfl (lv_at hl 0 rfl) ?_
  refine lv_iload_n hx hb dX6_origin_1 rfl (lv_at hl 1 rfl) ?_
  refine lv_iload_n hx hb dX6_origin_2 rfl (lv_at hl 2 rfl) ?_
  refine x_Vv (rest := []) (As := [.int p1, .int p2]) ⟨hx, hb, hml, hown, hts⟩ hE hz hS hW (mtX6_needWord l hlt z G ad σ ν ρ lo p1 p2 _ _ h) (cwV 2 hts gX6_origin_X6_needWord rfl rfl rfl (by decide +kernel) ⟨Nat.le_of_ble_eq_true rfl, Nat.le_of_ble_eq_true rfl⟩) (r_recv hE hW 0 0 rfl (ci := 9) rfl rfl) rfl hl.1 rfl (Nat.le_of_ble_eq_true rfl) dX6_origin_3 ⟨Nat.le_of_ble_eq_true rfl, Nat.le_of_ble_eq_true rfl⟩ hlocks htb (fun E S1 q => q) ⟨Nat.le_of_ble_eq_true rfl, Nat.le_of_ble_eq_true rfl⟩ (fun S1 H locs hp hW hS => ?_)
  obtain ⟨rfl, h⟩ := hp
  refine lv_aload_n hx hb dX6_origin_6 rfl (lv_at hl 0 rfl) ?_
  refine r_get (C := RX6) (T := TX6) (N := 8) (ci := 9) (fs := fl_0 ad ν ρ 0 (σ 0 0)) hx hb hts hown hE hW 0 0 rfl rfl rfl (fun w h => List.mem_cons_of_mem _ (List.mem_append_left _ (List.mem_append_left _ (List.mem_append_left _ (List.mem_append_right _ h))))) 1 (by decide) (List.mem_of_getElem? (i := 1) rfl) rfl (v := .ref (ad 1 0)) rfl dX6_origin_7 ?_
  refine lv_iload_n hx hb dX6_origin_10 rfl (lv_at hl 1 rfl) ?_
  refine lv_iload_n hx hb dX6_origin_11 rfl (lv_at hl 2 rfl) ?_
  refine k_Vi (rest := []) (As := [.int p1, .int p2]) ⟨hx, hb, hml, hown, hts⟩ hE hz hS hW (mtX5_sourceAt l z G ad σ ν ρ lo 0 p1 p2 _ h) (cwV 2 hts gX6_origin_X5_sourceAt rfl rfl rfl (by decide +kernel) ⟨Nat.le_of_ble_eq_true rfl, Nat.le_of_ble_eq_true rfl⟩) (r_recv hE hW 1 0 (show 0 < 2 by decide) (ci := 8) rfl rfl) rfl hl.1 rfl (Nat.le_of_ble_eq_true rfl) dX6_origin_12 ⟨Nat.le_of_ble_eq_true rfl, Nat.le_of_ble_eq_true rfl⟩ (fun r1 S1 H locs hp hW hS => ?_)
  obtain ⟨rfl, h⟩ := hp
  refine vx_ret ?_
  exact W.iret (v := r1) hx hb hr (fun t ht _ => ⟨⟨_, (σ, ν, ρ, lo), rfl, ⟨rfl, h⟩, WP.at9 ht hW⟩, hS.F ht⟩) hS.2.2 dX6_origin_15 (hlocks := hlocks)
set_option maxHeartbeats 4000000 in
set_option maxRecDepth 100000 in
theorem mtX6_refers (l : Launch) (hlt : l.stackTraces = false) (z : Nat) (G : Gl) (ad : Nat → Nat → Nat) (σ : SG) (ν : NU) (ρ : RH) (lo : Int64) (p1 : Int32) (p2 : Int32) (post : Int32 → SG → NU → Prop) (px : String → Prop) (h : wpX6_refers σ ν p1 p2 post px) : vx_Met l yX6_refers wsX6_refers ({ frames := 9, cells := 10, slots := 169, locals := 221 } : Room) (Pcs z G ad (σ, ν, ρ, lo) [.ref (ad 0 0), .int p1, .int p2]) (Qia z G (fun r S1 => ∃ (t : SG) (u : NU), S1.1 = (t, u, ρ, lo) ∧ Xt ad S1.2 ν u ∧ post r t u)) (XCs z G ad (fun E S1 => S1 = (σ, ν, ρ, lo) ∧ px E)) 10 169 (Az z) := by
  refine vx_ofW (cc := cX6_refers) (maxL := 5) (ret := (some .int)) (by decide) rfl ?_
  intro p e s m args below meth c s₁ B hml htb hv
  obtain ⟨rfl, hz, hW, hE⟩ := hv
  have hx := B.exec
  have hb := B.bytes
  have hr := B.returns
  have hts := atoms_spec (ws := wsX6_refers) B.pre
  have hown : s.vm.findClass RX6 = some m.cls := findClass_of_methodNamed B.named
  have hlocks := B.notSynchronized
  have X : Cxx p l e s m _ below meth c cX6_refers (some .int) 5 RX6 wsX6_refers z G := ⟨hx, hb, hr, hml, hown, hts, hlocks, hE, hz, htb, hlt⟩
  have hS : va_S (Az z) s.heap s.heap [] := va_S.rf
  have hl := lv_entry [.ref (ad 0 0), .int p1, .int p2] (n := 5) (Nat.le_of_ble_eq_true rfl)
  rw [lg_entry_eq]
  generalize (lg_sl [.ref (ad 0 0), .int p1, .int p2] ++ List.replicate (5 - (lg_sl [.ref (ad 0 0), .int p1, .int p2]).length) Slot.unset).toArray = ls at hl ⊢
  have hl : lv_has ls 5 [(0, .ref (ad 0 0)), (1, .int p1), (2, .int p2)] := hl
  unfold wpX6_refers at h
  refine lv_aload_n hx hb dX6_refers_0 rfl (lv_at hl 0 rfl) ?_
  refine lv_iload_n hx hb dX6_refers_1 rfl (lv_at hl 1 rfl) ?_
  refine lv_iload_n hx hb dX6_refers_2 rfl (lv_at hl 2 rfl) ?_
  refine x_Vv (rest := []) (As := [.int p1, .int p2]) ⟨hx, hb, hml, hown, hts⟩ hE hz hS hW (mtX6_needWord l hlt z G ad σ ν ρ lo p1 p2 _ _ h) (cwV 2 hts gX6_refers_X6_needWord rfl rfl rfl (by decide +kernel) ⟨Nat.le_of_ble_eq_true rfl, Nat.le_of_ble_eq_true rfl⟩) (r_recv hE hW 0 0 rfl (ci := 9) rfl rfl) rfl hl.1 rfl (Nat.le_of_ble_eq_true rfl) dX6_refers_3 ⟨Nat.le_of_ble_eq_true rfl, Nat.le_of_ble_eq_true rfl⟩ hlocks htb (fun E S1 q => q) ⟨Nat.le_of_ble_eq_true rfl, Nat.le_of_ble_eq_true rfl⟩ (fun S1 H locs hp hW hS => ?_)
  obtain ⟨rfl, h⟩ := hp
  refine lv_aload_n hx hb dX6_refers_6 rfl (lv_at hl 0 rfl) ?_
  refine r_get (C := RX6) (T := TX6) (N := 8) (ci := 9) (fs := fl_0 ad ν ρ 0 (σ 0 0)) hx hb hts hown hE hW 0 0 rfl rfl rfl (fun w h => List.mem_cons_of_mem _ (List.mem_append_left _ (List.mem_append_left _ (List.mem_append_left _ (List.mem_append_left _ (List.mem_append_left _ (List.mem_append_left _ (List.mem_append_left _ (List.mem_append_left _ (List.mem_append_right _ h)))))))))) 1 (by decide) (List.mem_of_getElem? (i := 1) rfl) rfl (v := .ref (ad 1 0)) rfl dX6_refers_7 ?_
  refine lv_iload_n hx hb dX6_refers_10 rfl (lv_at hl 1 rfl) ?_
  refine lv_iload_n hx hb dX6_refers_11 rfl (lv_at hl 2 rfl) ?_
  refine k_Vi (rest := []) (As := [.int p1, .int p2]) ⟨hx, hb, hml, hown, hts⟩ hE hz hS hW (mtX5_readAt l z G ad σ ν ρ lo 0 p1 p2 _ h) (cwV 2 hts gX6_refers_X5_readAt rfl rfl rfl (by decide +kernel) ⟨Nat.le_of_ble_eq_true rfl, Nat.le_of_ble_eq_true rfl⟩) (r_recv hE hW 1 0 (show 0 < 2 by decide) (ci := 8) rfl rfl) rfl hl.1 rfl (Nat.le_of_ble_eq_true rfl) dX6_refers_12 ⟨Nat.le_of_ble_eq_true rfl, Nat.le_of_ble_eq_true rfl⟩ (fun r1 S1 H locs hp hW hS => ?_)
  obtain ⟨rfl, h⟩ := hp
  refine lv_istore_n (lv' := [(3, .int r1), (0, .ref (ad 0 0)), (1, .int p1), (2, .int p2)]) hx hb dX6_refers_15 rfl hl (by decide) rfl (fun ls hl => ?_)
  refine lv_iload_n hx hb dX6_refers_16 rfl (lv_at hl 0 rfl) ?_
  refine lv_bipush (v := (100 : Int32)) hx hb dX6_refers_17 (by decide) ?_
  refine r_icmp_ge hx hb rfl (show (100 : Int32).toInt = 100 by decide) (tgt := 24) dX6_refers_19 (by decide) (fun c2 => ?_) (fun c2 => ?_)
  · have h := ite_f c2 h
    refine lv_iload_n hx hb dX6_refers_24 rfl (lv_at hl 0 rfl) ?_
    refine lv_bipush (v := (120 : Int32)) hx hb dX6_refers_25 (by decide) ?_
    refine r_icmp_ge hx hb rfl (show (120 : Int32).toInt = 120 by decide) (tgt := 42) dX6_refers_27 (by decide) (fun c3 => ?_) (fun c3 => ?_)
    · have h := ite_f c3 h
      refine lv_aload_n hx hb dX6_refers_42 rfl (lv_at hl 1 rfl) ?_
      refine r_get (C := RX6) (T := TX6) (N := 8) (ci := 9) (fs := fl_0 ad ν ρ 0 (σ 0 0)) hx hb hts hown hE hW 0 0 rfl rfl rfl (fun w h => List.mem_cons_of_mem _ (List.mem_append_left _ (List.mem_append_left _ (List.mem_append_left _ (List.mem_append_left _ (List.mem_append_left _ (List.mem_append_left _ (List.mem_append_left _ (List.mem_append_left _ (List.mem_append_right _ h)))))))))) 1 (by decide) (List.mem_of_getElem? (i := 1) rfl) rfl (v := .ref (ad 1 0)) rfl dX6_refers_43 ?_
      refine lv_aload_n hx hb dX6_refers_46 rfl (lv_at hl 1 rfl) ?_
      refine r_get (C := RX6) (T := TX6) (N := 8) (ci := 9) (fs := fl_0 ad ν ρ 0 (σ 0 0)) hx hb hts hown hE hW 0 0 rfl rfl rfl (fun w h => List.mem_cons_of_mem _ (List.mem_append_left _ (List.mem_append_left _ (List.mem_append_left _ (List.mem_append_left _ (List.mem_append_left _ (List.mem_append_left _ (List.mem_append_left _ (List.mem_append_left _ (List.mem_append_right _ h)))))))))) 1 (by decide) (List.mem_of_getElem? (i := 1) rfl) rfl (v := .ref (ad 1 0)) rfl dX6_refers_47 ?_
      refine lv_iload_n hx hb dX6_refers_50 rfl (lv_at hl 2 rfl) ?_
      refine lv_iload_n hx hb dX6_refers_51 rfl (lv_at hl 3 rfl) ?_
      refine k_Vi (rest := [.ref (ad 1 0)]) (As := [.int p1, .int p2]) ⟨hx, hb, hml, hown, hts⟩ hE hz hS hW (mtX5_sourceAt l z G ad σ ν ρ lo 0 p1 p2 _ h) (cwV 2 hts gX6_refers_X5_sourceAt rfl rfl rfl (by decide +kernel) ⟨Nat.le_of_ble_eq_true rfl, Nat.le_of_ble_eq_true rfl⟩) (r_recv hE hW 1 0 (show 0 < 2 by decide) (ci := 8) rfl rfl) rfl hl.1 rfl (Nat.le_of_ble_eq_true rfl) dX6_refers_52 ⟨Nat.le_of_ble_eq_true rfl, Nat.le_of_ble_eq_true rfl⟩ (fun r4 S1 H locs hp hW hS => ?_)
      obtain ⟨rfl, h⟩ := hp
      refine k_Vi (rest := []) (As := [.int r4]) ⟨hx, hb, hml, hown, hts⟩ hE hz hS hW (mtX5_beginningOf l z G ad σ ν ρ lo 0 r4 _ h) (cwV 1 hts gX6_refers_X5_beginningOf rfl rfl rfl (by decide +kernel) ⟨Nat.le_of_ble_eq_true rfl, Nat.le_of_ble_eq_true rfl⟩) (r_recv hE hW 1 0 (show 0 < 2 by decide) (ci := 8) rfl rfl) rfl hl.1 rfl (Nat.le_of_ble_eq_true rfl) dX6_refers_55 ⟨Nat.le_of_ble_eq_true rfl, Nat.le_of_ble_eq_true rfl⟩ (fun r5 S1 H locs hp hW hS => ?_)
      obtain ⟨rfl, h⟩ := hp
      refine lv_istore (lv' := [(4, .int r5), (3, .int r1), (0, .ref (ad 0 0)), (1, .int p1), (2, .int p2)]) hx hb dX6_refers_58 hl (by decide) rfl (fun ls hl => ?_)
      refine lv_aload_n hx hb dX6_refers_60 rfl (lv_at hl 2 rfl) ?_
      refine r_get (C := RX6) (T := TX6) (N := 8) (ci := 9) (fs := fl_0 ad ν ρ 0 (σ 0 0)) hx hb hts hown hE hW 0 0 rfl rfl rfl (fun w h => List.mem_cons_of_mem _ (List.mem_append_left _ (List.mem_append_left _ (List.mem_append_left _ (List.mem_append_left _ (List.mem_append_left _ (List.mem_append_left _ (List.mem_append_left _ (List.mem_append_left _ (List.mem_append_right _ h)))))))))) 2 (by decide) (List.mem_of_getElem? (i := 2) rfl) rfl (v := .ref (ad 1 1)) rfl dX6_refers_61 ?_
      refine lv_iload hx hb dX6_refers_64 (lv_at hl 0 rfl) ?_
      refine lv_aload_n hx hb dX6_refers_66 rfl (lv_at hl 2 rfl) ?_
      refine r_get (C := RX6) (T := TX6) (N := 8) (ci := 9) (fs := fl_0 ad ν ρ 0 (σ 0 0)) hx hb hts hown hE hW 0 0 rfl rfl rfl (fun w h => List.mem_cons_of_mem _ (List.mem_append_left _ (List.mem_append_left _ (List.mem_append_left _ (List.mem_append_left _ (List.mem_append_left _ (List.mem_append_left _ (List.mem_append_left _ (List.mem_append_left _ (List.mem_append_right _ h)))))))))) 1 (by decide) (List.mem_of_getElem? (i := 1) rfl) rfl (v := .ref (ad 1 0)) rfl dX6_refers_67 ?_
      refine r_getN (C := RX5) (T := TX5) (N := 13) (ci := 8) (fs := fl_1 ad ν ρ 0 (σ 1 0)) (own := RX6) hx hb hts hown hE hW 1 0 (show 0 < 2 by decide) rfl rfl (fun w h => List.mem_cons_of_mem _ (List.mem_append_left _ (List.mem_append_left _ (List.mem_append_left _ (List.mem_append_left _ (List.mem_append_left _ (List.mem_append_left _ (List.mem_append_left _ (List.mem_append_right _ h))))))))) 11 (by decide) (host := "Amendmark") (List.mem_of_getElem? (i := 1) rfl) rfl (v := .int (σ 1 0 11)) rfl dX6_refers_70 ?_
      refine lv_aload_n hx hb dX6_refers_73 rfl (lv_at hl 2 rfl) ?_
      refine r_get (C := RX6) (T := TX6) (N := 8) (ci := 9) (fs := fl_0 ad ν ρ 0 (σ 0 0)) hx hb hts hown hE hW 0 0 rfl rfl rfl (fun w h => List.mem_cons_of_mem _ (List.mem_append_left _ (List.mem_append_left _ (List.mem_append_left _ (List.mem_append_left _ (List.mem_append_left _ (List.mem_append_left _ (List.mem_append_left _ (List.mem_append_left _ (List.mem_append_right _ h)))))))))) 1 (by decide) (List.mem_of_getElem? (i := 1) rfl) rfl (v := .ref (ad 1 0)) rfl dX6_refers_74 ?_
      refine r_getN (C := RX5) (T := TX5) (N := 13) (ci := 8) (fs := fl_1 ad ν ρ 0 (σ 1 0)) (own := RX6) hx hb hts hown hE hW 1 0 (show 0 < 2 by decide) rfl rfl (fun w h => List.mem_cons_of_mem _ (List.mem_append_left _ (List.mem_append_left _ (List.mem_append_left _ (List.mem_append_left _ (List.mem_append_left _ (List.mem_append_left _ (List.mem_append_left _ (List.mem_append_right _ h))))))))) 12 (by decide) (host := "Amendmark") (List.mem_of_getElem? (i := 2) rfl) rfl (v := .int (σ 1 0 12)) rfl dX6_refers_77 ?_
      refine k_Vv (rest := []) (As := [.int r5, .int (σ 1 0 11), .int (σ 1 0 12)]) ⟨hx, hb, hml, hown, hts⟩ hE hz hS hW (mtX5_turnTo l z G ad σ ν ρ lo 1 r5 (σ 1 0 11) (σ 1 0 12) _ h) (cwV 3 hts gX6_refers_X5_turnTo rfl rfl rfl (by decide +kernel) ⟨Nat.le_of_ble_eq_true rfl, Nat.le_of_ble_eq_true rfl⟩) (r_recv hE hW 1 1 (show 1 < 2 by decide) (ci := 8) rfl rfl) rfl hl.1 rfl (Nat.le_of_ble_eq_true rfl) dX6_refers_80 ⟨Nat.le_of_ble_eq_true rfl, Nat.le_of_ble_eq_true rfl⟩ (fun S1 H locs hp hW hS => ?_)
      obtain ⟨t6, rfl, h⟩ := hp
      refine lv_aload_n hx hb dX6_refers_83 rfl (lv_at hl 2 rfl) ?_
      refine r_get (C := RX6) (T := TX6) (N := 8) (ci := 9) (fs := fl_0 ad ν ρ 0 (t6 0 0)) hx hb hts hown hE hW 0 0 rfl rfl rfl (fun w h => List.mem_cons_of_mem _ (List.mem_append_left _ (List.mem_append_left _ (List.mem_append_left _ (List.mem_append_left _ (List.mem_append_left _ (List.mem_append_left _ (List.mem_append_left _ (List.mem_append_left _ (List.mem_append_right _ h)))))))))) 2 (by decide) (List.mem_of_getElem? (i := 2) rfl) rfl (v := .ref (ad 1 1)) rfl dX6_refers_84 ?_
      refine lv_aload_n hx hb dX6_refers_87 rfl (lv_at hl 2 rfl) ?_
      refine r_get (C := RX6) (T := TX6) (N := 8) (ci := 9) (fs := fl_0 ad ν ρ 0 (t6 0 0)) hx hb hts hown hE hW 0 0 rfl rfl rfl (fun w h => List.mem_cons_of_mem _ (List.mem_append_left _ (List.mem_append_left _ (List.mem_append_left _ (List.mem_append_left _ (List.mem_append_left _ (List.mem_append_left _ (List.mem_append_left _ (List.mem_append_left _ (List.mem_append_right _ h)))))))))) 0 (by decide) (List.mem_of_getElem? (i := 3) rfl) rfl (v := .ref (ad 7 0)) rfl dX6_refers_88 ?_
      refine kA_Vv (rest := []) (As := [.ref (ad 7 0)]) ⟨hx, hb, hml, hown, hts⟩ hE hz hS hW (mtX5_build l z G ad t6 ν ρ lo 1 0 _ h) (cwV 1 hts gX6_refers_X5_build rfl rfl rfl (by decide +kernel) ⟨Nat.le_of_ble_eq_true rfl, Nat.le_of_ble_eq_true rfl⟩) (r_recv hE hW 1 1 (show 1 < 2 by decide) (ci := 8) rfl rfl) rfl hl.1 rfl (Nat.le_of_ble_eq_true rfl) dX6_refers_91 ⟨Nat.le_of_ble_eq_true rfl, Nat.le_of_ble_eq_true rfl⟩ (fun S1 ad9 H locs hp hW hS => ?_)
      obtain ⟨t7, vv8, rfl, q10, h⟩ := hp
      have z11 : ad9 0 0 = ad 0 0 := (q10 0 0 (by decide) rfl).2
      have hl : lv_has ls 5 [(4, .int r5), (3, .int r1), (0, .ref (ad9 0 0)), (1, .int p1), (2, .int p2)] := by rw [z11]; exact hl
      refine lv_aload_n hx hb dX6_refers_94 rfl (lv_at hl 2 rfl) ?_
      refine r_get (C := RX6) (T := TX6) (N := 8) (ci := 9) (fs := fl_0 ad9 vv8 ρ 0 (t7 0 0)) hx hb hts hown hE hW 0 0 rfl rfl rfl (fun w h => List.mem_cons_of_mem _ (List.mem_append_left _ (List.mem_append_left _ (List.mem_append_left _ (List.mem_append_left _ (List.mem_append_left _ (List.mem_append_left _ (List.mem_append_left _ (List.mem_append_left _ (List.mem_append_right _ h)))))))))) 2 (by decide) (List.mem_of_getElem? (i := 2) rfl) rfl (v := .ref (ad9 1 1)) rfl dX6_refers_95 ?_
      refine lv_iload_n hx hb dX6_refers_98 rfl (lv_at hl 1 rfl) ?_
      refine lv_bipush (v := (120 : Int32)) hx hb dX6_refers_99 (by decide) ?_
      refine lv_isub hx hb dX6_refers_101 ?_
      refine k_Vi (rest := []) (As := [.int (r1 - ((120 : Int32)))]) ⟨hx, hb, hml, hown, hts⟩ hE hz hS hW (mtX5_labelOf l z G ad9 t7 vv8 ρ lo 1 (r1 - ((120 : Int32))) _ h) (cwV 1 hts gX6_refers_X5_labelOf rfl rfl rfl (by decide +kernel) ⟨Nat.le_of_ble_eq_true rfl, Nat.le_of_ble_eq_true rfl⟩) (r_recv hE hW 1 1 (show 1 < 2 by decide) (ci := 8) rfl rfl) rfl hl.1 rfl (Nat.le_of_ble_eq_true rfl) dX6_refers_102 ⟨Nat.le_of_ble_eq_true rfl, Nat.le_of_ble_eq_true rfl⟩ (fun r12 S1 H locs hp hW hS => ?_)
      obtain ⟨rfl, h⟩ := hp
      refine vx_ret ?_
      exact W.iret (v := r12) hx hb hr (fun t ht _ => ⟨⟨_, ((t7, vv8, ρ, lo), ad9), rfl, ⟨_, _, rfl, (Xt.tr Xt.rf q10), h⟩, WP.at9 ht hW⟩, hS.F ht⟩) hS.2.2 dX6_refers_105 (hlocks := hlocks)
    · have h := ite_t c3 h
      refine lv_aload_n hx hb dX6_refers_30 rfl (lv_at hl 1 rfl) ?_
      refine r_get (C := RX6) (T := TX6) (N := 8) (ci := 9) (fs := fl_0 ad ν ρ 0 (σ 0 0)) hx hb hts hown hE hW 0 0 rfl rfl rfl (fun w h => List.mem_cons_of_mem _ (List.mem_append_left _ (List.mem_append_left _ (List.mem_append_left _ (List.mem_append_left _ (List.mem_append_left _ (List.mem_append_left _ (List.mem_append_left _ (List.mem_append_left _ (List.mem_append_right _ h)))))))))) 1 (by decide) (List.mem_of_getElem? (i := 1) rfl) rfl (v := .ref (ad 1 0)) rfl dX6_refers_31 ?_
      refine lv_iload_n hx hb dX6_refers_34 rfl (lv_at hl 0 rfl) ?_
      refine lv_bipush (v := (100 : Int32)) hx hb dX6_refers_35 (by decide) ?_
      refine lv_isub hx hb dX6_refers_37 ?_
      refine k_Vi (rest := []) (As := [.int (r1 - ((100 : Int32)))]) ⟨hx, hb, hml, hown, hts⟩ hE hz hS hW (mtX5_labelOf l z G ad σ ν ρ lo 0 (r1 - ((100 : Int32))) _ h) (cwV 1 hts gX6_refers_X5_labelOf rfl rfl rfl (by decide +kernel) ⟨Nat.le_of_ble_eq_true rfl, Nat.le_of_ble_eq_true rfl⟩) (r_recv hE hW 1 0 (show 0 < 2 by decide) (ci := 8) rfl rfl) rfl hl.1 rfl (Nat.le_of_ble_eq_true rfl) dX6_refers_38 ⟨Nat.le_of_ble_eq_true rfl, Nat.le_of_ble_eq_true rfl⟩ (fun r13 S1 H locs hp hW hS => ?_)
      obtain ⟨rfl, h⟩ := hp
      refine W.widen (k := 10) (n := 169) (Nat.le_of_ble_eq_true rfl) (Nat.le_of_ble_eq_true rfl) ?_
      refine vx_ret ?_
      exact W.iret (v := r13) hx hb hr (fun t ht _ => ⟨⟨_, ((σ, ν, ρ, lo), ad), rfl, ⟨_, _, rfl, Xt.rf, h⟩, WP.at9 ht hW⟩, hS.F ht⟩) hS.2.2 dX6_refers_41 (hlocks := hlocks)
  · have h := ite_t c2 h
    refine lv_iconst (v := (-1 : Int32)) hx hb dX6_refers_22 (by decide) ?_
    refine W.widen (k := 10) (n := 169) (Nat.le_of_ble_eq_true rfl) (Nat.le_of_ble_eq_true rfl) ?_
    refine vx_ret ?_
    exact W.iret (v := (-1 : Int32)) hx hb hr (fun t ht _ => ⟨⟨_, ((σ, ν, ρ, lo), ad), rfl, ⟨_, _, rfl, Xt.rf, h⟩, WP.at9 ht hW⟩, hS.F ht⟩) hS.2.2 dX6_refers_23 (hlocks := hlocks)
set_option maxHeartbeats 4000000 in
set_option maxRecDepth 100000 in
theorem mtX6_state (l : Launch) (hlt : l.stackTraces = false) (z : Nat) (G : Gl) (ad : Nat → Nat → Nat) (σ : SG) (ν : NU) (ρ : RH) (lo : Int64) (p1 : Int32) (post : Int32 → Prop) (px : String → Prop) (h : wpX6_state σ ν p1 post px) : vx_Met l yX6_state wsX6_state ({ frames := 7, cells := 1, slots := 6, locals := 103 } : Room) (Pcs z G ad (σ, ν, ρ, lo) [.ref (ad 0 0), .int p1]) (Qis z G ad (fun r S1 => S1 = (σ, ν, ρ, lo) ∧ post r)) (XCs z G ad (fun E S1 => S1 = (σ, ν, ρ, lo) ∧ px E)) 1 6 (Az z) := by
  refine vx_ofW (cc := cX6_state) (maxL := 2) (ret := (some .int)) (by decide) rfl ?_
  intro p e s m args below meth c s₁ B hml htb hv
  obtain ⟨rfl, hz, hW, hE⟩ := hv
  have hx := B.exec
  have hb := B.bytes
  have hr := B.returns
  have hts := atoms_spec (ws := wsX6_state) B.pre
  have hown : s.vm.findClass RX6 = some m.cls := findClass_of_methodNamed B.named
  have hlocks := B.notSynchronized
  have X : Cxx p l e s m _ below meth c cX6_state (some .int) 2 RX6 wsX6_state z G := ⟨hx, hb, hr, hml, hown, hts, hlocks, hE, hz, htb, hlt⟩
  have hS : va_S (Az z) s.heap s.heap [] := va_S.rf
  have hl := lv_entry [.ref (ad 0 0), .int p1] (n := 2) (Nat.le_of_ble_eq_true rfl)
  rw [lg_entry_eq]
  generalize (lg_sl [.ref (ad 0 0), .int p1] ++ List.replicate (2 - (lg_sl [.ref (ad 0 0), .int p1]).length) Slot.unset).toArray = ls at hl ⊢
  have hl : lv_has ls 2 [(0, .ref (ad 0 0)), (1, .int p1)] := hl
  unfold wpX6_state at h
  refine lv_aload_n hx hb dX6_state_0 rfl (lv_at hl 0 rfl) ?_
  refine lv_iload_n hx hb dX6_state_1 rfl (lv_at hl 1 rfl) ?_
  refine x_Vr (rest := []) (As := [.int p1]) ⟨hx, hb, hml, hown, hts⟩ hE hz hS hW (mtX6_needInstruction l hlt z G ad σ ν ρ lo p1 _ _ h) (cwV 1 hts gX6_state_X6_needInstruction rfl rfl rfl (by decide +kernel) ⟨Nat.le_of_ble_eq_true rfl, Nat.le_of_ble_eq_true rfl⟩) (r_recv hE hW 0 0 rfl (ci := 9) rfl rfl) rfl hl.1 rfl (Nat.le_of_ble_eq_true rfl) dX6_state_2 ⟨Nat.le_of_ble_eq_true rfl, Nat.le_of_ble_eq_true rfl⟩ hlocks htb (fun E S1 q => q) ⟨Nat.le_of_ble_eq_true rfl, Nat.le_of_ble_eq_true rfl⟩ (fun r1 S1 H locs hp hW hS => ?_)
  obtain ⟨rfl, h⟩ := hp
  refine lv_pop hx hb dX6_state_5 rfl ?_
  refine lv_aload_n hx hb dX6_state_6 rfl (lv_at hl 0 rfl) ?_
  refine r_get (C := RX6) (T := TX6) (N := 8) (ci := 9) (fs := fl_0 ad ν ρ 0 (σ 0 0)) hx hb hts hown hE hW 0 0 rfl rfl rfl (fun w h => List.mem_cons_of_mem _ (List.mem_append_left _ (List.mem_append_left _ (List.mem_append_left _ (List.mem_append_right _ h))))) 1 (by decide) (List.mem_of_getElem? (i := 1) rfl) rfl (v := .ref (ad 1 0)) rfl dX6_state_7 ?_
  refine lv_iload_n hx hb dX6_state_10 rfl (lv_at hl 1 rfl) ?_
  refine k_Vi (rest := []) (As := [.int p1]) ⟨hx, hb, hml, hown, hts⟩ hE hz hS hW (mtX5_stateOf l z G ad σ ν ρ lo 0 p1 _ h) (cwV 1 hts gX6_state_X5_stateOf rfl rfl rfl (by decide +kernel) ⟨Nat.le_of_ble_eq_true rfl, Nat.le_of_ble_eq_true rfl⟩) (r_recv hE hW 1 0 (show 0 < 2 by decide) (ci := 8) rfl rfl) rfl hl.1 rfl (Nat.le_of_ble_eq_true rfl) dX6_state_11 ⟨Nat.le_of_ble_eq_true rfl, Nat.le_of_ble_eq_true rfl⟩ (fun r2 S1 H locs hp hW hS => ?_)
  obtain ⟨rfl, h⟩ := hp
  refine vx_ret ?_
  exact W.iret (v := r2) hx hb hr (fun t ht _ => ⟨⟨_, (σ, ν, ρ, lo), rfl, ⟨rfl, h⟩, WP.at9 ht hW⟩, hS.F ht⟩) hS.2.2 dX6_state_14 (hlocks := hlocks)
set_option maxHeartbeats 4000000 in
set_option maxRecDepth 100000 in
theorem mtX6_commences (l : Launch) (hlt : l.stackTraces = false) (z : Nat) (G : Gl) (ad : Nat → Nat → Nat) (σ : SG) (ν : NU) (ρ : RH) (lo : Int64) (p1 : Int32) (post : Int32 → Prop) (px : String → Prop) (h : wpX6_commences σ ν p1 post px) : vx_Met l yX6_commences wsX6_commences ({ frames := 7, cells := 1, slots := 6, locals := 103 } : Room) (Pcs z G ad (σ, ν, ρ, lo) [.ref (ad 0 0), .int p1]) (Qis z G ad (fun r S1 => S1 = (σ, ν, ρ, lo) ∧ post r)) (XCs z G ad (fun E S1 => S1 = (σ, ν, ρ, lo) ∧ px E)) 1 6 (Az z) := by
  refine vx_ofW (cc := cX6_commences) (maxL := 2) (ret := (some .int)) (by decide) rfl ?_
  intro p e s m args below meth c s₁ B hml htb hv
  obtain ⟨rfl, hz, hW, hE⟩ := hv
  have hx := B.exec
  have hb := B.bytes
  have hr := B.returns
  have hts := atoms_spec (ws := wsX6_commences) B.pre
  have hown : s.vm.findClass RX6 = some m.cls := findClass_of_methodNamed B.named
  have hlocks := B.notSynchronized
  have X : Cxx p l e s m _ below meth c cX6_commences (some .int) 2 RX6 wsX6_commences z G := ⟨hx, hb, hr, hml, hown, hts, hlocks, hE, hz, htb, hlt⟩
  have hS : va_S (Az z) s.heap s.heap [] := va_S.rf
  have hl := lv_entry [.ref (ad 0 0), .int p1] (n := 2) (Nat.le_of_ble_eq_true rfl)
  rw [lg_entry_eq]
  generalize (lg_sl [.ref (ad 0 0), .int p1] ++ List.replicate (2 - (lg_sl [.ref (ad 0 0), .int p1]).length) Slot.unset).toArray = ls at hl ⊢
  have hl : lv_has ls 2 [(0, .ref (ad 0 0)), (1, .int p1)] := hl
  unfold wpX6_commences at h
  refine lv_aload_n hx hb dX6_commences_0 rfl (lv_at hl 0 rfl) ?_
  refine lv_iload_n hx hb dX6_commences_1 rfl (lv_at hl 1 rfl) ?_
  refine x_Vr (rest := []) (As := [.int p1]) ⟨hx, hb, hml, hown, hts⟩ hE hz hS hW (mtX6_needInstruction l hlt z G ad σ ν ρ lo p1 _ _ h) (cwV 1 hts gX6_commences_X6_needInstruction rfl rfl rfl (by decide +kernel) ⟨Nat.le_of_ble_eq_true rfl, Nat.le_of_ble_eq_true rfl⟩) (r_recv hE hW 0 0 rfl (ci := 9) rfl rfl) rfl hl.1 rfl (Nat.le_of_ble_eq_true rfl) dX6_commences_2 ⟨Nat.le_of_ble_eq_true rfl, Nat.le_of_ble_eq_true rfl⟩ hlocks htb (fun E S1 q => q) ⟨Nat.le_of_ble_eq_true rfl, Nat.le_of_ble_eq_true rfl⟩ (fun r1 S1 H locs hp hW hS => ?_)
  obtain ⟨rfl, h⟩ := hp
  refine lv_pop hx hb dX6_commences_5 rfl ?_
  refine lv_aload_n hx hb dX6_commences_6 rfl (lv_at hl 0 rfl) ?_
  refine r_get (C := RX6) (T := TX6) (N := 8) (ci := 9) (fs := fl_0 ad ν ρ 0 (σ 0 0)) hx hb hts hown hE hW 0 0 rfl rfl rfl (fun w h => List.mem_cons_of_mem _ (List.mem_append_left _ (List.mem_append_left _ (List.mem_append_left _ (List.mem_append_right _ h))))) 1 (by decide) (List.mem_of_getElem? (i := 1) rfl) rfl (v := .ref (ad 1 0)) rfl dX6_commences_7 ?_
  refine lv_iload_n hx hb dX6_commences_10 rfl (lv_at hl 1 rfl) ?_
  refine k_Vi (rest := []) (As := [.int p1]) ⟨hx, hb, hml, hown, hts⟩ hE hz hS hW (mtX5_beginningOf l z G ad σ ν ρ lo 0 p1 _ h) (cwV 1 hts gX6_commences_X5_beginningOf rfl rfl rfl (by decide +kernel) ⟨Nat.le_of_ble_eq_true rfl, Nat.le_of_ble_eq_true rfl⟩) (r_recv hE hW 1 0 (show 0 < 2 by decide) (ci := 8) rfl rfl) rfl hl.1 rfl (Nat.le_of_ble_eq_true rfl) dX6_commences_11 ⟨Nat.le_of_ble_eq_true rfl, Nat.le_of_ble_eq_true rfl⟩ (fun r2 S1 H locs hp hW hS => ?_)
  obtain ⟨rfl, h⟩ := hp
  refine vx_ret ?_
  exact W.iret (v := r2) hx hb hr (fun t ht _ => ⟨⟨_, (σ, ν, ρ, lo), rfl, ⟨rfl, h⟩, WP.at9 ht hW⟩, hS.F ht⟩) hS.2.2 dX6_commences_14 (hlocks := hlocks)
set_option maxHeartbeats 4000000 in
set_option maxRecDepth 100000 in
theorem mtX0_mayConflictWith (l : Launch) (z : Nat) (G : Gl) (ad : Nat → Nat → Nat) (σ : SG) (ν : NU) (ρ : RH) (lo : Int64) (o0 : Nat) (o1 : Nat) (post : Int32 → Prop) (h : wpX0_mayConflictWith σ ν o0 o1 post) : Met l yX0_mayConflictWith wsX0_mayConflictWith ({ frames := 1, cells := 0, slots := 0, locals := 21 } : Room) (Pcs z G ad (σ, ν, ρ, lo) [.ref (ad 3 o0), .ref (ad 3 o1)]) (Qis z G ad (fun r S1 => S1 = (σ, ν, ρ, lo) ∧ post r)) 0 0 (Az z) := by
  refine Met.ofW (cc := cX0_mayConflictWith) (maxL := 2) (ret := (some .boolean)) (by decide) rfl ?_
  intro p e s m args below meth c s₁ B hml hv
  obtain ⟨rfl, hz, hW, hE⟩ := hv
  have hx := B.exec
  have hb := B.bytes
  have hr := B.returns
  have hts := atoms_spec (ws := wsX0_mayConflictWith) B.pre
  have hown : s.vm.findClass RX0 = some m.cls := findClass_of_methodNamed B.named
  have hlocks := B.notSynchronized
  have X : Cx p l e s m _ below meth c cX0_mayConflictWith (some .boolean) 2 RX0 wsX0_mayConflictWith z G := ⟨hx, hb, hr, hml, hown, hts, hlocks, hE, hz⟩
  have hS : va_S (Az z) s.heap s.heap [] := va_S.rf
  have hl := lv_entry [.ref (ad 3 o0), .ref (ad 3 o1)] (n := 2) (Nat.le_of_ble_eq_true rfl)
  rw [lg_entry_eq]
  generalize (lg_sl [.ref (ad 3 o0), .ref (ad 3 o1)] ++ List.replicate (2 - (lg_sl [.ref (ad 3 o0), .ref (ad 3 o1)]).length) Slot.unset).toArray = ls at hl ⊢
  have hl : lv_has ls 2 [(0, .ref (ad 3 o0)), (1, .ref (ad 3 o1))] := hl
  unfold wpX0_mayConflictWith at h
  refine lv_aload_n hx hb dX0_mayConflictWith_0 rfl (lv_at hl 0 rfl) ?_
  obtain ⟨g1, h⟩ := h
  refine r_get (C := RX0) (T := TX0) (N := 13) (ci := 3) (fs := fl_3 ad ν ρ o0 (σ 3 o0)) hx hb hts hown hE hW 3 o0 g1 rfl rfl (fun w h => List.mem_cons_of_mem _ (List.mem_append_right _ h)) 1 (by decide) (List.mem_of_getElem? (i := 1) rfl) rfl (v := .int (σ 3 o0 1)) rfl dX0_mayConflictWith_1 ?_
  refine lv_aload_n hx hb dX0_mayConflictWith_4 rfl (lv_at hl 1 rfl) ?_
  obtain ⟨g2, h⟩ := h
  refine r_get (C := RX0) (T := TX0) (N := 13) (ci := 3) (fs := fl_3 ad ν ρ o1 (σ 3 o1)) hx hb hts hown hE hW 3 o1 g2 rfl rfl (fun w h => List.mem_cons_of_mem _ (List.mem_append_right _ h)) 1 (by decide) (List.mem_of_getElem? (i := 1) rfl) rfl (v := .int (σ 3 o1 1)) rfl dX0_mayConflictWith_5 ?_
  refine r_icmp_eq hx hb rfl rfl (tgt := 49) dX0_mayConflictWith_8 (by decide) (fun c3 => ?_) (fun c3 => ?_)
  · have h := ite_t c3 h
    refine lv_iconst (v := (0 : Int32)) hx hb dX0_mayConflictWith_49 (by decide) ?_
    exact W.zret (v := (0 : Int32)) (ty := .boolean) hx hb hr rfl (fun t ht _ => ⟨⟨_, (σ, ν, ρ, lo), rfl, ⟨rfl, h⟩, WP.at9 ht hW⟩, hS.F ht⟩) hS.2.2 dX0_mayConflictWith_50 (hlocks := hlocks)
  · have h := ite_f c3 h
    refine lv_aload_n hx hb dX0_mayConflictWith_11 rfl (lv_at hl 0 rfl) ?_
    refine r_get (C := RX0) (T := TX0) (N := 13) (ci := 3) (fs := fl_3 ad ν ρ o0 (σ 3 o0)) hx hb hts hown hE hW 3 o0 g1 rfl rfl (fun w h => List.mem_cons_of_mem _ (List.mem_append_right _ h)) 3 (by decide) (List.mem_of_getElem? (i := 2) rfl) rfl (v := .int (σ 3 o0 3)) rfl dX0_mayConflictWith_12 ?_
    refine r_if_eq hx hb rfl (tgt := 49) dX0_mayConflictWith_15 (by decide) (fun c4 => ?_) (fun c4 => ?_)
    · have h := ite_t c4 h
      refine lv_iconst (v := (0 : Int32)) hx hb dX0_mayConflictWith_49 (by decide) ?_
      exact W.zret (v := (0 : Int32)) (ty := .boolean) hx hb hr rfl (fun t ht _ => ⟨⟨_, (σ, ν, ρ, lo), rfl, ⟨rfl, h⟩, WP.at9 ht hW⟩, hS.F ht⟩) hS.2.2 dX0_mayConflictWith_50 (hlocks := hlocks)
    · have h := ite_f c4 h
      refine lv_aload_n hx hb dX0_mayConflictWith_18 rfl (lv_at hl 1 rfl) ?_
      refine r_get (C := RX0) (T := TX0) (N := 13) (ci := 3) (fs := fl_3 ad ν ρ o1 (σ 3 o1)) hx hb hts hown hE hW 3 o1 g2 rfl rfl (fun w h => List.mem_cons_of_mem _ (List.mem_append_right _ h)) 3 (by decide) (List.mem_of_getElem? (i := 2) rfl) rfl (v := .int (σ 3 o1 3)) rfl dX0_mayConflictWith_19 ?_
      refine r_if_eq hx hb rfl (tgt := 49) dX0_mayConflictWith_22 (by decide) (fun c5 => ?_) (fun c5 => ?_)
      · have h := ite_t c5 h
        refine lv_iconst (v := (0 : Int32)) hx hb dX0_mayConflictWith_49 (by decide) ?_
        exact W.zret (v := (0 : Int32)) (ty := .boolean) hx hb hr rfl (fun t ht _ => ⟨⟨_, (σ, ν, ρ, lo), rfl, ⟨rfl, h⟩, WP.at9 ht hW⟩, hS.F ht⟩) hS.2.2 dX0_mayConflictWith_50 (hlocks := hlocks)
      · have h := ite_f c5 h
        refine lv_aload_n hx hb dX0_mayConflictWith_25 rfl (lv_at hl 0 rfl) ?_
        refine r_get (C := RX0) (T := TX0) (N := 13) (ci := 3) (fs := fl_3 ad ν ρ o0 (σ 3 o0)) hx hb hts hown hE hW 3 o0 g1 rfl rfl (fun w h => List.mem_cons_of_mem _ (List.mem_append_right _ h)) 3 (by decide) (List.mem_of_getElem? (i := 2) rfl) rfl (v := .int (σ 3 o0 3)) rfl dX0_mayConflictWith_26 ?_
        refine lv_bipush (v := (7 : Int32)) hx hb dX0_mayConflictWith_29 (by decide) ?_
        refine r_icmp_eq hx hb rfl (show (7 : Int32).toInt = 7 by decide) (tgt := 49) dX0_mayConflictWith_31 (by decide) (fun c6 => ?_) (fun c6 => ?_)
        · have h := ite_t c6 h
          refine lv_iconst (v := (0 : Int32)) hx hb dX0_mayConflictWith_49 (by decide) ?_
          exact W.zret (v := (0 : Int32)) (ty := .boolean) hx hb hr rfl (fun t ht _ => ⟨⟨_, (σ, ν, ρ, lo), rfl, ⟨rfl, h⟩, WP.at9 ht hW⟩, hS.F ht⟩) hS.2.2 dX0_mayConflictWith_50 (hlocks := hlocks)
        · have h := ite_f c6 h
          refine lv_aload_n hx hb dX0_mayConflictWith_34 rfl (lv_at hl 1 rfl) ?_
          refine lv_aload_n hx hb dX0_mayConflictWith_35 rfl (lv_at hl 0 rfl) ?_
          refine r_get (C := RX0) (T := TX0) (N := 13) (ci := 3) (fs := fl_3 ad ν ρ o0 (σ 3 o0)) hx hb hts hown hE hW 3 o0 g1 rfl rfl (fun w h => List.mem_cons_of_mem _ (List.mem_append_right _ h)) 4 (by decide) (List.mem_of_getElem? (i := 3) rfl) rfl (v := .int (σ 3 o0 4)) rfl dX0_mayConflictWith_36 ?_
          refine k_Vi (rest := []) (As := [.int (σ 3 o0 4)]) ⟨hx, hb, hml, hown, hts⟩ hE hz hS hW (mtX0_isOf l z G ad σ ν ρ lo o1 (σ 3 o0 4) _ h) (cwV 1 hts gX0_mayConflictWith_X0_isOf rfl rfl rfl (by decide +kernel) ⟨Nat.le_of_ble_eq_true rfl, Nat.le_of_ble_eq_true rfl⟩) (r_recv hE hW 3 o1 g2 (ci := 3) rfl rfl) rfl hl.1 rfl (Nat.le_of_ble_eq_true rfl) dX0_mayConflictWith_39 ⟨Nat.le_of_ble_eq_true rfl, Nat.le_of_ble_eq_true rfl⟩ (fun r7 S1 H locs hp hW hS => ?_)
          obtain ⟨rfl, h⟩ := hp
          refine r_if_eq hx hb rfl (tgt := 49) dX0_mayConflictWith_42 (by decide) (fun c8 => ?_) (fun c8 => ?_)
          · have h := ite_t c8 h
            refine lv_iconst (v := (0 : Int32)) hx hb dX0_mayConflictWith_49 (by decide) ?_
            exact W.zret (v := (0 : Int32)) (ty := .boolean) hx hb hr rfl (fun t ht _ => ⟨⟨_, (σ, ν, ρ, lo), rfl, ⟨rfl, h⟩, WP.at9 ht hW⟩, hS.F ht⟩) hS.2.2 dX0_mayConflictWith_50 (hlocks := hlocks)
          · have h := ite_f c8 h
            refine lv_iconst (v := (1 : Int32)) hx hb dX0_mayConflictWith_45 (by decide) ?_
            refine lv_goto (tgt := 50) hx hb dX0_mayConflictWith_46 (by decide) ?_
            exact W.zret (v := (1 : Int32)) (ty := .boolean) hx hb hr rfl (fun t ht _ => ⟨⟨_, (σ, ν, ρ, lo), rfl, ⟨rfl, h⟩, WP.at9 ht hW⟩, hS.F ht⟩) hS.2.2 dX0_mayConflictWith_50 (hlocks := hlocks)
set_option maxHeartbeats 4000000 in
set_option maxRecDepth 100000 in
theorem mtX5_conflict (l : Launch) (z : Nat) (G : Gl) (ad : Nat → Nat → Nat) (σ : SG) (ν : NU) (ρ : RH) (lo : Int64) (o0 : Nat) (o1 : Nat) (o2 : Nat) (post : Int32 → Prop) (h : wpX5_conflict σ ν o0 o1 o2 post) : Met l yX5_conflict wsX5_conflict ({ frames := 2, cells := 0, slots := 0, locals := 42 } : Room) (Pcs z G ad (σ, ν, ρ, lo) [.ref (ad 1 o0), .ref (ad 3 o1), .ref (ad 3 o2)]) (Qis z G ad (fun r S1 => S1 = (σ, ν, ρ, lo) ∧ post r)) 0 0 (Az z) := by
  refine Met.ofW (cc := cX5_conflict) (maxL := 3) (ret := (some .boolean)) (by decide) rfl ?_
  intro p e s m args below meth c s₁ B hml hv
  obtain ⟨rfl, hz, hW, hE⟩ := hv
  have hx := B.exec
  have hb := B.bytes
  have hr := B.returns
  have hts := atoms_spec (ws := wsX5_conflict) B.pre
  have hown : s.vm.findClass RX5 = some m.cls := findClass_of_methodNamed B.named
  have hlocks := B.notSynchronized
  have X : Cx p l e s m _ below meth c cX5_conflict (some .boolean) 3 RX5 wsX5_conflict z G := ⟨hx, hb, hr, hml, hown, hts, hlocks, hE, hz⟩
  have hS : va_S (Az z) s.heap s.heap [] := va_S.rf
  have hl := lv_entry [.ref (ad 1 o0), .ref (ad 3 o1), .ref (ad 3 o2)] (n := 3) (Nat.le_of_ble_eq_true rfl)
  rw [lg_entry_eq]
  generalize (lg_sl [.ref (ad 1 o0), .ref (ad 3 o1), .ref (ad 3 o2)] ++ List.replicate (3 - (lg_sl [.ref (ad 1 o0), .ref (ad 3 o1), .ref (ad 3 o2)]).length) Slot.unset).toArray = ls at hl ⊢
  have hl : lv_has ls 3 [(0, .ref (ad 1 o0)), (1, .ref (ad 3 o1)), (2, .ref (ad 3 o2))] := hl
  unfold wpX5_conflict at h
  refine lv_aload_n hx hb dX5_conflict_0 rfl (lv_at hl 1 rfl) ?_
  refine lv_aload_n hx hb dX5_conflict_1 rfl (lv_at hl 2 rfl) ?_
  obtain ⟨g1, h⟩ := h
  refine k_Vi (rest := []) (As := [.ref (ad 3 o2)]) ⟨hx, hb, hml, hown, hts⟩ hE hz hS hW (mtX0_mayConflictWith l z G ad σ ν ρ lo o1 o2 _ h) (cwV 1 hts gX5_conflict_X0_mayConflictWith rfl rfl rfl (by decide +kernel) ⟨Nat.le_of_ble_eq_true rfl, Nat.le_of_ble_eq_true rfl⟩) (r_recv hE hW 3 o1 g1 (ci := 3) rfl rfl) rfl hl.1 rfl (Nat.le_of_ble_eq_true rfl) dX5_conflict_2 ⟨Nat.le_of_ble_eq_true rfl, Nat.le_of_ble_eq_true rfl⟩ (fun r2 S1 H locs hp hW hS => ?_)
  obtain ⟨rfl, h⟩ := hp
  refine r_if_eq hx hb rfl (tgt := 55) dX5_conflict_5 (by decide) (fun c3 => ?_) (fun c3 => ?_)
  · have h := ite_t c3 h
    refine lv_iconst (v := (0 : Int32)) hx hb dX5_conflict_55 (by decide) ?_
    exact W.zret (v := (0 : Int32)) (ty := .boolean) hx hb hr rfl (fun t ht _ => ⟨⟨_, (σ, ν, ρ, lo), rfl, ⟨rfl, h⟩, WP.at9 ht hW⟩, hS.F ht⟩) hS.2.2 dX5_conflict_56 (hlocks := hlocks)
  · have h := ite_f c3 h
    refine lv_aload_n hx hb dX5_conflict_8 rfl (lv_at hl 0 rfl) ?_
    refine lv_aload_n hx hb dX5_conflict_9 rfl (lv_at hl 1 rfl) ?_
    refine r_get (C := RX0) (T := TX0) (N := 13) (ci := 3) (fs := fl_3 ad ν ρ o1 (σ 3 o1)) hx hb hts hown hE hW 3 o1 g1 rfl rfl (fun w h => List.mem_cons_of_mem _ (List.mem_append_left _ (List.mem_append_right _ h))) 0 (by decide) (List.mem_of_getElem? (i := 1) rfl) rfl (v := .int (σ 3 o1 0)) rfl dX5_conflict_10 ?_
    obtain ⟨g4, h⟩ := h
    refine k_Vi (rest := []) (As := [.int (σ 3 o1 0)]) ⟨hx, hb, hml, hown, hts⟩ hE hz hS hW (mtX5_stateOf l z G ad σ ν ρ lo o0 (σ 3 o1 0) _ h) (cwV 1 hts gX5_conflict_X5_stateOf rfl rfl rfl (by decide +kernel) ⟨Nat.le_of_ble_eq_true rfl, Nat.le_of_ble_eq_true rfl⟩) (r_recv hE hW 1 o0 g4 (ci := 8) rfl rfl) rfl hl.1 rfl (Nat.le_of_ble_eq_true rfl) dX5_conflict_13 ⟨Nat.le_of_ble_eq_true rfl, Nat.le_of_ble_eq_true rfl⟩ (fun r5 S1 H locs hp hW hS => ?_)
    obtain ⟨rfl, h⟩ := hp
    refine lv_iconst (v := (1 : Int32)) hx hb dX5_conflict_16 (by decide) ?_
    refine r_icmp_ne hx hb rfl (show (1 : Int32).toInt = 1 by decide) (tgt := 55) dX5_conflict_17 (by decide) (fun c6 => ?_) (fun c6 => ?_)
    · have h := ite_f c6 h
      refine lv_iconst (v := (0 : Int32)) hx hb dX5_conflict_55 (by decide) ?_
      exact W.zret (v := (0 : Int32)) (ty := .boolean) hx hb hr rfl (fun t ht _ => ⟨⟨_, (σ, ν, ρ, lo), rfl, ⟨rfl, h⟩, WP.at9 ht hW⟩, hS.F ht⟩) hS.2.2 dX5_conflict_56 (hlocks := hlocks)
    · have h := ite_t c6 h
      refine lv_aload_n hx hb dX5_conflict_20 rfl (lv_at hl 0 rfl) ?_
      refine lv_aload_n hx hb dX5_conflict_21 rfl (lv_at hl 2 rfl) ?_
      obtain ⟨g7, h⟩ := h
      refine r_get (C := RX0) (T := TX0) (N := 13) (ci := 3) (fs := fl_3 ad ν ρ o2 (σ 3 o2)) hx hb hts hown hE hW 3 o2 g7 rfl rfl (fun w h => List.mem_cons_of_mem _ (List.mem_append_left _ (List.mem_append_right _ h))) 0 (by decide) (List.mem_of_getElem? (i := 1) rfl) rfl (v := .int (σ 3 o2 0)) rfl dX5_conflict_22 ?_
      refine k_Vi (rest := []) (As := [.int (σ 3 o2 0)]) ⟨hx, hb, hml, hown, hts⟩ hE hz hS hW (mtX5_stateOf l z G ad σ ν ρ lo o0 (σ 3 o2 0) _ h) (cwV 1 hts gX5_conflict_X5_stateOf rfl rfl rfl (by decide +kernel) ⟨Nat.le_of_ble_eq_true rfl, Nat.le_of_ble_eq_true rfl⟩) (r_recv hE hW 1 o0 g4 (ci := 8) rfl rfl) rfl hl.1 rfl (Nat.le_of_ble_eq_true rfl) dX5_conflict_25 ⟨Nat.le_of_ble_eq_true rfl, Nat.le_of_ble_eq_true rfl⟩ (fun r8 S1 H locs hp hW hS => ?_)
      obtain ⟨rfl, h⟩ := hp
      refine lv_iconst (v := (1 : Int32)) hx hb dX5_conflict_28 (by decide) ?_
      refine r_icmp_ne hx hb rfl (show (1 : Int32).toInt = 1 by decide) (tgt := 55) dX5_conflict_29 (by decide) (fun c9 => ?_) (fun c9 => ?_)
      · have h := ite_f c9 h
        refine lv_iconst (v := (0 : Int32)) hx hb dX5_conflict_55 (by decide) ?_
        exact W.zret (v := (0 : Int32)) (ty := .boolean) hx hb hr rfl (fun t ht _ => ⟨⟨_, (σ, ν, ρ, lo), rfl, ⟨rfl, h⟩, WP.at9 ht hW⟩, hS.F ht⟩) hS.2.2 dX5_conflict_56 (hlocks := hlocks)
      · have h := ite_t c9 h
        refine lv_aload_n hx hb dX5_conflict_32 rfl (lv_at hl 0 rfl) ?_
        refine lv_aload_n hx hb dX5_conflict_33 rfl (lv_at hl 1 rfl) ?_
        refine r_get (C := RX0) (T := TX0) (N := 13) (ci := 3) (fs := fl_3 ad ν ρ o1 (σ 3 o1)) hx hb hts hown hE hW 3 o1 g1 rfl rfl (fun w h => List.mem_cons_of_mem _ (List.mem_append_left _ (List.mem_append_right _ h))) 0 (by decide) (List.mem_of_getElem? (i := 1) rfl) rfl (v := .int (σ 3 o1 0)) rfl dX5_conflict_34 ?_
        refine k_Vi (rest := []) (As := [.int (σ 3 o1 0)]) ⟨hx, hb, hml, hown, hts⟩ hE hz hS hW (mtX5_beginningOf l z G ad σ ν ρ lo o0 (σ 3 o1 0) _ h) (cwV 1 hts gX5_conflict_X5_beginningOf rfl rfl rfl (by decide +kernel) ⟨Nat.le_of_ble_eq_true rfl, Nat.le_of_ble_eq_true rfl⟩) (r_recv hE hW 1 o0 g4 (ci := 8) rfl rfl) rfl hl.1 rfl (Nat.le_of_ble_eq_true rfl) dX5_conflict_37 ⟨Nat.le_of_ble_eq_true rfl, Nat.le_of_ble_eq_true rfl⟩ (fun r10 S1 H locs hp hW hS => ?_)
        obtain ⟨rfl, h⟩ := hp
        refine lv_aload_n hx hb dX5_conflict_40 rfl (lv_at hl 0 rfl) ?_
        refine lv_aload_n hx hb dX5_conflict_41 rfl (lv_at hl 2 rfl) ?_
        refine r_get (C := RX0) (T := TX0) (N := 13) (ci := 3) (fs := fl_3 ad ν ρ o2 (σ 3 o2)) hx hb hts hown hE hW 3 o2 g7 rfl rfl (fun w h => List.mem_cons_of_mem _ (List.mem_append_left _ (List.mem_append_right _ h))) 0 (by decide) (List.mem_of_getElem? (i := 1) rfl) rfl (v := .int (σ 3 o2 0)) rfl dX5_conflict_42 ?_
        refine k_Vi (rest := [.int r10]) (As := [.int (σ 3 o2 0)]) ⟨hx, hb, hml, hown, hts⟩ hE hz hS hW (mtX5_beginningOf l z G ad σ ν ρ lo o0 (σ 3 o2 0) _ h) (cwV 1 hts gX5_conflict_X5_beginningOf rfl rfl rfl (by decide +kernel) ⟨Nat.le_of_ble_eq_true rfl, Nat.le_of_ble_eq_true rfl⟩) (r_recv hE hW 1 o0 g4 (ci := 8) rfl rfl) rfl hl.1 rfl (Nat.le_of_ble_eq_true rfl) dX5_conflict_45 ⟨Nat.le_of_ble_eq_true rfl, Nat.le_of_ble_eq_true rfl⟩ (fun r11 S1 H locs hp hW hS => ?_)
        obtain ⟨rfl, h⟩ := hp
        refine r_icmp_ne hx hb rfl rfl (tgt := 55) dX5_conflict_48 (by decide) (fun c12 => ?_) (fun c12 => ?_)
        · have h := ite_f c12 h
          refine lv_iconst (v := (0 : Int32)) hx hb dX5_conflict_55 (by decide) ?_
          exact W.zret (v := (0 : Int32)) (ty := .boolean) hx hb hr rfl (fun t ht _ => ⟨⟨_, (σ, ν, ρ, lo), rfl, ⟨rfl, h⟩, WP.at9 ht hW⟩, hS.F ht⟩) hS.2.2 dX5_conflict_56 (hlocks := hlocks)
        · have h := ite_t c12 h
          refine lv_iconst (v := (1 : Int32)) hx hb dX5_conflict_51 (by decide) ?_
          refine lv_goto (tgt := 56) hx hb dX5_conflict_52 (by decide) ?_
          exact W.zret (v := (1 : Int32)) (ty := .boolean) hx hb hr rfl (fun t ht _ => ⟨⟨_, (σ, ν, ρ, lo), rfl, ⟨rfl, h⟩, WP.at9 ht hW⟩, hS.F ht⟩) hS.2.2 dX5_conflict_56 (hlocks := hlocks)
set_option maxHeartbeats 4000000 in
set_option maxRecDepth 100000 in
theorem tX5_countConflicts_17 {p : Program} {l : Launch} {e : Env} {s : State} {m : MethodId} {args : Array Value} {below : List Frame} {meth : Method} {c : Code} {z : Nat} {G : Gl} {ad : Nat → Nat → Nat} {σ : SG} {ν : NU} {ρ : RH} {lo : Int64} (X : Cx p l e s m args below meth c cX5_countConflicts (some .int) 4 RX5 wsX5_countConflicts z G) (o0 : Nat) (κ4 : SG → NU → Int32 → Int32 → Prop) (post : Int32 → Prop) (hk4 : ∀ (x1 : Int32) (x2 : Int32) {H : Heap} {locs : List Loc} {ls : Array Slot}, WP z G ad (σ, ν, ρ, lo) H → va_S (Az z) s.heap H locs → lv_has ls 4 [(0, .ref (ad 1 o0)), (1, .int x1), (2, .int x2)] → κ4 σ ν x1 x2 → W p l e ({ frames := 3, cells := 0, slots := 0, locals := 64 } : Room) s m args below meth c H locs 0 0 (MQ below (Qis z G ad (fun r S1 => S1 = (σ, ν, ρ, lo) ∧ post r)) args s 0 0 (Az z)) (F0 m 4 ls [])) : ∀ (n : Nat) (x1 : Int32) (x2 : Int32) (x3 : Int32) {H : Heap} {locs : List Loc} {ls : Array Slot}, WP z G ad (σ, ν, ρ, lo) H → va_S (Az z) s.heap H locs → lv_has ls 4 [(0, .ref (ad 1 o0)), (1, .int x1), (2, .int x2), (3, .int x3)] → wX5_countConflicts_17 o0 κ4 post n σ ν x1 x2 x3 → W p l e ({ frames := 3, cells := 0, slots := 0, locals := 64 } : Room) s m args below meth c H locs 0 0 (MQ below (Qis z G ad (fun r S1 => S1 = (σ, ν, ρ, lo) ∧ post r)) args s 0 0 (Az z)) (F0 m 17 ls []) := by
  obtain ⟨hx, hb, hr, hml, hown, hts, hlocks, hE, hz⟩ := id X
  intro n
  induction n with
  | zero =>
    intro x1 x2 x3 H locs ls hW hS hl h
    exact absurd h id
  | succ n ih =>
    intro x1 x2 x3 H locs ls hW hS hl h
    unfold wX5_countConflicts_17 at h
    refine lv_iload_n hx hb dX5_countConflicts_17 rfl (lv_at hl 3 rfl) ?_
    refine lv_iload_n hx hb dX5_countConflicts_18 rfl (lv_at hl 2 rfl) ?_
    refine r_icmp_ge hx hb rfl rfl (tgt := 60) dX5_countConflicts_19 (by decide) (fun c4 => ?_) (fun c4 => ?_)
    · have h := ite_f c4 h
      refine lv_iinc (v := x2 + (1 : Int32)) (lv' := [(2, .int (x2 + (1 : Int32))), (0, .ref (ad 1 o0)), (1, .int x1), (3, .int x3)]) hx hb dX5_countConflicts_60 hl (k := 2) rfl rfl (by decide) rfl (fun ls hl => ?_)
      refine lv_goto (tgt := 4) hx hb dX5_countConflicts_63 (by decide) ?_
      exact hk4 x1 (x2 + (1 : Int32)) hW hS (lv_sub hl [1, 2, 0] rfl) h
    · have h := ite_t c4 h
      refine lv_aload_n hx hb dX5_countConflicts_22 rfl (lv_at hl 0 rfl) ?_
      refine lv_aload_n hx hb dX5_countConflicts_23 rfl (lv_at hl 0 rfl) ?_
      obtain ⟨g5, h⟩ := h
      refine r_get (C := RX5) (T := TX5) (N := 13) (ci := 8) (fs := fl_1 ad ν ρ o0 (σ 1 o0)) hx hb hts hown hE hW 1 o0 g5 rfl rfl (fun w h => List.mem_cons_of_mem _ (List.mem_append_left _ (List.mem_append_left _ (List.mem_append_right _ h)))) 0 (by decide) (List.mem_of_getElem? (i := 1) rfl) rfl (v := .ref (ad 7 (1 + o0))) rfl dX5_countConflicts_24 ?_
      refine lv_iload_n hx hb dX5_countConflicts_27 rfl (lv_at hl 2 rfl) ?_
      refine k_Vr (rest := [.ref (ad 1 o0)]) (As := [.int x2]) ⟨hx, hb, hml, hown, hts⟩ hE hz hS hW (mtJx4a65c_get_915e3 l z G ad σ ν ρ lo (1 + o0) x2 _ h) (cwV 1 hts gX5_countConflicts_Jx4a65c_get_915e3 rfl rfl rfl (by decide +kernel) ⟨Nat.le_of_ble_eq_true rfl, Nat.le_of_ble_eq_true rfl⟩) (r_recv hE hW 7 (1 + o0) (show 1 + o0 < 3 by omega) (ci := 2) rfl rfl) rfl hl.1 rfl (Nat.le_of_ble_eq_true rfl) dX5_countConflicts_28 ⟨Nat.le_of_ble_eq_true rfl, Nat.le_of_ble_eq_true rfl⟩ (fun r6 S1 H locs hp hW hS => ?_)
      obtain ⟨rfl, h⟩ := hp
      obtain ⟨g7, h⟩ := h
      refine r_cast hx hb hts hown hE hW r6 g7 (List.mem_of_getElem? (i := 2) rfl) dX5_countConflicts_31 ?_
      refine lv_aload_n hx hb dX5_countConflicts_34 rfl (lv_at hl 0 rfl) ?_
      refine r_get (C := RX5) (T := TX5) (N := 13) (ci := 8) (fs := fl_1 ad ν ρ o0 (σ 1 o0)) hx hb hts hown hE hW 1 o0 g5 rfl rfl (fun w h => List.mem_cons_of_mem _ (List.mem_append_left _ (List.mem_append_left _ (List.mem_append_right _ h)))) 0 (by decide) (List.mem_of_getElem? (i := 1) rfl) rfl (v := .ref (ad 7 (1 + o0))) rfl dX5_countConflicts_35 ?_
      refine lv_iload_n hx hb dX5_countConflicts_38 rfl (lv_at hl 3 rfl) ?_
      refine k_Vr (rest := [.ref (ad 3 r6), .ref (ad 1 o0)]) (As := [.int x3]) ⟨hx, hb, hml, hown, hts⟩ hE hz hS hW (mtJx4a65c_get_915e3 l z G ad σ ν ρ lo (1 + o0) x3 _ h) (cwV 1 hts gX5_countConflicts_Jx4a65c_get_915e3 rfl rfl rfl (by decide +kernel) ⟨Nat.le_of_ble_eq_true rfl, Nat.le_of_ble_eq_true rfl⟩) (r_recv hE hW 7 (1 + o0) (show 1 + o0 < 3 by omega) (ci := 2) rfl rfl) rfl hl.1 rfl (Nat.le_of_ble_eq_true rfl) dX5_countConflicts_39 ⟨Nat.le_of_ble_eq_true rfl, Nat.le_of_ble_eq_true rfl⟩ (fun r8 S1 H locs hp hW hS => ?_)
      obtain ⟨rfl, h⟩ := hp
      obtain ⟨g9, h⟩ := h
      refine r_cast hx hb hts hown hE hW r8 g9 (List.mem_of_getElem? (i := 2) rfl) dX5_countConflicts_42 ?_
      refine k_Vi (rest := []) (As := [.ref (ad 3 r6), .ref (ad 3 r8)]) ⟨hx, hb, hml, hown, hts⟩ hE hz hS hW (mtX5_conflict l z G ad σ ν ρ lo o0 r6 r8 _ h) (cwV 2 hts gX5_countConflicts_X5_conflict rfl rfl rfl (by decide +kernel) ⟨Nat.le_of_ble_eq_true rfl, Nat.le_of_ble_eq_true rfl⟩) (r_recv hE hW 1 o0 g5 (ci := 8) rfl rfl) rfl hl.1 rfl (Nat.le_of_ble_eq_true rfl) dX5_countConflicts_45 ⟨Nat.le_of_ble_eq_true rfl, Nat.le_of_ble_eq_true rfl⟩ (fun r10 S1 H locs hp hW hS => ?_)
      obtain ⟨rfl, h⟩ := hp
      refine r_if_eq hx hb rfl (tgt := 54) dX5_countConflicts_48 (by decide) (fun c11 => ?_) (fun c11 => ?_)
      · have h := ite_t c11 h
        refine lv_iinc (v := x3 + (1 : Int32)) (lv' := [(3, .int (x3 + (1 : Int32))), (0, .ref (ad 1 o0)), (1, .int x1), (2, .int x2)]) hx hb dX5_countConflicts_54 hl (k := 3) rfl rfl (by decide) rfl (fun ls hl => ?_)
        refine lv_goto (tgt := 17) hx hb dX5_countConflicts_57 (by decide) ?_
        exact ih x1 x2 (x3 + (1 : Int32)) hW hS (lv_sub hl [1, 2, 3, 0] rfl) h
      · have h := ite_f c11 h
        refine lv_iinc (v := x1 + (1 : Int32)) (lv' := [(1, .int (x1 + (1 : Int32))), (0, .ref (ad 1 o0)), (2, .int x2), (3, .int x3)]) hx hb dX5_countConflicts_51 hl (k := 1) rfl rfl (by decide) rfl (fun ls hl => ?_)
        refine lv_iinc (v := x3 + (1 : Int32)) (lv' := [(3, .int (x3 + (1 : Int32))), (1, .int (x1 + (1 : Int32))), (0, .ref (ad 1 o0)), (2, .int x2)]) hx hb dX5_countConflicts_54 hl (k := 3) rfl rfl (by decide) rfl (fun ls hl => ?_)
        refine lv_goto (tgt := 17) hx hb dX5_countConflicts_57 (by decide) ?_
        exact ih (x1 + (1 : Int32)) x2 (x3 + (1 : Int32)) hW hS (lv_sub hl [2, 1, 3, 0] rfl) h
set_option maxHeartbeats 4000000 in
set_option maxRecDepth 100000 in
theorem tX5_countConflicts_4 {p : Program} {l : Launch} {e : Env} {s : State} {m : MethodId} {args : Array Value} {below : List Frame} {meth : Method} {c : Code} {z : Nat} {G : Gl} {ad : Nat → Nat → Nat} {σ : SG} {ν : NU} {ρ : RH} {lo : Int64} (X : Cx p l e s m args below meth c cX5_countConflicts (some .int) 4 RX5 wsX5_countConflicts z G) (o0 : Nat)  (post : Int32 → Prop) : ∀ (n : Nat) (x1 : Int32) (x2 : Int32) {H : Heap} {locs : List Loc} {ls : Array Slot}, WP z G ad (σ, ν, ρ, lo) H → va_S (Az z) s.heap H locs → lv_has ls 4 [(0, .ref (ad 1 o0)), (1, .int x1), (2, .int x2)] → wX5_countConflicts_4 o0 post n σ ν x1 x2 → W p l e ({ frames := 3, cells := 0, slots := 0, locals := 64 } : Room) s m args below meth c H locs 0 0 (MQ below (Qis z G ad (fun r S1 => S1 = (σ, ν, ρ, lo) ∧ post r)) args s 0 0 (Az z)) (F0 m 4 ls []) := by
  obtain ⟨hx, hb, hr, hml, hown, hts, hlocks, hE, hz⟩ := id X
  intro n
  induction n with
  | zero =>
    intro x1 x2 H locs ls hW hS hl h
    exact absurd h id
  | succ n ih =>
    intro x1 x2 H locs ls hW hS hl h
    unfold wX5_countConflicts_4 at h
    refine lv_iload_n hx hb dX5_countConflicts_4 rfl (lv_at hl 2 rfl) ?_
    refine lv_aload_n hx hb dX5_countConflicts_5 rfl (lv_at hl 0 rfl) ?_
    obtain ⟨g1, h⟩ := h
    refine r_get (C := RX5) (T := TX5) (N := 13) (ci := 8) (fs := fl_1 ad ν ρ o0 (σ 1 o0)) hx hb hts hown hE hW 1 o0 g1 rfl rfl (fun w h => List.mem_cons_of_mem _ (List.mem_append_left _ (List.mem_append_left _ (List.mem_append_right _ h)))) 0 (by decide) (List.mem_of_getElem? (i := 1) rfl) rfl (v := .ref (ad 7 (1 + o0))) rfl dX5_countConflicts_6 ?_
    refine k_Vi (rest := [.int x2]) (As := []) ⟨hx, hb, hml, hown, hts⟩ hE hz hS hW (mtJx4a65c_size_8abf5 l z G ad σ ν ρ lo (1 + o0) _ h) (cwV 0 hts gX5_countConflicts_Jx4a65c_size_8abf5 rfl rfl rfl (by decide +kernel) ⟨Nat.le_of_ble_eq_true rfl, Nat.le_of_ble_eq_true rfl⟩) (r_recv hE hW 7 (1 + o0) (show 1 + o0 < 3 by omega) (ci := 2) rfl rfl) rfl hl.1 rfl (Nat.le_of_ble_eq_true rfl) dX5_countConflicts_9 ⟨Nat.le_of_ble_eq_true rfl, Nat.le_of_ble_eq_true rfl⟩ (fun r2 S1 H locs hp hW hS => ?_)
    obtain ⟨rfl, h⟩ := hp
    refine r_icmp_ge hx hb rfl rfl (tgt := 66) dX5_countConflicts_12 (by decide) (fun c3 => ?_) (fun c3 => ?_)
    · have h := ite_f c3 h
      refine lv_iload_n hx hb dX5_countConflicts_66 rfl (lv_at hl 1 rfl) ?_
      exact W.iret (v := x1) hx hb hr (fun t ht _ => ⟨⟨_, (σ, ν, ρ, lo), rfl, ⟨rfl, h⟩, WP.at9 ht hW⟩, hS.F ht⟩) hS.2.2 dX5_countConflicts_67 (hlocks := hlocks)
    · have h := ite_t c3 h
      refine lv_iconst (v := (0 : Int32)) hx hb dX5_countConflicts_15 (by decide) ?_
      refine lv_istore_n (lv' := [(3, .int ((0 : Int32))), (0, .ref (ad 1 o0)), (1, .int x1), (2, .int x2)]) hx hb dX5_countConflicts_16 rfl hl (by decide) rfl (fun ls hl => ?_)
      obtain ⟨n12, h⟩ := h
      exact tX5_countConflicts_17 (σ := σ) (ρ := ρ) X o0 (wX5_countConflicts_4 o0 post n) post ih n12 x1 x2 ((0 : Int32)) hW hS (lv_sub hl [1, 2, 3, 0] rfl) h
set_option maxHeartbeats 4000000 in
set_option maxRecDepth 100000 in
theorem mtX5_countConflicts (l : Launch) (z : Nat) (G : Gl) (ad : Nat → Nat → Nat) (σ : SG) (ν : NU) (ρ : RH) (lo : Int64) (o0 : Nat) (post : Int32 → Prop) (h : wpX5_countConflicts σ ν o0 post) : Met l yX5_countConflicts wsX5_countConflicts ({ frames := 3, cells := 0, slots := 0, locals := 64 } : Room) (Pcs z G ad (σ, ν, ρ, lo) [.ref (ad 1 o0)]) (Qis z G ad (fun r S1 => S1 = (σ, ν, ρ, lo) ∧ post r)) 0 0 (Az z) := by
  refine Met.ofW (cc := cX5_countConflicts) (maxL := 4) (ret := (some .int)) (by decide) rfl ?_
  intro p e s m args below meth c s₁ B hml hv
  obtain ⟨rfl, hz, hW, hE⟩ := hv
  have hx := B.exec
  have hb := B.bytes
  have hr := B.returns
  have hts := atoms_spec (ws := wsX5_countConflicts) B.pre
  have hown : s.vm.findClass RX5 = some m.cls := findClass_of_methodNamed B.named
  have hlocks := B.notSynchronized
  have X : Cx p l e s m _ below meth c cX5_countConflicts (some .int) 4 RX5 wsX5_countConflicts z G := ⟨hx, hb, hr, hml, hown, hts, hlocks, hE, hz⟩
  have hS : va_S (Az z) s.heap s.heap [] := va_S.rf
  have hl := lv_entry [.ref (ad 1 o0)] (n := 4) (Nat.le_of_ble_eq_true rfl)
  rw [lg_entry_eq]
  generalize (lg_sl [.ref (ad 1 o0)] ++ List.replicate (4 - (lg_sl [.ref (ad 1 o0)]).length) Slot.unset).toArray = ls at hl ⊢
  have hl : lv_has ls 4 [(0, .ref (ad 1 o0))] := hl
  unfold wpX5_countConflicts at h
  refine lv_iconst (v := (0 : Int32)) hx hb dX5_countConflicts_0 (by decide) ?_
  refine lv_istore_n (lv' := [(1, .int ((0 : Int32))), (0, .ref (ad 1 o0))]) hx hb dX5_countConflicts_1 rfl hl (by decide) rfl (fun ls hl => ?_)
  refine lv_iconst (v := (0 : Int32)) hx hb dX5_countConflicts_2 (by decide) ?_
  refine lv_istore_n (lv' := [(2, .int ((0 : Int32))), (1, .int ((0 : Int32))), (0, .ref (ad 1 o0))]) hx hb dX5_countConflicts_3 rfl hl (by decide) rfl (fun ls hl => ?_)
  obtain ⟨n13, h⟩ := h
  exact tX5_countConflicts_4 (σ := σ) (ρ := ρ) X o0 post  n13 ((0 : Int32)) ((0 : Int32)) hW hS (lv_sub hl [2, 1, 0] rfl) h
set_option maxHeartbeats 4000000 in
set_option maxRecDepth 100000 in
theorem mtX6_conflicts (l : Launch) (z : Nat) (G : Gl) (ad : Nat → Nat → Nat) (σ : SG) (ν : NU) (ρ : RH) (lo : Int64)  (post : Int32 → Prop) (h : wpX6_conflicts σ ν  post) : Met l yX6_conflicts wsX6_conflicts ({ frames := 4, cells := 0, slots := 0, locals := 87 } : Room) (Pcs z G ad (σ, ν, ρ, lo) [.ref (ad 0 0)]) (Qis z G ad (fun r S1 => S1 = (σ, ν, ρ, lo) ∧ post r)) 0 0 (Az z) := by
  refine Met.ofW (cc := cX6_conflicts) (maxL := 1) (ret := (some .int)) (by decide) rfl ?_
  intro p e s m args below meth c s₁ B hml hv
  obtain ⟨rfl, hz, hW, hE⟩ := hv
  have hx := B.exec
  have hb := B.bytes
  have hr := B.returns
  have hts := atoms_spec (ws := wsX6_conflicts) B.pre
  have hown : s.vm.findClass RX6 = some m.cls := findClass_of_methodNamed B.named
  have hlocks := B.notSynchronized
  have X : Cx p l e s m _ below meth c cX6_conflicts (some .int) 1 RX6 wsX6_conflicts z G := ⟨hx, hb, hr, hml, hown, hts, hlocks, hE, hz⟩
  have hS : va_S (Az z) s.heap s.heap [] := va_S.rf
  have hl := lv_entry [.ref (ad 0 0)] (n := 1) (Nat.le_of_ble_eq_true rfl)
  rw [lg_entry_eq]
  generalize (lg_sl [.ref (ad 0 0)] ++ List.replicate (1 - (lg_sl [.ref (ad 0 0)]).length) Slot.unset).toArray = ls at hl ⊢
  have hl : lv_has ls 1 [(0, .ref (ad 0 0))] := hl
  unfold wpX6_conflicts at h
  refine lv_aload_n hx hb dX6_conflicts_0 rfl (lv_at hl 0 rfl) ?_
  refine r_get (C := RX6) (T := TX6) (N := 8) (ci := 9) (fs := fl_0 ad ν ρ 0 (σ 0 0)) hx hb hts hown hE hW 0 0 rfl rfl rfl (fun w h => List.mem_cons_of_mem _ (List.mem_append_left _ (List.mem_append_left _ (List.mem_append_left _ (List.mem_append_right _ h))))) 1 (by decide) (List.mem_of_getElem? (i := 1) rfl) rfl (v := .ref (ad 1 0)) rfl dX6_conflicts_1 ?_
  refine k_Vi (rest := []) (As := []) ⟨hx, hb, hml, hown, hts⟩ hE hz hS hW (mtX5_countConflicts l z G ad σ ν ρ lo 0 _ h) (cwV 0 hts gX6_conflicts_X5_countConflicts rfl rfl rfl (by decide +kernel) ⟨Nat.le_of_ble_eq_true rfl, Nat.le_of_ble_eq_true rfl⟩) (r_recv hE hW 1 0 (show 0 < 2 by decide) (ci := 8) rfl rfl) rfl hl.1 rfl (Nat.le_of_ble_eq_true rfl) dX6_conflicts_4 ⟨Nat.le_of_ble_eq_true rfl, Nat.le_of_ble_eq_true rfl⟩ (fun r1 S1 H locs hp hW hS => ?_)
  obtain ⟨rfl, h⟩ := hp
  exact W.iret (v := r1) hx hb hr (fun t ht _ => ⟨⟨_, (σ, ν, ρ, lo), rfl, ⟨rfl, h⟩, WP.at9 ht hW⟩, hS.F ht⟩) hS.2.2 dX6_conflicts_7 (hlocks := hlocks)
set_option maxHeartbeats 4000000 in
set_option maxRecDepth 100000 in
theorem tX5_fold_76 {p : Program} {l : Launch} {e : Env} {s : State} {m : MethodId} {args : Array Value} {below : List Frame} {meth : Method} {c : Code} {z : Nat} {G : Gl} {ad : Nat → Nat → Nat} {σ : SG} {ν : NU} {ρ : RH} {lo : Int64} (X : Cx p l e s m args below meth c cX5_fold (some .long) 7 RX5 wsX5_fold z G) (o0 : Nat) (κ6 : SG → NU → Int64 → Int32 → Prop) (post : Int64 → Prop) (hk6 : ∀ (x1 : Int64) (x3 : Int32) {H : Heap} {locs : List Loc} {ls : Array Slot}, WP z G ad (σ, ν, ρ, lo) H → va_S (Az z) s.heap H locs → lv_has ls 7 [(0, .ref (ad 1 o0)), (1, .long x1), (3, .int x3)] → κ6 σ ν x1 x3 → W p l e ({ frames := 3, cells := 0, slots := 0, locals := 64 } : Room) s m args below meth c H locs 0 0 (MQ below (Qls z G ad (fun r S1 => S1 = (σ, ν, ρ, lo) ∧ post r)) args s 0 0 (Az z)) (F0 m 6 ls [])) : ∀ (n : Nat) (x1 : Int64) (x3 : Int32) (x4 : Int32) (x5 : Int32) (x6 : Int32) {H : Heap} {locs : List Loc} {ls : Array Slot}, WP z G ad (σ, ν, ρ, lo) H → va_S (Az z) s.heap H locs → lv_has ls 7 [(0, .ref (ad 1 o0)), (1, .long x1), (3, .int x3), (4, .int x4), (5, .int x5), (6, .int x6)] → wX5_fold_76 o0 κ6 post n σ ν x1 x3 x4 x5 x6 → W p l e ({ frames := 3, cells := 0, slots := 0, locals := 64 } : Room) s m args below meth c H locs 0 0 (MQ below (Qls z G ad (fun r S1 => S1 = (σ, ν, ρ, lo) ∧ post r)) args s 0 0 (Az z)) (F0 m 76 ls []) := by
  obtain ⟨hx, hb, hr, hml, hown, hts, hlocks, hE, hz⟩ := id X
  intro n
  induction n with
  | zero =>
    intro x1 x3 x4 x5 x6 H locs ls hW hS hl h
    exact absurd h id
  | succ n ih =>
    intro x1 x3 x4 x5 x6 H locs ls hW hS hl h
    unfold wX5_fold_76 at h
    refine lv_iload hx hb dX5_fold_76 (lv_at hl 5 rfl) ?_
    refine lv_iload hx hb dX5_fold_78 (lv_at hl 4 rfl) ?_
    refine r_icmp_ge hx hb rfl rfl (tgt := 128) dX5_fold_80 (by decide) (fun c7 => ?_) (fun c7 => ?_)
    · have h := ite_f c7 h
      refine lv_iinc (v := x3 + (1 : Int32)) (lv' := [(3, .int (x3 + (1 : Int32))), (0, .ref (ad 1 o0)), (1, .long x1), (4, .int x4), (5, .int x5), (6, .int x6)]) hx hb dX5_fold_128 hl (k := 2) rfl rfl (by decide) rfl (fun ls hl => ?_)
      refine lv_goto (tgt := 6) hx hb dX5_fold_131 (by decide) ?_
      exact hk6 x1 (x3 + (1 : Int32)) hW hS (lv_sub hl [1, 2, 0] rfl) h
    · have h := ite_t c7 h
      refine lv_iload hx hb dX5_fold_83 (lv_at hl 5 rfl) ?_
      refine lv_bipush (v := (12 : Int32)) hx hb dX5_fold_85 (by decide) ?_
      refine r_icmp_ge hx hb rfl (show (12 : Int32).toInt = 12 by decide) (tgt := 128) dX5_fold_87 (by decide) (fun c8 => ?_) (fun c8 => ?_)
      · have h := ite_f c8 h
        refine lv_iinc (v := x3 + (1 : Int32)) (lv' := [(3, .int (x3 + (1 : Int32))), (0, .ref (ad 1 o0)), (1, .long x1), (4, .int x4), (5, .int x5), (6, .int x6)]) hx hb dX5_fold_128 hl (k := 2) rfl rfl (by decide) rfl (fun ls hl => ?_)
        refine lv_goto (tgt := 6) hx hb dX5_fold_131 (by decide) ?_
        exact hk6 x1 (x3 + (1 : Int32)) hW hS (lv_sub hl [1, 2, 0] rfl) h
      · have h := ite_t c8 h
        refine lv_ldc2 (v := (31 : Int64)) hx hb hown (hts _ (List.mem_of_getElem? (i := 4) rfl)) dX5_fold_90 ?_
        refine lv_lload_n hx hb dX5_fold_93 rfl (lv_at hl 1 rfl) ?_
        refine lv_lmul hx hb dX5_fold_94 ?_
        refine lv_aload_n hx hb dX5_fold_95 rfl (lv_at hl 0 rfl) ?_
        refine lv_iload hx hb dX5_fold_96 (lv_at hl 3 rfl) ?_
        refine lv_iload hx hb dX5_fold_98 (lv_at hl 5 rfl) ?_
        obtain ⟨g9, h⟩ := h
        refine k_Vi (rest := [.long (((31 : Int64)) * x1)]) (As := [.int x4, .int x6]) ⟨hx, hb, hml, hown, hts⟩ hE hz hS hW (mtX5_readAt l z G ad σ ν ρ lo o0 x4 x6 _ h) (cwV 2 hts gX5_fold_X5_readAt rfl rfl rfl (by decide +kernel) ⟨Nat.le_of_ble_eq_true rfl, Nat.le_of_ble_eq_true rfl⟩) (r_recv hE hW 1 o0 g9 (ci := 8) rfl rfl) rfl hl.1 rfl (Nat.le_of_ble_eq_true rfl) dX5_fold_100 ⟨Nat.le_of_ble_eq_true rfl, Nat.le_of_ble_eq_true rfl⟩ (fun r10 S1 H locs hp hW hS => ?_)
        obtain ⟨rfl, h⟩ := hp
        refine lv_i2l (v := r10.toInt64) hx hb dX5_fold_103 rfl ?_
        refine lv_ladd hx hb dX5_fold_104 ?_
        refine lv_lstore_n (lv' := [(1, .long ((((31 : Int64)) * x1) + (r10.toInt64))), (0, .ref (ad 1 o0)), (3, .int x3), (4, .int x4), (5, .int x5), (6, .int x6)]) hx hb dX5_fold_105 rfl hl (by decide) rfl (fun ls hl => ?_)
        refine lv_ldc2 (v := (31 : Int64)) hx hb hown (hts _ (List.mem_of_getElem? (i := 4) rfl)) dX5_fold_106 ?_
        refine lv_lload_n hx hb dX5_fold_109 rfl (lv_at hl 0 rfl) ?_
        refine lv_lmul hx hb dX5_fold_110 ?_
        refine lv_aload_n hx hb dX5_fold_111 rfl (lv_at hl 1 rfl) ?_
        refine lv_iload hx hb dX5_fold_112 (lv_at hl 3 rfl) ?_
        refine lv_iload hx hb dX5_fold_114 (lv_at hl 5 rfl) ?_
        refine k_Vi (rest := [.long (((31 : Int64)) * ((((31 : Int64)) * x1) + (r10.toInt64)))]) (As := [.int x4, .int x6]) ⟨hx, hb, hml, hown, hts⟩ hE hz hS hW (mtX5_sourceAt l z G ad σ ν ρ lo o0 x4 x6 _ h) (cwV 2 hts gX5_fold_X5_sourceAt rfl rfl rfl (by decide +kernel) ⟨Nat.le_of_ble_eq_true rfl, Nat.le_of_ble_eq_true rfl⟩) (r_recv hE hW 1 o0 g9 (ci := 8) rfl rfl) rfl hl.1 rfl (Nat.le_of_ble_eq_true rfl) dX5_fold_116 ⟨Nat.le_of_ble_eq_true rfl, Nat.le_of_ble_eq_true rfl⟩ (fun r11 S1 H locs hp hW hS => ?_)
        obtain ⟨rfl, h⟩ := hp
        refine lv_i2l (v := r11.toInt64) hx hb dX5_fold_119 rfl ?_
        refine lv_ladd hx hb dX5_fold_120 ?_
        refine lv_lstore_n (lv' := [(1, .long ((((31 : Int64)) * ((((31 : Int64)) * x1) + (r10.toInt64))) + (r11.toInt64))), (0, .ref (ad 1 o0)), (3, .int x3), (4, .int x4), (5, .int x5), (6, .int x6)]) hx hb dX5_fold_121 rfl hl (by decide) rfl (fun ls hl => ?_)
        refine lv_iinc (v := x6 + (1 : Int32)) (lv' := [(6, .int (x6 + (1 : Int32))), (1, .long ((((31 : Int64)) * ((((31 : Int64)) * x1) + (r10.toInt64))) + (r11.toInt64))), (0, .ref (ad 1 o0)), (3, .int x3), (4, .int x4), (5, .int x5)]) hx hb dX5_fold_122 hl (k := 5) rfl rfl (by decide) rfl (fun ls hl => ?_)
        refine lv_goto (tgt := 76) hx hb dX5_fold_125 (by decide) ?_
        exact ih ((((31 : Int64)) * ((((31 : Int64)) * x1) + (r10.toInt64))) + (r11.toInt64)) x3 x4 x5 (x6 + (1 : Int32)) hW hS (lv_sub hl [2, 1, 3, 4, 5, 0] rfl) h
set_option maxHeartbeats 4000000 in
set_option maxRecDepth 100000 in
theorem tX5_fold_6 {p : Program} {l : Launch} {e : Env} {s : State} {m : MethodId} {args : Array Value} {below : List Frame} {meth : Method} {c : Code} {z : Nat} {G : Gl} {ad : Nat → Nat → Nat} {σ : SG} {ν : NU} {ρ : RH} {lo : Int64} (X : Cx p l e s m args below meth c cX5_fold (some .long) 7 RX5 wsX5_fold z G) (o0 : Nat)  (post : Int64 → Prop) : ∀ (n : Nat) (x1 : Int64) (x3 : Int32) {H : Heap} {locs : List Loc} {ls : Array Slot}, WP z G ad (σ, ν, ρ, lo) H → va_S (Az z) s.heap H locs → lv_has ls 7 [(0, .ref (ad 1 o0)), (1, .long x1), (3, .int x3)] → wX5_fold_6 o0 post n σ ν x1 x3 → W p l e ({ frames := 3, cells := 0, slots := 0, locals := 64 } : Room) s m args below meth c H locs 0 0 (MQ below (Qls z G ad (fun r S1 => S1 = (σ, ν, ρ, lo) ∧ post r)) args s 0 0 (Az z)) (F0 m 6 ls []) := by
  obtain ⟨hx, hb, hr, hml, hown, hts, hlocks, hE, hz⟩ := id X
  intro n
  induction n with
  | zero =>
    intro x1 x3 H locs ls hW hS hl h
    exact absurd h id
  | succ n ih =>
    intro x1 x3 H locs ls hW hS hl h
    unfold wX5_fold_6 at h
    refine lv_iload_n hx hb dX5_fold_6 rfl (lv_at hl 2 rfl) ?_
    refine lv_aload_n hx hb dX5_fold_7 rfl (lv_at hl 0 rfl) ?_
    obtain ⟨g1, h⟩ := h
    refine r_get (C := RX5) (T := TX5) (N := 13) (ci := 8) (fs := fl_1 ad ν ρ o0 (σ 1 o0)) hx hb hts hown hE hW 1 o0 g1 rfl rfl (fun w h => List.mem_cons_of_mem _ (List.mem_append_left _ (List.mem_append_right _ h))) 9 (by decide) (List.mem_of_getElem? (i := 2) rfl) rfl (v := .int (σ 1 o0 9)) rfl dX5_fold_8 ?_
    refine r_icmp_ge hx hb rfl rfl (tgt := 134) dX5_fold_11 (by decide) (fun c2 => ?_) (fun c2 => ?_)
    · have h := ite_f c2 h
      refine lv_lload_n hx hb dX5_fold_134 rfl (lv_at hl 1 rfl) ?_
      exact W.lret (v := x1) hx hb hr (fun t ht _ => ⟨⟨_, (σ, ν, ρ, lo), rfl, ⟨rfl, h⟩, WP.at9 ht hW⟩, hS.F ht⟩) hS.2.2 dX5_fold_135 (hlocks := hlocks)
    · have h := ite_t c2 h
      refine lv_iload_n hx hb dX5_fold_14 rfl (lv_at hl 2 rfl) ?_
      refine lv_aload_n hx hb dX5_fold_15 rfl (lv_at hl 0 rfl) ?_
      refine r_get (C := RX5) (T := TX5) (N := 13) (ci := 8) (fs := fl_1 ad ν ρ o0 (σ 1 o0)) hx hb hts hown hE hW 1 o0 g1 rfl rfl (fun w h => List.mem_cons_of_mem _ (List.mem_append_left _ (List.mem_append_right _ h))) 8 (by decide) (List.mem_of_getElem? (i := 3) rfl) rfl (v := .ref (ad 18 o0)) rfl dX5_fold_16 ?_
      refine r_alen hx hb hE hW 18 o0 g1 rfl 0 rfl (v := (20 : Int32)) rfl dX5_fold_19 ?_
      refine r_icmp_ge hx hb rfl (show (20 : Int32).toInt = 20 by decide) (tgt := 134) dX5_fold_20 (by decide) (fun c3 => ?_) (fun c3 => ?_)
      · have h := ite_f c3 h
        refine lv_lload_n hx hb dX5_fold_134 rfl (lv_at hl 1 rfl) ?_
        exact W.lret (v := x1) hx hb hr (fun t ht _ => ⟨⟨_, (σ, ν, ρ, lo), rfl, ⟨rfl, h⟩, WP.at9 ht hW⟩, hS.F ht⟩) hS.2.2 dX5_fold_135 (hlocks := hlocks)
      · have h := ite_t c3 h
        refine lv_aload_n hx hb dX5_fold_23 rfl (lv_at hl 0 rfl) ?_
        refine r_get (C := RX5) (T := TX5) (N := 13) (ci := 8) (fs := fl_1 ad ν ρ o0 (σ 1 o0)) hx hb hts hown hE hW 1 o0 g1 rfl rfl (fun w h => List.mem_cons_of_mem _ (List.mem_append_left _ (List.mem_append_right _ h))) 8 (by decide) (List.mem_of_getElem? (i := 3) rfl) rfl (v := .ref (ad 18 o0)) rfl dX5_fold_24 ?_
        refine lv_iload_n hx hb dX5_fold_27 rfl (lv_at hl 2 rfl) ?_
        obtain ⟨b4, h⟩ := h
        refine r_iald hx hb hE hW 18 o0 g1 (n := 20) (f := σ 18 o0) rfl b4 (v := σ 18 o0 x3.toNatClampNeg) rfl dX5_fold_28 ?_
        refine lv_istore (lv' := [(4, .int (σ 18 o0 x3.toNatClampNeg)), (0, .ref (ad 1 o0)), (1, .long x1), (3, .int x3)]) hx hb dX5_fold_29 hl (by decide) rfl (fun ls hl => ?_)
        refine lv_aload_n hx hb dX5_fold_31 rfl (lv_at hl 1 rfl) ?_
        refine lv_iload hx hb dX5_fold_32 (lv_at hl 0 rfl) ?_
        refine k_Vi (rest := []) (As := [.int (σ 18 o0 x3.toNatClampNeg)]) ⟨hx, hb, hml, hown, hts⟩ hE hz hS hW (mtX5_countOf l z G ad σ ν ρ lo o0 (σ 18 o0 x3.toNatClampNeg) _ h) (cwV 1 hts gX5_fold_X5_countOf rfl rfl rfl (by decide +kernel) ⟨Nat.le_of_ble_eq_true rfl, Nat.le_of_ble_eq_true rfl⟩) (r_recv hE hW 1 o0 g1 (ci := 8) rfl rfl) rfl hl.1 rfl (Nat.le_of_ble_eq_true rfl) dX5_fold_34 ⟨Nat.le_of_ble_eq_true rfl, Nat.le_of_ble_eq_true rfl⟩ (fun r5 S1 H locs hp hW hS => ?_)
        obtain ⟨rfl, h⟩ := hp
        refine lv_istore (lv' := [(5, .int r5), (4, .int (σ 18 o0 x3.toNatClampNeg)), (0, .ref (ad 1 o0)), (1, .long x1), (3, .int x3)]) hx hb dX5_fold_37 hl (by decide) rfl (fun ls hl => ?_)
        refine lv_ldc2 (v := (31 : Int64)) hx hb hown (hts _ (List.mem_of_getElem? (i := 4) rfl)) dX5_fold_39 ?_
        refine lv_lload_n hx hb dX5_fold_42 rfl (lv_at hl 3 rfl) ?_
        refine lv_lmul hx hb dX5_fold_43 ?_
        refine lv_iload hx hb dX5_fold_44 (lv_at hl 1 rfl) ?_
        refine lv_i2l (v := (σ 18 o0 x3.toNatClampNeg).toInt64) hx hb dX5_fold_46 rfl ?_
        refine lv_ladd hx hb dX5_fold_47 ?_
        refine lv_lstore_n (lv' := [(1, .long ((((31 : Int64)) * x1) + ((σ 18 o0 x3.toNatClampNeg).toInt64))), (5, .int r5), (4, .int (σ 18 o0 x3.toNatClampNeg)), (0, .ref (ad 1 o0)), (3, .int x3)]) hx hb dX5_fold_48 rfl hl (by decide) rfl (fun ls hl => ?_)
        refine lv_ldc2 (v := (31 : Int64)) hx hb hown (hts _ (List.mem_of_getElem? (i := 4) rfl)) dX5_fold_49 ?_
        refine lv_lload_n hx hb dX5_fold_52 rfl (lv_at hl 0 rfl) ?_
        refine lv_lmul hx hb dX5_fold_53 ?_
        refine lv_aload_n hx hb dX5_fold_54 rfl (lv_at hl 3 rfl) ?_
        refine lv_iload hx hb dX5_fold_55 (lv_at hl 2 rfl) ?_
        refine k_Vi (rest := [.long (((31 : Int64)) * ((((31 : Int64)) * x1) + ((σ 18 o0 x3.toNatClampNeg).toInt64)))]) (As := [.int (σ 18 o0 x3.toNatClampNeg)]) ⟨hx, hb, hml, hown, hts⟩ hE hz hS hW (mtX5_labelOf l z G ad σ ν ρ lo o0 (σ 18 o0 x3.toNatClampNeg) _ h) (cwV 1 hts gX5_fold_X5_labelOf rfl rfl rfl (by decide +kernel) ⟨Nat.le_of_ble_eq_true rfl, Nat.le_of_ble_eq_true rfl⟩) (r_recv hE hW 1 o0 g1 (ci := 8) rfl rfl) rfl hl.1 rfl (Nat.le_of_ble_eq_true rfl) dX5_fold_57 ⟨Nat.le_of_ble_eq_true rfl, Nat.le_of_ble_eq_true rfl⟩ (fun r6 S1 H locs hp hW hS => ?_)
        obtain ⟨rfl, h⟩ := hp
        refine lv_i2l (v := r6.toInt64) hx hb dX5_fold_60 rfl ?_
        refine lv_ladd hx hb dX5_fold_61 ?_
        refine lv_lstore_n (lv' := [(1, .long ((((31 : Int64)) * ((((31 : Int64)) * x1) + ((σ 18 o0 x3.toNatClampNeg).toInt64))) + (r6.toInt64))), (5, .int r5), (4, .int (σ 18 o0 x3.toNatClampNeg)), (0, .ref (ad 1 o0)), (3, .int x3)]) hx hb dX5_fold_62 rfl hl (by decide) rfl (fun ls hl => ?_)
        refine lv_ldc2 (v := (31 : Int64)) hx hb hown (hts _ (List.mem_of_getElem? (i := 4) rfl)) dX5_fold_63 ?_
        refine lv_lload_n hx hb dX5_fold_66 rfl (lv_at hl 0 rfl) ?_
        refine lv_lmul hx hb dX5_fold_67 ?_
        refine lv_iload hx hb dX5_fold_68 (lv_at hl 1 rfl) ?_
        refine lv_i2l (v := r5.toInt64) hx hb dX5_fold_70 rfl ?_
        refine lv_ladd hx hb dX5_fold_71 ?_
        refine lv_lstore_n (lv' := [(1, .long ((((31 : Int64)) * ((((31 : Int64)) * ((((31 : Int64)) * x1) + ((σ 18 o0 x3.toNatClampNeg).toInt64))) + (r6.toInt64))) + (r5.toInt64))), (5, .int r5), (4, .int (σ 18 o0 x3.toNatClampNeg)), (0, .ref (ad 1 o0)), (3, .int x3)]) hx hb dX5_fold_72 rfl hl (by decide) rfl (fun ls hl => ?_)
        refine lv_iconst (v := (0 : Int32)) hx hb dX5_fold_73 (by decide) ?_
        refine lv_istore (lv' := [(6, .int ((0 : Int32))), (1, .long ((((31 : Int64)) * ((((31 : Int64)) * ((((31 : Int64)) * x1) + ((σ 18 o0 x3.toNatClampNeg).toInt64))) + (r6.toInt64))) + (r5.toInt64))), (5, .int r5), (4, .int (σ 18 o0 x3.toNatClampNeg)), (0, .ref (ad 1 o0)), (3, .int x3)]) hx hb dX5_fold_74 hl (by decide) rfl (fun ls hl => ?_)
        obtain ⟨n12, h⟩ := h
        exact tX5_fold_76 (σ := σ) (ρ := ρ) X o0 (wX5_fold_6 o0 post n) post ih n12 ((((31 : Int64)) * ((((31 : Int64)) * ((((31 : Int64)) * x1) + ((σ 18 o0 x3.toNatClampNeg).toInt64))) + (r6.toInt64))) + (r5.toInt64)) x3 (σ 18 o0 x3.toNatClampNeg) r5 ((0 : Int32)) hW hS (lv_sub hl [4, 1, 5, 3, 2, 0] rfl) h
set_option maxHeartbeats 4000000 in
set_option maxRecDepth 100000 in
theorem mtX5_fold (l : Launch) (z : Nat) (G : Gl) (ad : Nat → Nat → Nat) (σ : SG) (ν : NU) (ρ : RH) (lo : Int64) (o0 : Nat) (post : Int64 → Prop) (h : wpX5_fold σ ν o0 post) : Met l yX5_fold wsX5_fold ({ frames := 3, cells := 0, slots := 0, locals := 64 } : Room) (Pcs z G ad (σ, ν, ρ, lo) [.ref (ad 1 o0)]) (Qls z G ad (fun r S1 => S1 = (σ, ν, ρ, lo) ∧ post r)) 0 0 (Az z) := by
  refine Met.ofW (cc := cX5_fold) (maxL := 7) (ret := (some .long)) (by decide) rfl ?_
  intro p e s m args below meth c s₁ B hml hv
  obtain ⟨rfl, hz, hW, hE⟩ := hv
  have hx := B.exec
  have hb := B.bytes
  have hr := B.returns
  have hts := atoms_spec (ws := wsX5_fold) B.pre
  have hown : s.vm.findClass RX5 = some m.cls := findClass_of_methodNamed B.named
  have hlocks := B.notSynchronized
  have X : Cx p l e s m _ below meth c cX5_fold (some .long) 7 RX5 wsX5_fold z G := ⟨hx, hb, hr, hml, hown, hts, hlocks, hE, hz⟩
  have hS : va_S (Az z) s.heap s.heap [] := va_S.rf
  have hl := lv_entry [.ref (ad 1 o0)] (n := 7) (Nat.le_of_ble_eq_true rfl)
  rw [lg_entry_eq]
  generalize (lg_sl [.ref (ad 1 o0)] ++ List.replicate (7 - (lg_sl [.ref (ad 1 o0)]).length) Slot.unset).toArray = ls at hl ⊢
  have hl : lv_has ls 7 [(0, .ref (ad 1 o0))] := hl
  unfold wpX5_fold at h
  refine lv_ldc2 (v := (11 : Int64)) hx hb hown (hts _ (List.mem_of_getElem? (i := 1) rfl)) dX5_fold_0 ?_
  refine lv_lstore_n (lv' := [(1, .long ((11 : Int64))), (0, .ref (ad 1 o0))]) hx hb dX5_fold_3 rfl hl (by decide) rfl (fun ls hl => ?_)
  refine lv_iconst (v := (0 : Int32)) hx hb dX5_fold_4 (by decide) ?_
  refine lv_istore_n (lv' := [(3, .int ((0 : Int32))), (1, .long ((11 : Int64))), (0, .ref (ad 1 o0))]) hx hb dX5_fold_5 rfl hl (by decide) rfl (fun ls hl => ?_)
  obtain ⟨n13, h⟩ := h
  exact tX5_fold_6 (σ := σ) (ρ := ρ) X o0 post  n13 ((11 : Int64)) ((0 : Int32)) hW hS (lv_sub hl [2, 1, 0] rfl) h
set_option maxHeartbeats 4000000 in
set_option maxRecDepth 100000 in
theorem mtX6_print (l : Launch) (z : Nat) (G : Gl) (ad : Nat → Nat → Nat) (σ : SG) (ν : NU) (ρ : RH) (lo : Int64)  (post : Int64 → Prop) (h : wpX6_print σ ν  post) : Met l yX6_print wsX6_print ({ frames := 4, cells := 0, slots := 0, locals := 90 } : Room) (Pcs z G ad (σ, ν, ρ, lo) [.ref (ad 0 0)]) (Qls z G ad (fun r S1 => S1 = (σ, ν, ρ, lo) ∧ post r)) 0 0 (Az z) := by
  refine Met.ofW (cc := cX6_print) (maxL := 1) (ret := (some .long)) (by decide) rfl ?_
  intro p e s m args below meth c s₁ B hml hv
  obtain ⟨rfl, hz, hW, hE⟩ := hv
  have hx := B.exec
  have hb := B.bytes
  have hr := B.returns
  have hts := atoms_spec (ws := wsX6_print) B.pre
  have hown : s.vm.findClass RX6 = some m.cls := findClass_of_methodNamed B.named
  have hlocks := B.notSynchronized
  have X : Cx p l e s m _ below meth c cX6_print (some .long) 1 RX6 wsX6_print z G := ⟨hx, hb, hr, hml, hown, hts, hlocks, hE, hz⟩
  have hS : va_S (Az z) s.heap s.heap [] := va_S.rf
  have hl := lv_entry [.ref (ad 0 0)] (n := 1) (Nat.le_of_ble_eq_true rfl)
  rw [lg_entry_eq]
  generalize (lg_sl [.ref (ad 0 0)] ++ List.replicate (1 - (lg_sl [.ref (ad 0 0)]).length) Slot.unset).toArray = ls at hl ⊢
  have hl : lv_has ls 1 [(0, .ref (ad 0 0))] := hl
  unfold wpX6_print at h
  refine lv_aload_n hx hb dX6_print_0 rfl (lv_at hl 0 rfl) ?_
  refine r_get (C := RX6) (T := TX6) (N := 8) (ci := 9) (fs := fl_0 ad ν ρ 0 (σ 0 0)) hx hb hts hown hE hW 0 0 rfl rfl rfl (fun w h => List.mem_cons_of_mem _ (List.mem_append_left _ (List.mem_append_left _ (List.mem_append_right _ h)))) 1 (by decide) (List.mem_of_getElem? (i := 1) rfl) rfl (v := .ref (ad 1 0)) rfl dX6_print_1 ?_
  refine k_Vl (rest := []) (As := []) ⟨hx, hb, hml, hown, hts⟩ hE hz hS hW (mtX5_fold l z G ad σ ν ρ lo 0 _ h) (cwV 0 hts gX6_print_X5_fold rfl rfl rfl (by decide +kernel) ⟨Nat.le_of_ble_eq_true rfl, Nat.le_of_ble_eq_true rfl⟩) (r_recv hE hW 1 0 (show 0 < 2 by decide) (ci := 8) rfl rfl) rfl hl.1 rfl (Nat.le_of_ble_eq_true rfl) dX6_print_4 ⟨Nat.le_of_ble_eq_true rfl, Nat.le_of_ble_eq_true rfl⟩ (fun r1 S1 H locs hp hW hS => ?_)
  obtain ⟨rfl, h⟩ := hp
  exact W.lret (v := r1) hx hb hr (fun t ht _ => ⟨⟨_, (σ, ν, ρ, lo), rfl, ⟨rfl, h⟩, WP.at9 ht hW⟩, hS.F ht⟩) hS.2.2 dX6_print_7 (hlocks := hlocks)
set_option maxHeartbeats 4000000 in
set_option maxRecDepth 100000 in
theorem nmtX6_needInstruction (l : Launch) (z : Nat) (G : Gl) (ad : Nat → Nat → Nat) (σ : SG) (ν : NU) (ρ : RH) (lo : Int64) (p1 : Int32) (post : Nat → Prop) (h : wpX6_needInstruction σ ν p1 post (fun _ => False)) : Met l yX6_needInstruction wsX6_needInstruction ({ frames := 3, cells := 0, slots := 0, locals := 64 } : Room) (Pcs z G ad (σ, ν, ρ, lo) [.ref (ad 0 0), .int p1]) (Qrs z G ad 3 (fun r S1 => S1 = (σ, ν, ρ, lo) ∧ post r)) 0 0 (Az z) := by
  refine Met.ofW (cc := cX6_needInstruction) (maxL := 2) (ret := (some (.object "Amendmark$Instruction"))) (by decide) rfl ?_
  intro p e s m args below meth c s₁ B hml hv
  obtain ⟨rfl, hz, hW, hE⟩ := hv
  have hx := B.exec
  have hb := B.bytes
  have hr := B.returns
  have hts := atoms_spec (ws := wsX6_needInstruction) B.pre
  have hown : s.vm.findClass RX6 = some m.cls := findClass_of_methodNamed B.named
  have hlocks := B.notSynchronized
  have X : Cx p l e s m _ below meth c cX6_needInstruction (some (.object "Amendmark$Instruction")) 2 RX6 wsX6_needInstruction z G := ⟨hx, hb, hr, hml, hown, hts, hlocks, hE, hz⟩
  have hS : va_S (Az z) s.heap s.heap [] := va_S.rf
  have hl := lv_entry [.ref (ad 0 0), .int p1] (n := 2) (Nat.le_of_ble_eq_true rfl)
  rw [lg_entry_eq]
  generalize (lg_sl [.ref (ad 0 0), .int p1] ++ List.replicate (2 - (lg_sl [.ref (ad 0 0), .int p1]).length) Slot.unset).toArray = ls at hl ⊢
  have hl : lv_has ls 2 [(0, .ref (ad 0 0)), (1, .int p1)] := hl
  unfold wpX6_needInstruction at h
  refine lv_iload_n hx hb dX6_needInstruction_0 rfl (lv_at hl 1 rfl) ?_
  refine r_if_lt hx hb rfl (tgt := 15) dX6_needInstruction_1 (by decide) (fun c1 => ?_) (fun c1 => ?_)
  · have h := ite_t c1 h
    exact False.elim h
  · have h := ite_f c1 h
    refine lv_iload_n hx hb dX6_needInstruction_4 rfl (lv_at hl 1 rfl) ?_
    refine lv_aload_n hx hb dX6_needInstruction_5 rfl (lv_at hl 0 rfl) ?_
    refine r_get (C := RX6) (T := TX6) (N := 8) (ci := 9) (fs := fl_0 ad ν ρ 0 (σ 0 0)) hx hb hts hown hE hW 0 0 rfl rfl rfl (fun w h => List.mem_cons_of_mem _ (List.mem_append_left _ (List.mem_append_left _ (List.mem_append_right _ h)))) 0 (by decide) (List.mem_of_getElem? (i := 3) rfl) rfl (v := .ref (ad 7 0)) rfl dX6_needInstruction_6 ?_
    refine k_Vi (rest := [.int p1]) (As := []) ⟨hx, hb, hml, hown, hts⟩ hE hz hS hW (mtJx4a65c_size_8abf5 l z G ad σ ν ρ lo 0 _ h) (cwV 0 hts gX6_needInstruction_Jx4a65c_size_8abf5 rfl rfl rfl (by decide +kernel) ⟨Nat.le_of_ble_eq_true rfl, Nat.le_of_ble_eq_true rfl⟩) (r_recv hE hW 7 0 (show 0 < 3 by decide) (ci := 2) rfl rfl) rfl hl.1 rfl (Nat.le_of_ble_eq_true rfl) dX6_needInstruction_9 ⟨Nat.le_of_ble_eq_true rfl, Nat.le_of_ble_eq_true rfl⟩ (fun r2 S1 H locs hp hW hS => ?_)
    obtain ⟨rfl, h⟩ := hp
    refine r_icmp_lt hx hb rfl rfl (tgt := 25) dX6_needInstruction_12 (by decide) (fun c3 => ?_) (fun c3 => ?_)
    · have h := ite_t c3 h
      refine lv_aload_n hx hb dX6_needInstruction_25 rfl (lv_at hl 0 rfl) ?_
      refine r_get (C := RX6) (T := TX6) (N := 8) (ci := 9) (fs := fl_0 ad ν ρ 0 (σ 0 0)) hx hb hts hown hE hW 0 0 rfl rfl rfl (fun w h => List.mem_cons_of_mem _ (List.mem_append_left _ (List.mem_append_left _ (List.mem_append_right _ h)))) 0 (by decide) (List.mem_of_getElem? (i := 3) rfl) rfl (v := .ref (ad 7 0)) rfl dX6_needInstruction_26 ?_
      refine lv_iload_n hx hb dX6_needInstruction_29 rfl (lv_at hl 1 rfl) ?_
      refine k_Vr (rest := []) (As := [.int p1]) ⟨hx, hb, hml, hown, hts⟩ hE hz hS hW (mtJx4a65c_get_915e3 l z G ad σ ν ρ lo 0 p1 _ h) (cwV 1 hts gX6_needInstruction_Jx4a65c_get_915e3 rfl rfl rfl (by decide +kernel) ⟨Nat.le_of_ble_eq_true rfl, Nat.le_of_ble_eq_true rfl⟩) (r_recv hE hW 7 0 (show 0 < 3 by decide) (ci := 2) rfl rfl) rfl hl.1 rfl (Nat.le_of_ble_eq_true rfl) dX6_needInstruction_30 ⟨Nat.le_of_ble_eq_true rfl, Nat.le_of_ble_eq_true rfl⟩ (fun r4 S1 H locs hp hW hS => ?_)
      obtain ⟨rfl, h⟩ := hp
      obtain ⟨g5, h⟩ := h
      refine r_cast hx hb hts hown hE hW r4 g5 (List.mem_of_getElem? (i := 4) rfl) dX6_needInstruction_33 ?_
      exact W.aret hx hb hr (Or.inl ⟨_, rfl⟩) (Or.inr ⟨_, rfl⟩) (fun t ht _ => ⟨⟨((σ, ν, ρ, lo), r4), _, rfl, ⟨rfl, h⟩, rfl, WP.at9 ht hW⟩, hS.F ht⟩) hS.2.2 dX6_needInstruction_36 (hlocks := hlocks)
    · have h := ite_f c3 h
      exact False.elim h
set_option maxHeartbeats 4000000 in
set_option maxRecDepth 100000 in
theorem nmtX6_needProvision (l : Launch) (z : Nat) (G : Gl) (ad : Nat → Nat → Nat) (σ : SG) (ν : NU) (ρ : RH) (lo : Int64) (p1 : Int32) (post : Prop) (h : wpX6_needProvision σ ν p1 post (fun _ => False)) : Met l yX6_needProvision wsX6_needProvision ({ frames := 0, cells := 0, slots := 0, locals := 0 } : Room) (Pcs z G ad (σ, ν, ρ, lo) [.ref (ad 0 0), .int p1]) (Qvs z G ad (fun S1 => S1 = (σ, ν, ρ, lo) ∧ post)) 0 0 (Az z) := by
  refine Met.ofW (cc := cX6_needProvision) (maxL := 2) (ret := none) (by decide) rfl ?_
  intro p e s m args below meth c s₁ B hml hv
  obtain ⟨rfl, hz, hW, hE⟩ := hv
  have hx := B.exec
  have hb := B.bytes
  have hr := B.returns
  have hts := atoms_spec (ws := wsX6_needProvision) B.pre
  have hown : s.vm.findClass RX6 = some m.cls := findClass_of_methodNamed B.named
  have hlocks := B.notSynchronized
  have X : Cx p l e s m _ below meth c cX6_needProvision none 2 RX6 wsX6_needProvision z G := ⟨hx, hb, hr, hml, hown, hts, hlocks, hE, hz⟩
  have hS : va_S (Az z) s.heap s.heap [] := va_S.rf
  have hl := lv_entry [.ref (ad 0 0), .int p1] (n := 2) (Nat.le_of_ble_eq_true rfl)
  rw [lg_entry_eq]
  generalize (lg_sl [.ref (ad 0 0), .int p1] ++ List.replicate (2 - (lg_sl [.ref (ad 0 0), .int p1]).length) Slot.unset).toArray = ls at hl ⊢
  have hl : lv_has ls 2 [(0, .ref (ad 0 0)), (1, .int p1)] := hl
  unfold wpX6_needProvision at h
  refine lv_iload_n hx hb dX6_needProvision_0 rfl (lv_at hl 1 rfl) ?_
  refine r_if_lt hx hb rfl (tgt := 12) dX6_needProvision_1 (by decide) (fun c1 => ?_) (fun c1 => ?_)
  · have h := ite_t c1 h
    exact False.elim h
  · have h := ite_f c1 h
    refine lv_iload_n hx hb dX6_needProvision_4 rfl (lv_at hl 1 rfl) ?_
    refine lv_aload_n hx hb dX6_needProvision_5 rfl (lv_at hl 0 rfl) ?_
    refine r_get (C := RX6) (T := TX6) (N := 8) (ci := 9) (fs := fl_0 ad ν ρ 0 (σ 0 0)) hx hb hts hown hE hW 0 0 rfl rfl rfl (fun w h => List.mem_cons_of_mem _ (List.mem_append_left _ (List.mem_append_right _ h))) 7 (by decide) (List.mem_of_getElem? (i := 3) rfl) rfl (v := .int (σ 0 0 7)) rfl dX6_needProvision_6 ?_
    refine r_icmp_lt hx hb rfl rfl (tgt := 22) dX6_needProvision_9 (by decide) (fun c2 => ?_) (fun c2 => ?_)
    · have h := ite_t c2 h
      exact W.vret hx hb hr (fun t ht _ => ⟨⟨(σ, ν, ρ, lo), rfl, ⟨rfl, h⟩, WP.at9 ht hW⟩, hS.F ht⟩) hS.2.2 dX6_needProvision_22 (hlocks := hlocks)
    · have h := ite_f c2 h
      exact False.elim h
set_option maxHeartbeats 4000000 in
set_option maxRecDepth 100000 in
theorem nmtX6_needWord (l : Launch) (z : Nat) (G : Gl) (ad : Nat → Nat → Nat) (σ : SG) (ν : NU) (ρ : RH) (lo : Int64) (p1 : Int32) (p2 : Int32) (post : Prop) (h : wpX6_needWord σ ν p1 p2 post (fun _ => False)) : Met l yX6_needWord wsX6_needWord ({ frames := 3, cells := 0, slots := 0, locals := 63 } : Room) (Pcs z G ad (σ, ν, ρ, lo) [.ref (ad 0 0), .int p1, .int p2]) (Qvs z G ad (fun S1 => S1 = (σ, ν, ρ, lo) ∧ post)) 0 0 (Az z) := by
  refine Met.ofW (cc := cX6_needWord) (maxL := 3) (ret := none) (by decide) rfl ?_
  intro p e s m args below meth c s₁ B hml hv
  obtain ⟨rfl, hz, hW, hE⟩ := hv
  have hx := B.exec
  have hb := B.bytes
  have hr := B.returns
  have hts := atoms_spec (ws := wsX6_needWord) B.pre
  have hown : s.vm.findClass RX6 = some m.cls := findClass_of_methodNamed B.named
  have hlocks := B.notSynchronized
  have X : Cx p l e s m _ below meth c cX6_needWord none 3 RX6 wsX6_needWord z G := ⟨hx, hb, hr, hml, hown, hts, hlocks, hE, hz⟩
  have hS : va_S (Az z) s.heap s.heap [] := va_S.rf
  have hl := lv_entry [.ref (ad 0 0), .int p1, .int p2] (n := 3) (Nat.le_of_ble_eq_true rfl)
  rw [lg_entry_eq]
  generalize (lg_sl [.ref (ad 0 0), .int p1, .int p2] ++ List.replicate (3 - (lg_sl [.ref (ad 0 0), .int p1, .int p2]).length) Slot.unset).toArray = ls at hl ⊢
  have hl : lv_has ls 3 [(0, .ref (ad 0 0)), (1, .int p1), (2, .int p2)] := hl
  unfold wpX6_needWord at h
  refine lv_aload_n hx hb dX6_needWord_0 rfl (lv_at hl 0 rfl) ?_
  refine lv_iload_n hx hb dX6_needWord_1 rfl (lv_at hl 1 rfl) ?_
  refine k_Vv (rest := []) (As := [.int p1]) ⟨hx, hb, hml, hown, hts⟩ hE hz hS hW (nmtX6_needProvision l z G ad σ ν ρ lo p1 _ h) (cwV 1 hts gX6_needWord_X6_needProvision rfl rfl rfl (by decide +kernel) ⟨Nat.le_of_ble_eq_true rfl, Nat.le_of_ble_eq_true rfl⟩) (r_recv hE hW 0 0 rfl (ci := 9) rfl rfl) rfl hl.1 rfl (Nat.le_of_ble_eq_true rfl) dX6_needWord_2 ⟨Nat.le_of_ble_eq_true rfl, Nat.le_of_ble_eq_true rfl⟩ (fun S1 H locs hp hW hS => ?_)
  obtain ⟨rfl, h⟩ := hp
  refine lv_iload_n hx hb dX6_needWord_5 rfl (lv_at hl 2 rfl) ?_
  refine r_if_lt hx hb rfl (tgt := 21) dX6_needWord_6 (by decide) (fun c1 => ?_) (fun c1 => ?_)
  · have h := ite_t c1 h
    exact False.elim h
  · have h := ite_f c1 h
    refine lv_iload_n hx hb dX6_needWord_9 rfl (lv_at hl 2 rfl) ?_
    refine lv_aload_n hx hb dX6_needWord_10 rfl (lv_at hl 0 rfl) ?_
    refine r_get (C := RX6) (T := TX6) (N := 8) (ci := 9) (fs := fl_0 ad ν ρ 0 (σ 0 0)) hx hb hts hown hE hW 0 0 rfl rfl rfl (fun w h => List.mem_cons_of_mem _ (List.mem_append_left _ (List.mem_append_left _ (List.mem_append_left _ (List.mem_append_right _ h))))) 1 (by decide) (List.mem_of_getElem? (i := 3) rfl) rfl (v := .ref (ad 1 0)) rfl dX6_needWord_11 ?_
    refine lv_iload_n hx hb dX6_needWord_14 rfl (lv_at hl 1 rfl) ?_
    refine k_Vi (rest := [.int p2]) (As := [.int p1]) ⟨hx, hb, hml, hown, hts⟩ hE hz hS hW (mtX5_countOf l z G ad σ ν ρ lo 0 p1 _ h) (cwV 1 hts gX6_needWord_X5_countOf rfl rfl rfl (by decide +kernel) ⟨Nat.le_of_ble_eq_true rfl, Nat.le_of_ble_eq_true rfl⟩) (r_recv hE hW 1 0 (show 0 < 2 by decide) (ci := 8) rfl rfl) rfl hl.1 rfl (Nat.le_of_ble_eq_true rfl) dX6_needWord_15 ⟨Nat.le_of_ble_eq_true rfl, Nat.le_of_ble_eq_true rfl⟩ (fun r2 S1 H locs hp hW hS => ?_)
    obtain ⟨rfl, h⟩ := hp
    refine r_icmp_lt hx hb rfl rfl (tgt := 31) dX6_needWord_18 (by decide) (fun c3 => ?_) (fun c3 => ?_)
    · have h := ite_t c3 h
      exact W.vret hx hb hr (fun t ht _ => ⟨⟨(σ, ν, ρ, lo), rfl, ⟨rfl, h⟩, WP.at9 ht hW⟩, hS.F ht⟩) hS.2.2 dX6_needWord_31 (hlocks := hlocks)
    · have h := ite_f c3 h
      exact False.elim h
set_option maxHeartbeats 4000000 in
set_option maxRecDepth 100000 in
theorem nmtX6_provisionAt (l : Launch) (z : Nat) (G : Gl) (ad : Nat → Nat → Nat) (σ : SG) (ν : NU) (ρ : RH) (lo : Int64) (p1 : Int32) (post : Int32 → Prop) (h : wpX6_provisionAt σ ν p1 post (fun _ => False)) : Met l yX6_provisionAt wsX6_provisionAt ({ frames := 1, cells := 0, slots := 0, locals := 21 } : Room) (Pcs z G ad (σ, ν, ρ, lo) [.ref (ad 0 0), .int p1]) (Qis z G ad (fun r S1 => S1 = (σ, ν, ρ, lo) ∧ post r)) 0 0 (Az z) := by
  refine Met.ofW (cc := cX6_provisionAt) (maxL := 2) (ret := (some .int)) (by decide) rfl ?_
  intro p e s m args below meth c s₁ B hml hv
  obtain ⟨rfl, hz, hW, hE⟩ := hv
  have hx := B.exec
  have hb := B.bytes
  have hr := B.returns
  have hts := atoms_spec (ws := wsX6_provisionAt) B.pre
  have hown : s.vm.findClass RX6 = some m.cls := findClass_of_methodNamed B.named
  have hlocks := B.notSynchronized
  have X : Cx p l e s m _ below meth c cX6_provisionAt (some .int) 2 RX6 wsX6_provisionAt z G := ⟨hx, hb, hr, hml, hown, hts, hlocks, hE, hz⟩
  have hS : va_S (Az z) s.heap s.heap [] := va_S.rf
  have hl := lv_entry [.ref (ad 0 0), .int p1] (n := 2) (Nat.le_of_ble_eq_true rfl)
  rw [lg_entry_eq]
  generalize (lg_sl [.ref (ad 0 0), .int p1] ++ List.replicate (2 - (lg_sl [.ref (ad 0 0), .int p1]).length) Slot.unset).toArray = ls at hl ⊢
  have hl : lv_has ls 2 [(0, .ref (ad 0 0)), (1, .int p1)] := hl
  unfold wpX6_provisionAt at h
  refine lv_iload_n hx hb dX6_provisionAt_0 rfl (lv_at hl 1 rfl) ?_
  refine r_if_ge hx hb rfl (tgt := 14) dX6_provisionAt_1 (by decide) (fun c1 => ?_) (fun c1 => ?_)
  · have h := ite_f c1 h
    refine lv_aload_n hx hb dX6_provisionAt_14 rfl (lv_at hl 0 rfl) ?_
    refine r_get (C := RX6) (T := TX6) (N := 8) (ci := 9) (fs := fl_0 ad ν ρ 0 (σ 0 0)) hx hb hts hown hE hW 0 0 rfl rfl rfl (fun w h => List.mem_cons_of_mem _ (List.mem_append_left _ (List.mem_append_left _ (List.mem_append_right _ h)))) 1 (by decide) (List.mem_of_getElem? (i := 3) rfl) rfl (v := .ref (ad 1 0)) rfl dX6_provisionAt_15 ?_
    refine lv_iload_n hx hb dX6_provisionAt_18 rfl (lv_at hl 1 rfl) ?_
    refine k_Vi (rest := []) (As := [.int p1]) ⟨hx, hb, hml, hown, hts⟩ hE hz hS hW (mtX5_listedAt l z G ad σ ν ρ lo 0 p1 _ h) (cwV 1 hts gX6_provisionAt_X5_listedAt rfl rfl rfl (by decide +kernel) ⟨Nat.le_of_ble_eq_true rfl, Nat.le_of_ble_eq_true rfl⟩) (r_recv hE hW 1 0 (show 0 < 2 by decide) (ci := 8) rfl rfl) rfl hl.1 rfl (Nat.le_of_ble_eq_true rfl) dX6_provisionAt_19 ⟨Nat.le_of_ble_eq_true rfl, Nat.le_of_ble_eq_true rfl⟩ (fun r2 S1 H locs hp hW hS => ?_)
    obtain ⟨rfl, h⟩ := hp
    exact W.iret (v := r2) hx hb hr (fun t ht _ => ⟨⟨_, (σ, ν, ρ, lo), rfl, ⟨rfl, h⟩, WP.at9 ht hW⟩, hS.F ht⟩) hS.2.2 dX6_provisionAt_22 (hlocks := hlocks)
  · have h := ite_t c1 h
    exact False.elim h
set_option maxHeartbeats 4000000 in
set_option maxRecDepth 100000 in
theorem nmtX6_label (l : Launch) (z : Nat) (G : Gl) (ad : Nat → Nat → Nat) (σ : SG) (ν : NU) (ρ : RH) (lo : Int64) (p1 : Int32) (post : Int32 → Prop) (h : wpX6_label σ ν p1 post (fun _ => False)) : Met l yX6_label wsX6_label ({ frames := 1, cells := 0, slots := 0, locals := 21 } : Room) (Pcs z G ad (σ, ν, ρ, lo) [.ref (ad 0 0), .int p1]) (Qis z G ad (fun r S1 => S1 = (σ, ν, ρ, lo) ∧ post r)) 0 0 (Az z) := by
  refine Met.ofW (cc := cX6_label) (maxL := 2) (ret := (some .int)) (by decide) rfl ?_
  intro p e s m args below meth c s₁ B hml hv
  obtain ⟨rfl, hz, hW, hE⟩ := hv
  have hx := B.exec
  have hb := B.bytes
  have hr := B.returns
  have hts := atoms_spec (ws := wsX6_label) B.pre
  have hown : s.vm.findClass RX6 = some m.cls := findClass_of_methodNamed B.named
  have hlocks := B.notSynchronized
  have X : Cx p l e s m _ below meth c cX6_label (some .int) 2 RX6 wsX6_label z G := ⟨hx, hb, hr, hml, hown, hts, hlocks, hE, hz⟩
  have hS : va_S (Az z) s.heap s.heap [] := va_S.rf
  have hl := lv_entry [.ref (ad 0 0), .int p1] (n := 2) (Nat.le_of_ble_eq_true rfl)
  rw [lg_entry_eq]
  generalize (lg_sl [.ref (ad 0 0), .int p1] ++ List.replicate (2 - (lg_sl [.ref (ad 0 0), .int p1]).length) Slot.unset).toArray = ls at hl ⊢
  have hl : lv_has ls 2 [(0, .ref (ad 0 0)), (1, .int p1)] := hl
  unfold wpX6_label at h
  refine lv_aload_n hx hb dX6_label_0 rfl (lv_at hl 0 rfl) ?_
  refine lv_iload_n hx hb dX6_label_1 rfl (lv_at hl 1 rfl) ?_
  refine k_Vv (rest := []) (As := [.int p1]) ⟨hx, hb, hml, hown, hts⟩ hE hz hS hW (nmtX6_needProvision l z G ad σ ν ρ lo p1 _ h) (cwV 1 hts gX6_label_X6_needProvision rfl rfl rfl (by decide +kernel) ⟨Nat.le_of_ble_eq_true rfl, Nat.le_of_ble_eq_true rfl⟩) (r_recv hE hW 0 0 rfl (ci := 9) rfl rfl) rfl hl.1 rfl (Nat.le_of_ble_eq_true rfl) dX6_label_2 ⟨Nat.le_of_ble_eq_true rfl, Nat.le_of_ble_eq_true rfl⟩ (fun S1 H locs hp hW hS => ?_)
  obtain ⟨rfl, h⟩ := hp
  refine lv_aload_n hx hb dX6_label_5 rfl (lv_at hl 0 rfl) ?_
  refine r_get (C := RX6) (T := TX6) (N := 8) (ci := 9) (fs := fl_0 ad ν ρ 0 (σ 0 0)) hx hb hts hown hE hW 0 0 rfl rfl rfl (fun w h => List.mem_cons_of_mem _ (List.mem_append_left _ (List.mem_append_left _ (List.mem_append_right _ h)))) 1 (by decide) (List.mem_of_getElem? (i := 1) rfl) rfl (v := .ref (ad 1 0)) rfl dX6_label_6 ?_
  refine lv_iload_n hx hb dX6_label_9 rfl (lv_at hl 1 rfl) ?_
  refine k_Vi (rest := []) (As := [.int p1]) ⟨hx, hb, hml, hown, hts⟩ hE hz hS hW (mtX5_labelOf l z G ad σ ν ρ lo 0 p1 _ h) (cwV 1 hts gX6_label_X5_labelOf rfl rfl rfl (by decide +kernel) ⟨Nat.le_of_ble_eq_true rfl, Nat.le_of_ble_eq_true rfl⟩) (r_recv hE hW 1 0 (show 0 < 2 by decide) (ci := 8) rfl rfl) rfl hl.1 rfl (Nat.le_of_ble_eq_true rfl) dX6_label_10 ⟨Nat.le_of_ble_eq_true rfl, Nat.le_of_ble_eq_true rfl⟩ (fun r1 S1 H locs hp hW hS => ?_)
  obtain ⟨rfl, h⟩ := hp
  exact W.iret (v := r1) hx hb hr (fun t ht _ => ⟨⟨_, (σ, ν, ρ, lo), rfl, ⟨rfl, h⟩, WP.at9 ht hW⟩, hS.F ht⟩) hS.2.2 dX6_label_13 (hlocks := hlocks)
set_option maxHeartbeats 4000000 in
set_option maxRecDepth 100000 in
theorem nmtX6_parent (l : Launch) (z : Nat) (G : Gl) (ad : Nat → Nat → Nat) (σ : SG) (ν : NU) (ρ : RH) (lo : Int64) (p1 : Int32) (post : Int32 → Prop) (h : wpX6_parent σ ν p1 post (fun _ => False)) : Met l yX6_parent wsX6_parent ({ frames := 2, cells := 0, slots := 0, locals := 42 } : Room) (Pcs z G ad (σ, ν, ρ, lo) [.ref (ad 0 0), .int p1]) (Qis z G ad (fun r S1 => S1 = (σ, ν, ρ, lo) ∧ post r)) 0 0 (Az z) := by
  refine Met.ofW (cc := cX6_parent) (maxL := 2) (ret := (some .int)) (by decide) rfl ?_
  intro p e s m args below meth c s₁ B hml hv
  obtain ⟨rfl, hz, hW, hE⟩ := hv
  have hx := B.exec
  have hb := B.bytes
  have hr := B.returns
  have hts := atoms_spec (ws := wsX6_parent) B.pre
  have hown : s.vm.findClass RX6 = some m.cls := findClass_of_methodNamed B.named
  have hlocks := B.notSynchronized
  have X : Cx p l e s m _ below meth c cX6_parent (some .int) 2 RX6 wsX6_parent z G := ⟨hx, hb, hr, hml, hown, hts, hlocks, hE, hz⟩
  have hS : va_S (Az z) s.heap s.heap [] := va_S.rf
  have hl := lv_entry [.ref (ad 0 0), .int p1] (n := 2) (Nat.le_of_ble_eq_true rfl)
  rw [lg_entry_eq]
  generalize (lg_sl [.ref (ad 0 0), .int p1] ++ List.replicate (2 - (lg_sl [.ref (ad 0 0), .int p1]).length) Slot.unset).toArray = ls at hl ⊢
  have hl : lv_has ls 2 [(0, .ref (ad 0 0)), (1, .int p1)] := hl
  unfold wpX6_parent at h
  refine lv_aload_n hx hb dX6_parent_0 rfl (lv_at hl 0 rfl) ?_
  refine lv_iload_n hx hb dX6_parent_1 rfl (lv_at hl 1 rfl) ?_
  refine k_Vv (rest := []) (As := [.int p1]) ⟨hx, hb, hml, hown, hts⟩ hE hz hS hW (nmtX6_needProvision l z G ad σ ν ρ lo p1 _ h) (cwV 1 hts gX6_parent_X6_needProvision rfl rfl rfl (by decide +kernel) ⟨Nat.le_of_ble_eq_true rfl, Nat.le_of_ble_eq_true rfl⟩) (r_recv hE hW 0 0 rfl (ci := 9) rfl rfl) rfl hl.1 rfl (Nat.le_of_ble_eq_true rfl) dX6_parent_2 ⟨Nat.le_of_ble_eq_true rfl, Nat.le_of_ble_eq_true rfl⟩ (fun S1 H locs hp hW hS => ?_)
  obtain ⟨rfl, h⟩ := hp
  refine lv_aload_n hx hb dX6_parent_5 rfl (lv_at hl 0 rfl) ?_
  refine r_get (C := RX6) (T := TX6) (N := 8) (ci := 9) (fs := fl_0 ad ν ρ 0 (σ 0 0)) hx hb hts hown hE hW 0 0 rfl rfl rfl (fun w h => List.mem_cons_of_mem _ (List.mem_append_left _ (List.mem_append_left _ (List.mem_append_right _ h)))) 1 (by decide) (List.mem_of_getElem? (i := 1) rfl) rfl (v := .ref (ad 1 0)) rfl dX6_parent_6 ?_
  refine lv_iload_n hx hb dX6_parent_9 rfl (lv_at hl 1 rfl) ?_
  refine k_Vi (rest := []) (As := [.int p1]) ⟨hx, hb, hml, hown, hts⟩ hE hz hS hW (mtX5_isThere l z G ad σ ν ρ lo 0 p1 _ h) (cwV 1 hts gX6_parent_X5_isThere rfl rfl rfl (by decide +kernel) ⟨Nat.le_of_ble_eq_true rfl, Nat.le_of_ble_eq_true rfl⟩) (r_recv hE hW 1 0 (show 0 < 2 by decide) (ci := 8) rfl rfl) rfl hl.1 rfl (Nat.le_of_ble_eq_true rfl) dX6_parent_10 ⟨Nat.le_of_ble_eq_true rfl, Nat.le_of_ble_eq_true rfl⟩ (fun r1 S1 H locs hp hW hS => ?_)
  obtain ⟨rfl, h⟩ := hp
  refine r_if_eq hx hb rfl (tgt := 27) dX6_parent_13 (by decide) (fun c2 => ?_) (fun c2 => ?_)
  · have h := ite_t c2 h
    refine lv_iconst (v := (-1 : Int32)) hx hb dX6_parent_27 (by decide) ?_
    exact W.iret (v := (-1 : Int32)) hx hb hr (fun t ht _ => ⟨⟨_, (σ, ν, ρ, lo), rfl, ⟨rfl, h⟩, WP.at9 ht hW⟩, hS.F ht⟩) hS.2.2 dX6_parent_28 (hlocks := hlocks)
  · have h := ite_f c2 h
    refine lv_aload_n hx hb dX6_parent_16 rfl (lv_at hl 0 rfl) ?_
    refine r_get (C := RX6) (T := TX6) (N := 8) (ci := 9) (fs := fl_0 ad ν ρ 0 (σ 0 0)) hx hb hts hown hE hW 0 0 rfl rfl rfl (fun w h => List.mem_cons_of_mem _ (List.mem_append_left _ (List.mem_append_left _ (List.mem_append_right _ h)))) 1 (by decide) (List.mem_of_getElem? (i := 1) rfl) rfl (v := .ref (ad 1 0)) rfl dX6_parent_17 ?_
    refine lv_iload_n hx hb dX6_parent_20 rfl (lv_at hl 1 rfl) ?_
    refine k_Vi (rest := []) (As := [.int p1]) ⟨hx, hb, hml, hown, hts⟩ hE hz hS hW (mtX5_outerOf l z G ad σ ν ρ lo 0 p1 _ h) (cwV 1 hts gX6_parent_X5_outerOf rfl rfl rfl (by decide +kernel) ⟨Nat.le_of_ble_eq_true rfl, Nat.le_of_ble_eq_true rfl⟩) (r_recv hE hW 1 0 (show 0 < 2 by decide) (ci := 8) rfl rfl) rfl hl.1 rfl (Nat.le_of_ble_eq_true rfl) dX6_parent_21 ⟨Nat.le_of_ble_eq_true rfl, Nat.le_of_ble_eq_true rfl⟩ (fun r3 S1 H locs hp hW hS => ?_)
    obtain ⟨rfl, h⟩ := hp
    refine lv_goto (tgt := 28) hx hb dX6_parent_24 (by decide) ?_
    exact W.iret (v := r3) hx hb hr (fun t ht _ => ⟨⟨_, (σ, ν, ρ, lo), rfl, ⟨rfl, h⟩, WP.at9 ht hW⟩, hS.F ht⟩) hS.2.2 dX6_parent_28 (hlocks := hlocks)
set_option maxHeartbeats 4000000 in
set_option maxRecDepth 100000 in
theorem nmtX6_words (l : Launch) (z : Nat) (G : Gl) (ad : Nat → Nat → Nat) (σ : SG) (ν : NU) (ρ : RH) (lo : Int64) (p1 : Int32) (post : Int32 → Prop) (h : wpX6_words σ ν p1 post (fun _ => False)) : Met l yX6_words wsX6_words ({ frames := 3, cells := 0, slots := 0, locals := 63 } : Room) (Pcs z G ad (σ, ν, ρ, lo) [.ref (ad 0 0), .int p1]) (Qis z G ad (fun r S1 => S1 = (σ, ν, ρ, lo) ∧ post r)) 0 0 (Az z) := by
  refine Met.ofW (cc := cX6_words) (maxL := 2) (ret := (some .int)) (by decide) rfl ?_
  intro p e s m args below meth c s₁ B hml hv
  obtain ⟨rfl, hz, hW, hE⟩ := hv
  have hx := B.exec
  have hb := B.bytes
  have hr := B.returns
  have hts := atoms_spec (ws := wsX6_words) B.pre
  have hown : s.vm.findClass RX6 = some m.cls := findClass_of_methodNamed B.named
  have hlocks := B.notSynchronized
  have X : Cx p l e s m _ below meth c cX6_words (some .int) 2 RX6 wsX6_words z G := ⟨hx, hb, hr, hml, hown, hts, hlocks, hE, hz⟩
  have hS : va_S (Az z) s.heap s.heap [] := va_S.rf
  have hl := lv_entry [.ref (ad 0 0), .int p1] (n := 2) (Nat.le_of_ble_eq_true rfl)
  rw [lg_entry_eq]
  generalize (lg_sl [.ref (ad 0 0), .int p1] ++ List.replicate (2 - (lg_sl [.ref (ad 0 0), .int p1]).length) Slot.unset).toArray = ls at hl ⊢
  have hl : lv_has ls 2 [(0, .ref (ad 0 0)), (1, .int p1)] := hl
  unfold wpX6_words at h
  refine lv_aload_n hx hb dX6_words_0 rfl (lv_at hl 0 rfl) ?_
  refine lv_iload_n hx hb dX6_words_1 rfl (lv_at hl 1 rfl) ?_
  refine k_Vv (rest := []) (As := [.int p1]) ⟨hx, hb, hml, hown, hts⟩ hE hz hS hW (nmtX6_needProvision l z G ad σ ν ρ lo p1 _ h) (cwV 1 hts gX6_words_X6_needProvision rfl rfl rfl (by decide +kernel) ⟨Nat.le_of_ble_eq_true rfl, Nat.le_of_ble_eq_true rfl⟩) (r_recv hE hW 0 0 rfl (ci := 9) rfl rfl) rfl hl.1 rfl (Nat.le_of_ble_eq_true rfl) dX6_words_2 ⟨Nat.le_of_ble_eq_true rfl, Nat.le_of_ble_eq_true rfl⟩ (fun S1 H locs hp hW hS => ?_)
  obtain ⟨rfl, h⟩ := hp
  refine lv_aload_n hx hb dX6_words_5 rfl (lv_at hl 0 rfl) ?_
  refine r_get (C := RX6) (T := TX6) (N := 8) (ci := 9) (fs := fl_0 ad ν ρ 0 (σ 0 0)) hx hb hts hown hE hW 0 0 rfl rfl rfl (fun w h => List.mem_cons_of_mem _ (List.mem_append_left _ (List.mem_append_left _ (List.mem_append_left _ (List.mem_append_right _ h))))) 1 (by decide) (List.mem_of_getElem? (i := 1) rfl) rfl (v := .ref (ad 1 0)) rfl dX6_words_6 ?_
  refine lv_iload_n hx hb dX6_words_9 rfl (lv_at hl 1 rfl) ?_
  refine k_Vi (rest := []) (As := [.int p1]) ⟨hx, hb, hml, hown, hts⟩ hE hz hS hW (mtX5_countOf l z G ad σ ν ρ lo 0 p1 _ h) (cwV 1 hts gX6_words_X5_countOf rfl rfl rfl (by decide +kernel) ⟨Nat.le_of_ble_eq_true rfl, Nat.le_of_ble_eq_true rfl⟩) (r_recv hE hW 1 0 (show 0 < 2 by decide) (ci := 8) rfl rfl) rfl hl.1 rfl (Nat.le_of_ble_eq_true rfl) dX6_words_10 ⟨Nat.le_of_ble_eq_true rfl, Nat.le_of_ble_eq_true rfl⟩ (fun r1 S1 H locs hp hW hS => ?_)
  obtain ⟨rfl, h⟩ := hp
  exact W.iret (v := r1) hx hb hr (fun t ht _ => ⟨⟨_, (σ, ν, ρ, lo), rfl, ⟨rfl, h⟩, WP.at9 ht hW⟩, hS.F ht⟩) hS.2.2 dX6_words_13 (hlocks := hlocks)
set_option maxHeartbeats 4000000 in
set_option maxRecDepth 100000 in
theorem nmtX6_wordAt (l : Launch) (z : Nat) (G : Gl) (ad : Nat → Nat → Nat) (σ : SG) (ν : NU) (ρ : RH) (lo : Int64) (p1 : Int32) (p2 : Int32) (post : Int32 → Prop) (h : wpX6_wordAt σ ν p1 p2 post (fun _ => False)) : Met l yX6_wordAt wsX6_wordAt ({ frames := 4, cells := 0, slots := 0, locals := 85 } : Room) (Pcs z G ad (σ, ν, ρ, lo) [.ref (ad 0 0), .int p1, .int p2]) (Qis z G ad (fun r S1 => S1 = (σ, ν, ρ, lo) ∧ post r)) 0 0 (Az z) := by
  refine Met.ofW (cc := cX6_wordAt) (maxL := 3) (ret := (some .int)) (by decide) rfl ?_
  intro p e s m args below meth c s₁ B hml hv
  obtain ⟨rfl, hz, hW, hE⟩ := hv
  have hx := B.exec
  have hb := B.bytes
  have hr := B.returns
  have hts := atoms_spec (ws := wsX6_wordAt) B.pre
  have hown : s.vm.findClass RX6 = some m.cls := findClass_of_methodNamed B.named
  have hlocks := B.notSynchronized
  have X : Cx p l e s m _ below meth c cX6_wordAt (some .int) 3 RX6 wsX6_wordAt z G := ⟨hx, hb, hr, hml, hown, hts, hlocks, hE, hz⟩
  have hS : va_S (Az z) s.heap s.heap [] := va_S.rf
  have hl := lv_entry [.ref (ad 0 0), .int p1, .int p2] (n := 3) (Nat.le_of_ble_eq_true rfl)
  rw [lg_entry_eq]
  generalize (lg_sl [.ref (ad 0 0), .int p1, .int p2] ++ List.replicate (3 - (lg_sl [.ref (ad 0 0), .int p1, .int p2]).length) Slot.unset).toArray = ls at hl ⊢
  have hl : lv_has ls 3 [(0, .ref (ad 0 0)), (1, .int p1), (2, .int p2)] := hl
  unfold wpX6_wordAt at h
  refine lv_aload_n hx hb dX6_wordAt_0 rfl (lv_at hl 0 rfl) ?_
  refine lv_iload_n hx hb dX6_wordAt_1 rfl (lv_at hl 1 rfl) ?_
  refine lv_iload_n hx hb dX6_wordAt_2 rfl (lv_at hl 2 rfl) ?_
  refine k_Vv (rest := []) (As := [.int p1, .int p2]) ⟨hx, hb, hml, hown, hts⟩ hE hz hS hW (nmtX6_needWord l z G ad σ ν ρ lo p1 p2 _ h) (cwV 2 hts gX6_wordAt_X6_needWord rfl rfl rfl (by decide +kernel) ⟨Nat.le_of_ble_eq_true rfl, Nat.le_of_ble_eq_true rfl⟩) (r_recv hE hW 0 0 rfl (ci := 9) rfl rfl) rfl hl.1 rfl (Nat.le_of_ble_eq_true rfl) dX6_wordAt_3 ⟨Nat.le_of_ble_eq_true rfl, Nat.le_of_ble_eq_true rfl⟩ (fun S1 H locs hp hW hS => ?_)
  obtain ⟨rfl, h⟩ := hp
  refine lv_aload_n hx hb dX6_wordAt_6 rfl (lv_at hl 0 rfl) ?_
  refine r_get (C := RX6) (T := TX6) (N := 8) (ci := 9) (fs := fl_0 ad ν ρ 0 (σ 0 0)) hx hb hts hown hE hW 0 0 rfl rfl rfl (fun w h => List.mem_cons_of_mem _ (List.mem_append_left _ (List.mem_append_left _ (List.mem_append_left _ (List.mem_append_right _ h))))) 1 (by decide) (List.mem_of_getElem? (i := 1) rfl) rfl (v := .ref (ad 1 0)) rfl dX6_wordAt_7 ?_
  refine lv_iload_n hx hb dX6_wordAt_10 rfl (lv_at hl 1 rfl) ?_
  refine lv_iload_n hx hb dX6_wordAt_11 rfl (lv_at hl 2 rfl) ?_
  refine k_Vi (rest := []) (As := [.int p1, .int p2]) ⟨hx, hb, hml, hown, hts⟩ hE hz hS hW (mtX5_readAt l z G ad σ ν ρ lo 0 p1 p2 _ h) (cwV 2 hts gX6_wordAt_X5_readAt rfl rfl rfl (by decide +kernel) ⟨Nat.le_of_ble_eq_true rfl, Nat.le_of_ble_eq_true rfl⟩) (r_recv hE hW 1 0 (show 0 < 2 by decide) (ci := 8) rfl rfl) rfl hl.1 rfl (Nat.le_of_ble_eq_true rfl) dX6_wordAt_12 ⟨Nat.le_of_ble_eq_true rfl, Nat.le_of_ble_eq_true rfl⟩ (fun r1 S1 H locs hp hW hS => ?_)
  obtain ⟨rfl, h⟩ := hp
  exact W.iret (v := r1) hx hb hr (fun t ht _ => ⟨⟨_, (σ, ν, ρ, lo), rfl, ⟨rfl, h⟩, WP.at9 ht hW⟩, hS.F ht⟩) hS.2.2 dX6_wordAt_15 (hlocks := hlocks)
set_option maxHeartbeats 4000000 in
set_option maxRecDepth 100000 in
theorem nmtX6_wordAnew (l : Launch) (z : Nat) (G : Gl) (ad : Nat → Nat → Nat) (σ : SG) (ν : NU) (ρ : RH) (lo : Int64) (p1 : Int32) (p2 : Int32) (post : Int32 → SG → Prop) (h : wpX6_wordAnew σ ν p1 p2 post (fun _ _ => False)) : Met l yX6_wordAnew wsX6_wordAnew ({ frames := 5, cells := 0, slots := 0, locals := 131 } : Room) (Pcs z G ad (σ, ν, ρ, lo) [.ref (ad 0 0), .int p1, .int p2]) (Qis z G ad (fun r S1 => ∃ t : SG, S1 = (t, ν, ρ, lo) ∧ post r t)) 0 0 (Az z) := by
  refine Met.ofW (cc := cX6_wordAnew) (maxL := 3) (ret := (some .int)) (by decide) rfl ?_
  intro p e s m args below meth c s₁ B hml hv
  obtain ⟨rfl, hz, hW, hE⟩ := hv
  have hx := B.exec
  have hb := B.bytes
  have hr := B.returns
  have hts := atoms_spec (ws := wsX6_wordAnew) B.pre
  have hown : s.vm.findClass RX6 = some m.cls := findClass_of_methodNamed B.named
  have hlocks := B.notSynchronized
  have X : Cx p l e s m _ below meth c cX6_wordAnew (some .int) 3 RX6 wsX6_wordAnew z G := ⟨hx, hb, hr, hml, hown, hts, hlocks, hE, hz⟩
  have hS : va_S (Az z) s.heap s.heap [] := va_S.rf
  have hl := lv_entry [.ref (ad 0 0), .int p1, .int p2] (n := 3) (Nat.le_of_ble_eq_true rfl)
  rw [lg_entry_eq]
  generalize (lg_sl [.ref (ad 0 0), .int p1, .int p2] ++ List.replicate (3 - (lg_sl [.ref (ad 0 0), .int p1, .int p2]).length) Slot.unset).toArray = ls at hl ⊢
  have hl : lv_has ls 3 [(0, .ref (ad 0 0)), (1, .int p1), (2, .int p2)] := hl
  unfold wpX6_wordAnew at h
  refine lv_aload_n hx hb dX6_wordAnew_0 rfl (lv_at hl 0 rfl) ?_
  refine lv_iload_n hx hb dX6_wordAnew_1 rfl (lv_at hl 1 rfl) ?_
  refine k_Vv (rest := []) (As := [.int p1]) ⟨hx, hb, hml, hown, hts⟩ hE hz hS hW (nmtX6_needProvision l z G ad σ ν ρ lo p1 _ h) (cwV 1 hts gX6_wordAnew_X6_needProvision rfl rfl rfl (by decide +kernel) ⟨Nat.le_of_ble_eq_true rfl, Nat.le_of_ble_eq_true rfl⟩) (r_recv hE hW 0 0 rfl (ci := 9) rfl rfl) rfl hl.1 rfl (Nat.le_of_ble_eq_true rfl) dX6_wordAnew_2 ⟨Nat.le_of_ble_eq_true rfl, Nat.le_of_ble_eq_true rfl⟩ (fun S1 H locs hp hW hS => ?_)
  obtain ⟨rfl, h⟩ := hp
  refine lv_iload_n hx hb dX6_wordAnew_5 rfl (lv_at hl 2 rfl) ?_
  refine r_if_ge hx hb rfl (tgt := 19) dX6_wordAnew_6 (by decide) (fun c1 => ?_) (fun c1 => ?_)
  · have h := ite_f c1 h
    refine lv_aload_n hx hb dX6_wordAnew_19 rfl (lv_at hl 0 rfl) ?_
    refine r_get (C := RX6) (T := TX6) (N := 8) (ci := 9) (fs := fl_0 ad ν ρ 0 (σ 0 0)) hx hb hts hown hE hW 0 0 rfl rfl rfl (fun w h => List.mem_cons_of_mem _ (List.mem_append_left _ (List.mem_append_left _ (List.mem_append_left _ (List.mem_append_left _ (List.mem_append_left _ (List.mem_append_left _ (List.mem_append_right _ h)))))))) 1 (by decide) (List.mem_of_getElem? (i := 3) rfl) rfl (v := .ref (ad 1 0)) rfl dX6_wordAnew_20 ?_
    refine lv_iload_n hx hb dX6_wordAnew_23 rfl (lv_at hl 1 rfl) ?_
    refine lv_iload_n hx hb dX6_wordAnew_24 rfl (lv_at hl 2 rfl) ?_
    refine k_Vi (rest := []) (As := [.int p1, .int p2]) ⟨hx, hb, hml, hown, hts⟩ hE hz hS hW (mtX5_findAnew l z G ad σ ν ρ lo 0 p1 p2 _ h) (cwV 2 hts gX6_wordAnew_X5_findAnew rfl rfl rfl (by decide +kernel) ⟨Nat.le_of_ble_eq_true rfl, Nat.le_of_ble_eq_true rfl⟩) (r_recv hE hW 1 0 (show 0 < 2 by decide) (ci := 8) rfl rfl) rfl hl.1 rfl (Nat.le_of_ble_eq_true rfl) dX6_wordAnew_25 ⟨Nat.le_of_ble_eq_true rfl, Nat.le_of_ble_eq_true rfl⟩ (fun r2 S1 H locs hp hW hS => ?_)
    obtain ⟨t3, rfl, h⟩ := hp
    exact W.iret (v := r2) hx hb hr (fun t ht _ => ⟨⟨_, (t3, ν, ρ, lo), rfl, ⟨_, rfl, h⟩, WP.at9 ht hW⟩, hS.F ht⟩) hS.2.2 dX6_wordAnew_28 (hlocks := hlocks)
  · have h := ite_t c1 h
    exact False.elim h
set_option maxHeartbeats 4000000 in
set_option maxRecDepth 100000 in
theorem nmtX6_origin (l : Launch) (z : Nat) (G : Gl) (ad : Nat → Nat → Nat) (σ : SG) (ν : NU) (ρ : RH) (lo : Int64) (p1 : Int32) (p2 : Int32) (post : Int32 → Prop) (h : wpX6_origin σ ν p1 p2 post (fun _ => False)) : Met l yX6_origin wsX6_origin ({ frames := 4, cells := 0, slots := 0, locals := 85 } : Room) (Pcs z G ad (σ, ν, ρ, lo) [.ref (ad 0 0), .int p1, .int p2]) (Qis z G ad (fun r S1 => S1 = (σ, ν, ρ, lo) ∧ post r)) 0 0 (Az z) := by
  refine Met.ofW (cc := cX6_origin) (maxL := 3) (ret := (some .int)) (by decide) rfl ?_
  intro p e s m args below meth c s₁ B hml hv
  obtain ⟨rfl, hz, hW, hE⟩ := hv
  have hx := B.exec
  have hb := B.bytes
  have hr := B.returns
  have hts := atoms_spec (ws := wsX6_origin) B.pre
  have hown : s.vm.findClass RX6 = some m.cls := findClass_of_methodNamed B.named
  have hlocks := B.notSynchronized
  have X : Cx p l e s m _ below meth c cX6_origin (some .int) 3 RX6 wsX6_origin z G := ⟨hx, hb, hr, hml, hown, hts, hlocks, hE, hz⟩
  have hS : va_S (Az z) s.heap s.heap [] := va_S.rf
  have hl := lv_entry [.ref (ad 0 0), .int p1, .int p2] (n := 3) (Nat.le_of_ble_eq_true rfl)
  rw [lg_entry_eq]
  generalize (lg_sl [.ref (ad 0 0), .int p1, .int p2] ++ List.replicate (3 - (lg_sl [.ref (ad 0 0), .int p1, .int p2]).length) Slot.unset).toArray = ls at hl ⊢
  have hl : lv_has ls 3 [(0, .ref (ad 0 0)), (1, .int p1), (2, .int p2)] := hl
  unfold wpX6_origin at h
  refine lv_aload_n hx hb dX6_origin_0 rfl (lv_at hl 0 rfl) ?_
  refine lv_iload_n hx hb dX6_origin_1 rfl (lv_at hl 1 rfl) ?_
  refine lv_iload_n hx hb dX6_origin_2 rfl (lv_at hl 2 rfl) ?_
  refine k_Vv (rest := []) (As := [.int p1, .int p2]) ⟨hx, hb, hml, hown, hts⟩ hE hz hS hW (nmtX6_needWord l z G ad σ ν ρ lo p1 p2 _ h) (cwV 2 hts gX6_origin_X6_needWord rfl rfl rfl (by decide +kernel) ⟨Nat.le_of_ble_eq_true rfl, Nat.le_of_ble_eq_true rfl⟩) (r_recv hE hW 0 0 rfl (ci := 9) rfl rfl) rfl hl.1 rfl (Nat.le_of_ble_eq_true rfl) dX6_origin_3 ⟨Nat.le_of_ble_eq_true rfl, Nat.le_of_ble_eq_true rfl⟩ (fun S1 H locs hp hW hS => ?_)
  obtain ⟨rfl, h⟩ := hp
  refine lv_aload_n hx hb dX6_origin_6 rfl (lv_at hl 0 rfl) ?_
  refine r_get (C := RX6) (T := TX6) (N := 8) (ci := 9) (fs := fl_0 ad ν ρ 0 (σ 0 0)) hx hb hts hown hE hW 0 0 rfl rfl rfl (fun w h => List.mem_cons_of_mem _ (List.mem_append_left _ (List.mem_append_left _ (List.mem_append_left _ (List.mem_append_right _ h))))) 1 (by decide) (List.mem_of_getElem? (i := 1) rfl) rfl (v := .ref (ad 1 0)) rfl dX6_origin_7 ?_
  refine lv_iload_n hx hb dX6_origin_10 rfl (lv_at hl 1 rfl) ?_
  refine lv_iload_n hx hb dX6_origin_11 rfl (lv_at hl 2 rfl) ?_
  refine k_Vi (rest := []) (As := [.int p1, .int p2]) ⟨hx, hb, hml, hown, hts⟩ hE hz hS hW (mtX5_sourceAt l z G ad σ ν ρ lo 0 p1 p2 _ h) (cwV 2 hts gX6_origin_X5_sourceAt rfl rfl rfl (by decide +kernel) ⟨Nat.le_of_ble_eq_true rfl, Nat.le_of_ble_eq_true rfl⟩) (r_recv hE hW 1 0 (show 0 < 2 by decide) (ci := 8) rfl rfl) rfl hl.1 rfl (Nat.le_of_ble_eq_true rfl) dX6_origin_12 ⟨Nat.le_of_ble_eq_true rfl, Nat.le_of_ble_eq_true rfl⟩ (fun r1 S1 H locs hp hW hS => ?_)
  obtain ⟨rfl, h⟩ := hp
  exact W.iret (v := r1) hx hb hr (fun t ht _ => ⟨⟨_, (σ, ν, ρ, lo), rfl, ⟨rfl, h⟩, WP.at9 ht hW⟩, hS.F ht⟩) hS.2.2 dX6_origin_15 (hlocks := hlocks)
set_option maxHeartbeats 4000000 in
set_option maxRecDepth 100000 in
theorem nmtX6_refers (l : Launch) (z : Nat) (G : Gl) (ad : Nat → Nat → Nat) (σ : SG) (ν : NU) (ρ : RH) (lo : Int64) (p1 : Int32) (p2 : Int32) (post : Int32 → SG → NU → Prop) (h : wpX6_refers σ ν p1 p2 post (fun _ => False)) : Met l yX6_refers wsX6_refers ({ frames := 9, cells := 8, slots := 157, locals := 221 } : Room) (Pcs z G ad (σ, ν, ρ, lo) [.ref (ad 0 0), .int p1, .int p2]) (Qia z G (fun r S1 => ∃ (t : SG) (u : NU), S1.1 = (t, u, ρ, lo) ∧ Xt ad S1.2 ν u ∧ post r t u)) 8 157 (Az z) := by
  refine Met.ofW (cc := cX6_refers) (maxL := 5) (ret := (some .int)) (by decide) rfl ?_
  intro p e s m args below meth c s₁ B hml hv
  obtain ⟨rfl, hz, hW, hE⟩ := hv
  have hx := B.exec
  have hb := B.bytes
  have hr := B.returns
  have hts := atoms_spec (ws := wsX6_refers) B.pre
  have hown : s.vm.findClass RX6 = some m.cls := findClass_of_methodNamed B.named
  have hlocks := B.notSynchronized
  have X : Cx p l e s m _ below meth c cX6_refers (some .int) 5 RX6 wsX6_refers z G := ⟨hx, hb, hr, hml, hown, hts, hlocks, hE, hz⟩
  have hS : va_S (Az z) s.heap s.heap [] := va_S.rf
  have hl := lv_entry [.ref (ad 0 0), .int p1, .int p2] (n := 5) (Nat.le_of_ble_eq_true rfl)
  rw [lg_entry_eq]
  generalize (lg_sl [.ref (ad 0 0), .int p1, .int p2] ++ List.replicate (5 - (lg_sl [.ref (ad 0 0), .int p1, .int p2]).length) Slot.unset).toArray = ls at hl ⊢
  have hl : lv_has ls 5 [(0, .ref (ad 0 0)), (1, .int p1), (2, .int p2)] := hl
  unfold wpX6_refers at h
  refine lv_aload_n hx hb dX6_refers_0 rfl (lv_at hl 0 rfl) ?_
  refine lv_iload_n hx hb dX6_refers_1 rfl (lv_at hl 1 rfl) ?_
  refine lv_iload_n hx hb dX6_refers_2 rfl (lv_at hl 2 rfl) ?_
  refine k_Vv (rest := []) (As := [.int p1, .int p2]) ⟨hx, hb, hml, hown, hts⟩ hE hz hS hW (nmtX6_needWord l z G ad σ ν ρ lo p1 p2 _ h) (cwV 2 hts gX6_refers_X6_needWord rfl rfl rfl (by decide +kernel) ⟨Nat.le_of_ble_eq_true rfl, Nat.le_of_ble_eq_true rfl⟩) (r_recv hE hW 0 0 rfl (ci := 9) rfl rfl) rfl hl.1 rfl (Nat.le_of_ble_eq_true rfl) dX6_refers_3 ⟨Nat.le_of_ble_eq_true rfl, Nat.le_of_ble_eq_true rfl⟩ (fun S1 H locs hp hW hS => ?_)
  obtain ⟨rfl, h⟩ := hp
  refine lv_aload_n hx hb dX6_refers_6 rfl (lv_at hl 0 rfl) ?_
  refine r_get (C := RX6) (T := TX6) (N := 8) (ci := 9) (fs := fl_0 ad ν ρ 0 (σ 0 0)) hx hb hts hown hE hW 0 0 rfl rfl rfl (fun w h => List.mem_cons_of_mem _ (List.mem_append_left _ (List.mem_append_left _ (List.mem_append_left _ (List.mem_append_left _ (List.mem_append_left _ (List.mem_append_left _ (List.mem_append_left _ (List.mem_append_left _ (List.mem_append_right _ h)))))))))) 1 (by decide) (List.mem_of_getElem? (i := 1) rfl) rfl (v := .ref (ad 1 0)) rfl dX6_refers_7 ?_
  refine lv_iload_n hx hb dX6_refers_10 rfl (lv_at hl 1 rfl) ?_
  refine lv_iload_n hx hb dX6_refers_11 rfl (lv_at hl 2 rfl) ?_
  refine k_Vi (rest := []) (As := [.int p1, .int p2]) ⟨hx, hb, hml, hown, hts⟩ hE hz hS hW (mtX5_readAt l z G ad σ ν ρ lo 0 p1 p2 _ h) (cwV 2 hts gX6_refers_X5_readAt rfl rfl rfl (by decide +kernel) ⟨Nat.le_of_ble_eq_true rfl, Nat.le_of_ble_eq_true rfl⟩) (r_recv hE hW 1 0 (show 0 < 2 by decide) (ci := 8) rfl rfl) rfl hl.1 rfl (Nat.le_of_ble_eq_true rfl) dX6_refers_12 ⟨Nat.le_of_ble_eq_true rfl, Nat.le_of_ble_eq_true rfl⟩ (fun r1 S1 H locs hp hW hS => ?_)
  obtain ⟨rfl, h⟩ := hp
  refine lv_istore_n (lv' := [(3, .int r1), (0, .ref (ad 0 0)), (1, .int p1), (2, .int p2)]) hx hb dX6_refers_15 rfl hl (by decide) rfl (fun ls hl => ?_)
  refine lv_iload_n hx hb dX6_refers_16 rfl (lv_at hl 0 rfl) ?_
  refine lv_bipush (v := (100 : Int32)) hx hb dX6_refers_17 (by decide) ?_
  refine r_icmp_ge hx hb rfl (show (100 : Int32).toInt = 100 by decide) (tgt := 24) dX6_refers_19 (by decide) (fun c2 => ?_) (fun c2 => ?_)
  · have h := ite_f c2 h
    refine lv_iload_n hx hb dX6_refers_24 rfl (lv_at hl 0 rfl) ?_
    refine lv_bipush (v := (120 : Int32)) hx hb dX6_refers_25 (by decide) ?_
    refine r_icmp_ge hx hb rfl (show (120 : Int32).toInt = 120 by decide) (tgt := 42) dX6_refers_27 (by decide) (fun c3 => ?_) (fun c3 => ?_)
    · have h := ite_f c3 h
      refine lv_aload_n hx hb dX6_refers_42 rfl (lv_at hl 1 rfl) ?_
      refine r_get (C := RX6) (T := TX6) (N := 8) (ci := 9) (fs := fl_0 ad ν ρ 0 (σ 0 0)) hx hb hts hown hE hW 0 0 rfl rfl rfl (fun w h => List.mem_cons_of_mem _ (List.mem_append_left _ (List.mem_append_left _ (List.mem_append_left _ (List.mem_append_left _ (List.mem_append_left _ (List.mem_append_left _ (List.mem_append_left _ (List.mem_append_left _ (List.mem_append_right _ h)))))))))) 1 (by decide) (List.mem_of_getElem? (i := 1) rfl) rfl (v := .ref (ad 1 0)) rfl dX6_refers_43 ?_
      refine lv_aload_n hx hb dX6_refers_46 rfl (lv_at hl 1 rfl) ?_
      refine r_get (C := RX6) (T := TX6) (N := 8) (ci := 9) (fs := fl_0 ad ν ρ 0 (σ 0 0)) hx hb hts hown hE hW 0 0 rfl rfl rfl (fun w h => List.mem_cons_of_mem _ (List.mem_append_left _ (List.mem_append_left _ (List.mem_append_left _ (List.mem_append_left _ (List.mem_append_left _ (List.mem_append_left _ (List.mem_append_left _ (List.mem_append_left _ (List.mem_append_right _ h)))))))))) 1 (by decide) (List.mem_of_getElem? (i := 1) rfl) rfl (v := .ref (ad 1 0)) rfl dX6_refers_47 ?_
      refine lv_iload_n hx hb dX6_refers_50 rfl (lv_at hl 2 rfl) ?_
      refine lv_iload_n hx hb dX6_refers_51 rfl (lv_at hl 3 rfl) ?_
      refine k_Vi (rest := [.ref (ad 1 0)]) (As := [.int p1, .int p2]) ⟨hx, hb, hml, hown, hts⟩ hE hz hS hW (mtX5_sourceAt l z G ad σ ν ρ lo 0 p1 p2 _ h) (cwV 2 hts gX6_refers_X5_sourceAt rfl rfl rfl (by decide +kernel) ⟨Nat.le_of_ble_eq_true rfl, Nat.le_of_ble_eq_true rfl⟩) (r_recv hE hW 1 0 (show 0 < 2 by decide) (ci := 8) rfl rfl) rfl hl.1 rfl (Nat.le_of_ble_eq_true rfl) dX6_refers_52 ⟨Nat.le_of_ble_eq_true rfl, Nat.le_of_ble_eq_true rfl⟩ (fun r4 S1 H locs hp hW hS => ?_)
      obtain ⟨rfl, h⟩ := hp
      refine k_Vi (rest := []) (As := [.int r4]) ⟨hx, hb, hml, hown, hts⟩ hE hz hS hW (mtX5_beginningOf l z G ad σ ν ρ lo 0 r4 _ h) (cwV 1 hts gX6_refers_X5_beginningOf rfl rfl rfl (by decide +kernel) ⟨Nat.le_of_ble_eq_true rfl, Nat.le_of_ble_eq_true rfl⟩) (r_recv hE hW 1 0 (show 0 < 2 by decide) (ci := 8) rfl rfl) rfl hl.1 rfl (Nat.le_of_ble_eq_true rfl) dX6_refers_55 ⟨Nat.le_of_ble_eq_true rfl, Nat.le_of_ble_eq_true rfl⟩ (fun r5 S1 H locs hp hW hS => ?_)
      obtain ⟨rfl, h⟩ := hp
      refine lv_istore (lv' := [(4, .int r5), (3, .int r1), (0, .ref (ad 0 0)), (1, .int p1), (2, .int p2)]) hx hb dX6_refers_58 hl (by decide) rfl (fun ls hl => ?_)
      refine lv_aload_n hx hb dX6_refers_60 rfl (lv_at hl 2 rfl) ?_
      refine r_get (C := RX6) (T := TX6) (N := 8) (ci := 9) (fs := fl_0 ad ν ρ 0 (σ 0 0)) hx hb hts hown hE hW 0 0 rfl rfl rfl (fun w h => List.mem_cons_of_mem _ (List.mem_append_left _ (List.mem_append_left _ (List.mem_append_left _ (List.mem_append_left _ (List.mem_append_left _ (List.mem_append_left _ (List.mem_append_left _ (List.mem_append_left _ (List.mem_append_right _ h)))))))))) 2 (by decide) (List.mem_of_getElem? (i := 2) rfl) rfl (v := .ref (ad 1 1)) rfl dX6_refers_61 ?_
      refine lv_iload hx hb dX6_refers_64 (lv_at hl 0 rfl) ?_
      refine lv_aload_n hx hb dX6_refers_66 rfl (lv_at hl 2 rfl) ?_
      refine r_get (C := RX6) (T := TX6) (N := 8) (ci := 9) (fs := fl_0 ad ν ρ 0 (σ 0 0)) hx hb hts hown hE hW 0 0 rfl rfl rfl (fun w h => List.mem_cons_of_mem _ (List.mem_append_left _ (List.mem_append_left _ (List.mem_append_left _ (List.mem_append_left _ (List.mem_append_left _ (List.mem_append_left _ (List.mem_append_left _ (List.mem_append_left _ (List.mem_append_right _ h)))))))))) 1 (by decide) (List.mem_of_getElem? (i := 1) rfl) rfl (v := .ref (ad 1 0)) rfl dX6_refers_67 ?_
      refine r_getN (C := RX5) (T := TX5) (N := 13) (ci := 8) (fs := fl_1 ad ν ρ 0 (σ 1 0)) (own := RX6) hx hb hts hown hE hW 1 0 (show 0 < 2 by decide) rfl rfl (fun w h => List.mem_cons_of_mem _ (List.mem_append_left _ (List.mem_append_left _ (List.mem_append_left _ (List.mem_append_left _ (List.mem_append_left _ (List.mem_append_left _ (List.mem_append_left _ (List.mem_append_right _ h))))))))) 11 (by decide) (host := "Amendmark") (List.mem_of_getElem? (i := 1) rfl) rfl (v := .int (σ 1 0 11)) rfl dX6_refers_70 ?_
      refine lv_aload_n hx hb dX6_refers_73 rfl (lv_at hl 2 rfl) ?_
      refine r_get (C := RX6) (T := TX6) (N := 8) (ci := 9) (fs := fl_0 ad ν ρ 0 (σ 0 0)) hx hb hts hown hE hW 0 0 rfl rfl rfl (fun w h => List.mem_cons_of_mem _ (List.mem_append_left _ (List.mem_append_left _ (List.mem_append_left _ (List.mem_append_left _ (List.mem_append_left _ (List.mem_append_left _ (List.mem_append_left _ (List.mem_append_left _ (List.mem_append_right _ h)))))))))) 1 (by decide) (List.mem_of_getElem? (i := 1) rfl) rfl (v := .ref (ad 1 0)) rfl dX6_refers_74 ?_
      refine r_getN (C := RX5) (T := TX5) (N := 13) (ci := 8) (fs := fl_1 ad ν ρ 0 (σ 1 0)) (own := RX6) hx hb hts hown hE hW 1 0 (show 0 < 2 by decide) rfl rfl (fun w h => List.mem_cons_of_mem _ (List.mem_append_left _ (List.mem_append_left _ (List.mem_append_left _ (List.mem_append_left _ (List.mem_append_left _ (List.mem_append_left _ (List.mem_append_left _ (List.mem_append_right _ h))))))))) 12 (by decide) (host := "Amendmark") (List.mem_of_getElem? (i := 2) rfl) rfl (v := .int (σ 1 0 12)) rfl dX6_refers_77 ?_
      refine k_Vv (rest := []) (As := [.int r5, .int (σ 1 0 11), .int (σ 1 0 12)]) ⟨hx, hb, hml, hown, hts⟩ hE hz hS hW (mtX5_turnTo l z G ad σ ν ρ lo 1 r5 (σ 1 0 11) (σ 1 0 12) _ h) (cwV 3 hts gX6_refers_X5_turnTo rfl rfl rfl (by decide +kernel) ⟨Nat.le_of_ble_eq_true rfl, Nat.le_of_ble_eq_true rfl⟩) (r_recv hE hW 1 1 (show 1 < 2 by decide) (ci := 8) rfl rfl) rfl hl.1 rfl (Nat.le_of_ble_eq_true rfl) dX6_refers_80 ⟨Nat.le_of_ble_eq_true rfl, Nat.le_of_ble_eq_true rfl⟩ (fun S1 H locs hp hW hS => ?_)
      obtain ⟨t6, rfl, h⟩ := hp
      refine lv_aload_n hx hb dX6_refers_83 rfl (lv_at hl 2 rfl) ?_
      refine r_get (C := RX6) (T := TX6) (N := 8) (ci := 9) (fs := fl_0 ad ν ρ 0 (t6 0 0)) hx hb hts hown hE hW 0 0 rfl rfl rfl (fun w h => List.mem_cons_of_mem _ (List.mem_append_left _ (List.mem_append_left _ (List.mem_append_left _ (List.mem_append_left _ (List.mem_append_left _ (List.mem_append_left _ (List.mem_append_left _ (List.mem_append_left _ (List.mem_append_right _ h)))))))))) 2 (by decide) (List.mem_of_getElem? (i := 2) rfl) rfl (v := .ref (ad 1 1)) rfl dX6_refers_84 ?_
      refine lv_aload_n hx hb dX6_refers_87 rfl (lv_at hl 2 rfl) ?_
      refine r_get (C := RX6) (T := TX6) (N := 8) (ci := 9) (fs := fl_0 ad ν ρ 0 (t6 0 0)) hx hb hts hown hE hW 0 0 rfl rfl rfl (fun w h => List.mem_cons_of_mem _ (List.mem_append_left _ (List.mem_append_left _ (List.mem_append_left _ (List.mem_append_left _ (List.mem_append_left _ (List.mem_append_left _ (List.mem_append_left _ (List.mem_append_left _ (List.mem_append_right _ h)))))))))) 0 (by decide) (List.mem_of_getElem? (i := 3) rfl) rfl (v := .ref (ad 7 0)) rfl dX6_refers_88 ?_
      refine kA_Vv (rest := []) (As := [.ref (ad 7 0)]) ⟨hx, hb, hml, hown, hts⟩ hE hz hS hW (mtX5_build l z G ad t6 ν ρ lo 1 0 _ h) (cwV 1 hts gX6_refers_X5_build rfl rfl rfl (by decide +kernel) ⟨Nat.le_of_ble_eq_true rfl, Nat.le_of_ble_eq_true rfl⟩) (r_recv hE hW 1 1 (show 1 < 2 by decide) (ci := 8) rfl rfl) rfl hl.1 rfl (Nat.le_of_ble_eq_true rfl) dX6_refers_91 ⟨Nat.le_of_ble_eq_true rfl, Nat.le_of_ble_eq_true rfl⟩ (fun S1 ad9 H locs hp hW hS => ?_)
      obtain ⟨t7, vv8, rfl, q10, h⟩ := hp
      have z11 : ad9 0 0 = ad 0 0 := (q10 0 0 (by decide) rfl).2
      have hl : lv_has ls 5 [(4, .int r5), (3, .int r1), (0, .ref (ad9 0 0)), (1, .int p1), (2, .int p2)] := by rw [z11]; exact hl
      refine lv_aload_n hx hb dX6_refers_94 rfl (lv_at hl 2 rfl) ?_
      refine r_get (C := RX6) (T := TX6) (N := 8) (ci := 9) (fs := fl_0 ad9 vv8 ρ 0 (t7 0 0)) hx hb hts hown hE hW 0 0 rfl rfl rfl (fun w h => List.mem_cons_of_mem _ (List.mem_append_left _ (List.mem_append_left _ (List.mem_append_left _ (List.mem_append_left _ (List.mem_append_left _ (List.mem_append_left _ (List.mem_append_left _ (List.mem_append_left _ (List.mem_append_right _ h)))))))))) 2 (by decide) (List.mem_of_getElem? (i := 2) rfl) rfl (v := .ref (ad9 1 1)) rfl dX6_refers_95 ?_
      refine lv_iload_n hx hb dX6_refers_98 rfl (lv_at hl 1 rfl) ?_
      refine lv_bipush (v := (120 : Int32)) hx hb dX6_refers_99 (by decide) ?_
      refine lv_isub hx hb dX6_refers_101 ?_
      refine k_Vi (rest := []) (As := [.int (r1 - ((120 : Int32)))]) ⟨hx, hb, hml, hown, hts⟩ hE hz hS hW (mtX5_labelOf l z G ad9 t7 vv8 ρ lo 1 (r1 - ((120 : Int32))) _ h) (cwV 1 hts gX6_refers_X5_labelOf rfl rfl rfl (by decide +kernel) ⟨Nat.le_of_ble_eq_true rfl, Nat.le_of_ble_eq_true rfl⟩) (r_recv hE hW 1 1 (show 1 < 2 by decide) (ci := 8) rfl rfl) rfl hl.1 rfl (Nat.le_of_ble_eq_true rfl) dX6_refers_102 ⟨Nat.le_of_ble_eq_true rfl, Nat.le_of_ble_eq_true rfl⟩ (fun r12 S1 H locs hp hW hS => ?_)
      obtain ⟨rfl, h⟩ := hp
      exact W.iret (v := r12) hx hb hr (fun t ht _ => ⟨⟨_, ((t7, vv8, ρ, lo), ad9), rfl, ⟨_, _, rfl, (Xt.tr Xt.rf q10), h⟩, WP.at9 ht hW⟩, hS.F ht⟩) hS.2.2 dX6_refers_105 (hlocks := hlocks)
    · have h := ite_t c3 h
      refine lv_aload_n hx hb dX6_refers_30 rfl (lv_at hl 1 rfl) ?_
      refine r_get (C := RX6) (T := TX6) (N := 8) (ci := 9) (fs := fl_0 ad ν ρ 0 (σ 0 0)) hx hb hts hown hE hW 0 0 rfl rfl rfl (fun w h => List.mem_cons_of_mem _ (List.mem_append_left _ (List.mem_append_left _ (List.mem_append_left _ (List.mem_append_left _ (List.mem_append_left _ (List.mem_append_left _ (List.mem_append_left _ (List.mem_append_left _ (List.mem_append_right _ h)))))))))) 1 (by decide) (List.mem_of_getElem? (i := 1) rfl) rfl (v := .ref (ad 1 0)) rfl dX6_refers_31 ?_
      refine lv_iload_n hx hb dX6_refers_34 rfl (lv_at hl 0 rfl) ?_
      refine lv_bipush (v := (100 : Int32)) hx hb dX6_refers_35 (by decide) ?_
      refine lv_isub hx hb dX6_refers_37 ?_
      refine k_Vi (rest := []) (As := [.int (r1 - ((100 : Int32)))]) ⟨hx, hb, hml, hown, hts⟩ hE hz hS hW (mtX5_labelOf l z G ad σ ν ρ lo 0 (r1 - ((100 : Int32))) _ h) (cwV 1 hts gX6_refers_X5_labelOf rfl rfl rfl (by decide +kernel) ⟨Nat.le_of_ble_eq_true rfl, Nat.le_of_ble_eq_true rfl⟩) (r_recv hE hW 1 0 (show 0 < 2 by decide) (ci := 8) rfl rfl) rfl hl.1 rfl (Nat.le_of_ble_eq_true rfl) dX6_refers_38 ⟨Nat.le_of_ble_eq_true rfl, Nat.le_of_ble_eq_true rfl⟩ (fun r13 S1 H locs hp hW hS => ?_)
      obtain ⟨rfl, h⟩ := hp
      refine W.widen (k := 8) (n := 157) (Nat.le_of_ble_eq_true rfl) (Nat.le_of_ble_eq_true rfl) ?_
      exact W.iret (v := r13) hx hb hr (fun t ht _ => ⟨⟨_, ((σ, ν, ρ, lo), ad), rfl, ⟨_, _, rfl, Xt.rf, h⟩, WP.at9 ht hW⟩, hS.F ht⟩) hS.2.2 dX6_refers_41 (hlocks := hlocks)
  · have h := ite_t c2 h
    refine lv_iconst (v := (-1 : Int32)) hx hb dX6_refers_22 (by decide) ?_
    refine W.widen (k := 8) (n := 157) (Nat.le_of_ble_eq_true rfl) (Nat.le_of_ble_eq_true rfl) ?_
    exact W.iret (v := (-1 : Int32)) hx hb hr (fun t ht _ => ⟨⟨_, ((σ, ν, ρ, lo), ad), rfl, ⟨_, _, rfl, Xt.rf, h⟩, WP.at9 ht hW⟩, hS.F ht⟩) hS.2.2 dX6_refers_23 (hlocks := hlocks)
set_option maxHeartbeats 4000000 in
set_option maxRecDepth 100000 in
theorem nmtX6_state (l : Launch) (z : Nat) (G : Gl) (ad : Nat → Nat → Nat) (σ : SG) (ν : NU) (ρ : RH) (lo : Int64) (p1 : Int32) (post : Int32 → Prop) (h : wpX6_state σ ν p1 post (fun _ => False)) : Met l yX6_state wsX6_state ({ frames := 4, cells := 0, slots := 0, locals := 85 } : Room) (Pcs z G ad (σ, ν, ρ, lo) [.ref (ad 0 0), .int p1]) (Qis z G ad (fun r S1 => S1 = (σ, ν, ρ, lo) ∧ post r)) 0 0 (Az z) := by
  refine Met.ofW (cc := cX6_state) (maxL := 2) (ret := (some .int)) (by decide) rfl ?_
  intro p e s m args below meth c s₁ B hml hv
  obtain ⟨rfl, hz, hW, hE⟩ := hv
  have hx := B.exec
  have hb := B.bytes
  have hr := B.returns
  have hts := atoms_spec (ws := wsX6_state) B.pre
  have hown : s.vm.findClass RX6 = some m.cls := findClass_of_methodNamed B.named
  have hlocks := B.notSynchronized
  have X : Cx p l e s m _ below meth c cX6_state (some .int) 2 RX6 wsX6_state z G := ⟨hx, hb, hr, hml, hown, hts, hlocks, hE, hz⟩
  have hS : va_S (Az z) s.heap s.heap [] := va_S.rf
  have hl := lv_entry [.ref (ad 0 0), .int p1] (n := 2) (Nat.le_of_ble_eq_true rfl)
  rw [lg_entry_eq]
  generalize (lg_sl [.ref (ad 0 0), .int p1] ++ List.replicate (2 - (lg_sl [.ref (ad 0 0), .int p1]).length) Slot.unset).toArray = ls at hl ⊢
  have hl : lv_has ls 2 [(0, .ref (ad 0 0)), (1, .int p1)] := hl
  unfold wpX6_state at h
  refine lv_aload_n hx hb dX6_state_0 rfl (lv_at hl 0 rfl) ?_
  refine lv_iload_n hx hb dX6_state_1 rfl (lv_at hl 1 rfl) ?_
  refine k_Vr (rest := []) (As := [.int p1]) ⟨hx, hb, hml, hown, hts⟩ hE hz hS hW (nmtX6_needInstruction l z G ad σ ν ρ lo p1 _ h) (cwV 1 hts gX6_state_X6_needInstruction rfl rfl rfl (by decide +kernel) ⟨Nat.le_of_ble_eq_true rfl, Nat.le_of_ble_eq_true rfl⟩) (r_recv hE hW 0 0 rfl (ci := 9) rfl rfl) rfl hl.1 rfl (Nat.le_of_ble_eq_true rfl) dX6_state_2 ⟨Nat.le_of_ble_eq_true rfl, Nat.le_of_ble_eq_true rfl⟩ (fun r1 S1 H locs hp hW hS => ?_)
  obtain ⟨rfl, h⟩ := hp
  refine lv_pop hx hb dX6_state_5 rfl ?_
  refine lv_aload_n hx hb dX6_state_6 rfl (lv_at hl 0 rfl) ?_
  refine r_get (C := RX6) (T := TX6) (N := 8) (ci := 9) (fs := fl_0 ad ν ρ 0 (σ 0 0)) hx hb hts hown hE hW 0 0 rfl rfl rfl (fun w h => List.mem_cons_of_mem _ (List.mem_append_left _ (List.mem_append_left _ (List.mem_append_left _ (List.mem_append_right _ h))))) 1 (by decide) (List.mem_of_getElem? (i := 1) rfl) rfl (v := .ref (ad 1 0)) rfl dX6_state_7 ?_
  refine lv_iload_n hx hb dX6_state_10 rfl (lv_at hl 1 rfl) ?_
  refine k_Vi (rest := []) (As := [.int p1]) ⟨hx, hb, hml, hown, hts⟩ hE hz hS hW (mtX5_stateOf l z G ad σ ν ρ lo 0 p1 _ h) (cwV 1 hts gX6_state_X5_stateOf rfl rfl rfl (by decide +kernel) ⟨Nat.le_of_ble_eq_true rfl, Nat.le_of_ble_eq_true rfl⟩) (r_recv hE hW 1 0 (show 0 < 2 by decide) (ci := 8) rfl rfl) rfl hl.1 rfl (Nat.le_of_ble_eq_true rfl) dX6_state_11 ⟨Nat.le_of_ble_eq_true rfl, Nat.le_of_ble_eq_true rfl⟩ (fun r2 S1 H locs hp hW hS => ?_)
  obtain ⟨rfl, h⟩ := hp
  exact W.iret (v := r2) hx hb hr (fun t ht _ => ⟨⟨_, (σ, ν, ρ, lo), rfl, ⟨rfl, h⟩, WP.at9 ht hW⟩, hS.F ht⟩) hS.2.2 dX6_state_14 (hlocks := hlocks)
set_option maxHeartbeats 4000000 in
set_option maxRecDepth 100000 in
theorem nmtX6_commences (l : Launch) (z : Nat) (G : Gl) (ad : Nat → Nat → Nat) (σ : SG) (ν : NU) (ρ : RH) (lo : Int64) (p1 : Int32) (post : Int32 → Prop) (h : wpX6_commences σ ν p1 post (fun _ => False)) : Met l yX6_commences wsX6_commences ({ frames := 4, cells := 0, slots := 0, locals := 85 } : Room) (Pcs z G ad (σ, ν, ρ, lo) [.ref (ad 0 0), .int p1]) (Qis z G ad (fun r S1 => S1 = (σ, ν, ρ, lo) ∧ post r)) 0 0 (Az z) := by
  refine Met.ofW (cc := cX6_commences) (maxL := 2) (ret := (some .int)) (by decide) rfl ?_
  intro p e s m args below meth c s₁ B hml hv
  obtain ⟨rfl, hz, hW, hE⟩ := hv
  have hx := B.exec
  have hb := B.bytes
  have hr := B.returns
  have hts := atoms_spec (ws := wsX6_commences) B.pre
  have hown : s.vm.findClass RX6 = some m.cls := findClass_of_methodNamed B.named
  have hlocks := B.notSynchronized
  have X : Cx p l e s m _ below meth c cX6_commences (some .int) 2 RX6 wsX6_commences z G := ⟨hx, hb, hr, hml, hown, hts, hlocks, hE, hz⟩
  have hS : va_S (Az z) s.heap s.heap [] := va_S.rf
  have hl := lv_entry [.ref (ad 0 0), .int p1] (n := 2) (Nat.le_of_ble_eq_true rfl)
  rw [lg_entry_eq]
  generalize (lg_sl [.ref (ad 0 0), .int p1] ++ List.replicate (2 - (lg_sl [.ref (ad 0 0), .int p1]).length) Slot.unset).toArray = ls at hl ⊢
  have hl : lv_has ls 2 [(0, .ref (ad 0 0)), (1, .int p1)] := hl
  unfold wpX6_commences at h
  refine lv_aload_n hx hb dX6_commences_0 rfl (lv_at hl 0 rfl) ?_
  refine lv_iload_n hx hb dX6_commences_1 rfl (lv_at hl 1 rfl) ?_
  refine k_Vr (rest := []) (As := [.int p1]) ⟨hx, hb, hml, hown, hts⟩ hE hz hS hW (nmtX6_needInstruction l z G ad σ ν ρ lo p1 _ h) (cwV 1 hts gX6_commences_X6_needInstruction rfl rfl rfl (by decide +kernel) ⟨Nat.le_of_ble_eq_true rfl, Nat.le_of_ble_eq_true rfl⟩) (r_recv hE hW 0 0 rfl (ci := 9) rfl rfl) rfl hl.1 rfl (Nat.le_of_ble_eq_true rfl) dX6_commences_2 ⟨Nat.le_of_ble_eq_true rfl, Nat.le_of_ble_eq_true rfl⟩ (fun r1 S1 H locs hp hW hS => ?_)
  obtain ⟨rfl, h⟩ := hp
  refine lv_pop hx hb dX6_commences_5 rfl ?_
  refine lv_aload_n hx hb dX6_commences_6 rfl (lv_at hl 0 rfl) ?_
  refine r_get (C := RX6) (T := TX6) (N := 8) (ci := 9) (fs := fl_0 ad ν ρ 0 (σ 0 0)) hx hb hts hown hE hW 0 0 rfl rfl rfl (fun w h => List.mem_cons_of_mem _ (List.mem_append_left _ (List.mem_append_left _ (List.mem_append_left _ (List.mem_append_right _ h))))) 1 (by decide) (List.mem_of_getElem? (i := 1) rfl) rfl (v := .ref (ad 1 0)) rfl dX6_commences_7 ?_
  refine lv_iload_n hx hb dX6_commences_10 rfl (lv_at hl 1 rfl) ?_
  refine k_Vi (rest := []) (As := [.int p1]) ⟨hx, hb, hml, hown, hts⟩ hE hz hS hW (mtX5_beginningOf l z G ad σ ν ρ lo 0 p1 _ h) (cwV 1 hts gX6_commences_X5_beginningOf rfl rfl rfl (by decide +kernel) ⟨Nat.le_of_ble_eq_true rfl, Nat.le_of_ble_eq_true rfl⟩) (r_recv hE hW 1 0 (show 0 < 2 by decide) (ci := 8) rfl rfl) rfl hl.1 rfl (Nat.le_of_ble_eq_true rfl) dX6_commences_11 ⟨Nat.le_of_ble_eq_true rfl, Nat.le_of_ble_eq_true rfl⟩ (fun r2 S1 H locs hp hW hS => ?_)
  obtain ⟨rfl, h⟩ := hp
  exact W.iret (v := r2) hx hb hr (fun t ht _ => ⟨⟨_, (σ, ν, ρ, lo), rfl, ⟨rfl, h⟩, WP.at9 ht hW⟩, hS.F ht⟩) hS.2.2 dX6_commences_14 (hlocks := hlocks)
