/-! method by method: what it asks of the state (wp), and its walk. Written by wip/gen/gen.py -/
set_option maxHeartbeats 4000000 in
set_option maxRecDepth 100000 in
theorem mtX7_isKnown (l : Launch) (z : Nat) (G : Gl) (ad : Nat → Nat → Nat) (σ : SG) (ν : NU) (ρ : RH) (lo : Int64) (p1 : Int32) (p2 : Int32) (post : Int32 → Prop) (h : wpX7_isKnown ρ p1 p2 post) : Met l yX7_isKnown wsX7_isKnown ({ frames := 0, cells := 0, slots := 0, locals := 0 } : Room) (Pcs z G ad (σ, ν, ρ, lo) [.ref (ad 30 0), .int p1, .int p2]) (Qis z G ad (fun r S1 => S1 = (σ, ν, ρ, lo) ∧ post r)) 0 0 (Az z) := by
  refine Met.ofW (cc := cX7_isKnown) (maxL := 3) (ret := (some .boolean)) (by decide) rfl ?_
  intro p e s m args below meth c s₁ B hml hv
  obtain ⟨rfl, hz, hW, hE⟩ := hv
  have hx := B.exec
  have hb := B.bytes
  have hr := B.returns
  have hts := atoms_spec (ws := wsX7_isKnown) B.pre
  have hown : s.vm.findClass RX7 = some m.cls := findClass_of_methodNamed B.named
  have hlocks := B.notSynchronized
  have X : Cx p l e s m _ below meth c cX7_isKnown (some .boolean) 3 RX7 wsX7_isKnown z G := ⟨hx, hb, hr, hml, hown, hts, hlocks, hE, hz⟩
  have hS : va_S (Az z) s.heap s.heap [] := va_S.rf
  have hl := lv_entry [.ref (ad 30 0), .int p1, .int p2] (n := 3) (Nat.le_of_ble_eq_true rfl)
  rw [lg_entry_eq]
  generalize (lg_sl [.ref (ad 30 0), .int p1, .int p2] ++ List.replicate (3 - (lg_sl [.ref (ad 30 0), .int p1, .int p2]).length) Slot.unset).toArray = ls at hl ⊢
  have hl : lv_has ls 3 [(0, .ref (ad 30 0)), (1, .int p1), (2, .int p2)] := hl
  unfold wpX7_isKnown at h
  refine lv_iload_n hx hb dX7_isKnown_0 rfl (lv_at hl 1 rfl) ?_
  refine lv_iconst (v := (-1 : Int32)) hx hb dX7_isKnown_1 (by decide) ?_
  refine r_icmp_eq hx hb rfl (show (-1 : Int32).toInt = (-1) by decide) (tgt := 14) dX7_isKnown_2 (by decide) (fun c1 => ?_) (fun c1 => ?_)
  · have h := ite_t c1 h
    refine lv_iconst (v := (0 : Int32)) hx hb dX7_isKnown_14 (by decide) ?_
    exact W.zret (v := (0 : Int32)) (ty := .boolean) hx hb hr rfl (fun t ht _ => ⟨⟨_, (σ, ν, ρ, lo), rfl, ⟨rfl, h⟩, WP.at9 ht hW⟩, hS.F ht⟩) hS.2.2 dX7_isKnown_15 (hlocks := hlocks)
  · have h := ite_f c1 h
    refine lv_iload_n hx hb dX7_isKnown_5 rfl (lv_at hl 1 rfl) ?_
    refine lv_iload_n hx hb dX7_isKnown_6 rfl (lv_at hl 2 rfl) ?_
    refine r_icmp_gt hx hb rfl rfl (tgt := 14) dX7_isKnown_7 (by decide) (fun c2 => ?_) (fun c2 => ?_)
    · have h := ite_f c2 h
      refine lv_iconst (v := (0 : Int32)) hx hb dX7_isKnown_14 (by decide) ?_
      exact W.zret (v := (0 : Int32)) (ty := .boolean) hx hb hr rfl (fun t ht _ => ⟨⟨_, (σ, ν, ρ, lo), rfl, ⟨rfl, h⟩, WP.at9 ht hW⟩, hS.F ht⟩) hS.2.2 dX7_isKnown_15 (hlocks := hlocks)
    · have h := ite_t c2 h
      refine lv_iconst (v := (1 : Int32)) hx hb dX7_isKnown_10 (by decide) ?_
      refine lv_goto (tgt := 15) hx hb dX7_isKnown_11 (by decide) ?_
      exact W.zret (v := (1 : Int32)) (ty := .boolean) hx hb hr rfl (fun t ht _ => ⟨⟨_, (σ, ν, ρ, lo), rfl, ⟨rfl, h⟩, WP.at9 ht hW⟩, hS.F ht⟩) hS.2.2 dX7_isKnown_15 (hlocks := hlocks)
set_option maxHeartbeats 4000000 in
set_option maxRecDepth 100000 in
theorem tX7_commencesBy_19 {p : Program} {l : Launch} {e : Env} {s : State} {m : MethodId} {args : Array Value} {below : List Frame} {meth : Method} {c : Code} {z : Nat} {G : Gl} {ad : Nat → Nat → Nat} {σ : SG} {ν : NU} {ρ : RH} {lo : Int64} (X : Cx p l e s m args below meth c cX7_commencesBy (some .int) 4 RX7 wsX7_commencesBy z G) (p1 : Int32) (p2 : Int32)  (post : Int32 → Prop) : ∀ (n : Nat) (x3 : Int32) {H : Heap} {locs : List Loc} {ls : Array Slot}, WP z G ad (σ, ν, ρ, lo) H → va_S (Az z) s.heap H locs → lv_has ls 4 [(0, .ref (ad 30 0)), (2, .int p2), (3, .int x3)] → wX7_commencesBy_19 p1 p2 post n ρ x3 → W p l e ({ frames := 1, cells := 0, slots := 0, locals := 22 } : Room) s m args below meth c H locs 0 0 (MQ below (Qis z G ad (fun r S1 => S1 = (σ, ν, ρ, lo) ∧ post r)) args s 0 0 (Az z)) (F0 m 19 ls []) := by
  obtain ⟨hx, hb, hr, hml, hown, hts, hlocks, hE, hz⟩ := id X
  intro n
  induction n with
  | zero =>
    intro x3 H locs ls hW hS hl h
    exact absurd h id
  | succ n ih =>
    intro x3 H locs ls hW hS hl h
    unfold wX7_commencesBy_19 at h
    refine lv_aload_n hx hb dX7_commencesBy_19 rfl (lv_at hl 0 rfl) ?_
    refine r_get (C := RX7) (T := TX7) (N := 49) (ci := 10) (fs := fl_30 ad ν ρ 0 (σ 30 0)) hx hb hts hown hE hW 30 0 rfl rfl rfl (fun w h => List.mem_cons_of_mem _ (List.mem_append_right _ h)) 22 (by decide) (List.mem_of_getElem? (i := 3) rfl) rfl (v := .ref (ad 122 0)) rfl dX7_commencesBy_20 ?_
    refine lv_iload_n hx hb dX7_commencesBy_23 rfl (lv_at hl 2 rfl) ?_
    obtain ⟨b4, h⟩ := h
    refine r_iald hx hb hE hW 122 0 ⟨rfl, by decide, by decide⟩ (n := 40) (f := ρ 22) rfl b4 (v := ρ 22 x3.toNatClampNeg) rfl dX7_commencesBy_24 ?_
    refine lv_iconst (v := (2 : Int32)) hx hb dX7_commencesBy_25 (by decide) ?_
    refine r_icmp_ne hx hb rfl (show (2 : Int32).toInt = 2 by decide) (tgt := 39) dX7_commencesBy_26 (by decide) (fun c5 => ?_) (fun c5 => ?_)
    · have h := ite_f c5 h
      refine lv_aload_n hx hb dX7_commencesBy_39 rfl (lv_at hl 0 rfl) ?_
      refine r_get (C := RX7) (T := TX7) (N := 49) (ci := 10) (fs := fl_30 ad ν ρ 0 (σ 30 0)) hx hb hts hown hE hW 30 0 rfl rfl rfl (fun w h => List.mem_cons_of_mem _ (List.mem_append_right _ h)) 22 (by decide) (List.mem_of_getElem? (i := 3) rfl) rfl (v := .ref (ad 122 0)) rfl dX7_commencesBy_40 ?_
      refine lv_iload_n hx hb dX7_commencesBy_43 rfl (lv_at hl 2 rfl) ?_
      obtain ⟨b6, h⟩ := h
      refine r_iald hx hb hE hW 122 0 ⟨rfl, by decide, by decide⟩ (n := 40) (f := ρ 22) rfl b6 (v := ρ 22 x3.toNatClampNeg) rfl dX7_commencesBy_44 ?_
      refine r_if_ne hx hb rfl (tgt := 57) dX7_commencesBy_45 (by decide) (fun c7 => ?_) (fun c7 => ?_)
      · have h := ite_f c7 h
        refine lv_aload_n hx hb dX7_commencesBy_57 rfl (lv_at hl 0 rfl) ?_
        refine lv_aload_n hx hb dX7_commencesBy_58 rfl (lv_at hl 0 rfl) ?_
        refine r_get (C := RX7) (T := TX7) (N := 49) (ci := 10) (fs := fl_30 ad ν ρ 0 (σ 30 0)) hx hb hts hown hE hW 30 0 rfl rfl rfl (fun w h => List.mem_cons_of_mem _ (List.mem_append_right _ h)) 26 (by decide) (List.mem_of_getElem? (i := 5) rfl) rfl (v := .ref (ad 126 0)) rfl dX7_commencesBy_59 ?_
        refine lv_iload_n hx hb dX7_commencesBy_62 rfl (lv_at hl 2 rfl) ?_
        obtain ⟨b8, h⟩ := h
        refine r_iald hx hb hE hW 126 0 ⟨rfl, by decide, by decide⟩ (n := 40) (f := ρ 26) rfl b8 (v := ρ 26 x3.toNatClampNeg) rfl dX7_commencesBy_63 ?_
        refine lv_iload_n hx hb dX7_commencesBy_64 rfl (lv_at hl 1 rfl) ?_
        refine k_Vi (rest := []) (As := [.int (ρ 26 x3.toNatClampNeg), .int p2]) ⟨hx, hb, hml, hown, hts⟩ hE hz hS hW (mtX7_isKnown l z G ad σ ν ρ lo (ρ 26 x3.toNatClampNeg) p2 _ h) (cwV 2 hts gX7_commencesBy_X7_isKnown rfl rfl rfl (by decide +kernel) ⟨Nat.le_of_ble_eq_true rfl, Nat.le_of_ble_eq_true rfl⟩) (r_recv hE hW 30 0 rfl (ci := 10) rfl rfl) rfl hl.1 rfl (Nat.le_of_ble_eq_true rfl) dX7_commencesBy_65 ⟨Nat.le_of_ble_eq_true rfl, Nat.le_of_ble_eq_true rfl⟩ (fun r9 S1 H locs hp hW hS => ?_)
        obtain ⟨rfl, h⟩ := hp
        refine r_if_eq hx hb rfl (tgt := 80) dX7_commencesBy_68 (by decide) (fun c10 => ?_) (fun c10 => ?_)
        · have h := ite_t c10 h
          refine lv_iconst (v := (-1 : Int32)) hx hb dX7_commencesBy_80 (by decide) ?_
          exact W.iret (v := (-1 : Int32)) hx hb hr (fun t ht _ => ⟨⟨_, (σ, ν, ρ, lo), rfl, ⟨rfl, h⟩, WP.at9 ht hW⟩, hS.F ht⟩) hS.2.2 dX7_commencesBy_81 (hlocks := hlocks)
        · have h := ite_f c10 h
          refine lv_aload_n hx hb dX7_commencesBy_71 rfl (lv_at hl 0 rfl) ?_
          refine r_get (C := RX7) (T := TX7) (N := 49) (ci := 10) (fs := fl_30 ad ν ρ 0 (σ 30 0)) hx hb hts hown hE hW 30 0 rfl rfl rfl (fun w h => List.mem_cons_of_mem _ (List.mem_append_right _ h)) 27 (by decide) (List.mem_of_getElem? (i := 6) rfl) rfl (v := .ref (ad 127 0)) rfl dX7_commencesBy_72 ?_
          refine lv_iload_n hx hb dX7_commencesBy_75 rfl (lv_at hl 2 rfl) ?_
          obtain ⟨b11, h⟩ := h
          refine r_iald hx hb hE hW 127 0 ⟨rfl, by decide, by decide⟩ (n := 40) (f := ρ 27) rfl b11 (v := ρ 27 x3.toNatClampNeg) rfl dX7_commencesBy_76 ?_
          refine lv_goto (tgt := 81) hx hb dX7_commencesBy_77 (by decide) ?_
          exact W.iret (v := ρ 27 x3.toNatClampNeg) hx hb hr (fun t ht _ => ⟨⟨_, (σ, ν, ρ, lo), rfl, ⟨rfl, h⟩, WP.at9 ht hW⟩, hS.F ht⟩) hS.2.2 dX7_commencesBy_81 (hlocks := hlocks)
      · have h := ite_t c7 h
        refine lv_aload_n hx hb dX7_commencesBy_48 rfl (lv_at hl 0 rfl) ?_
        refine r_get (C := RX7) (T := TX7) (N := 49) (ci := 10) (fs := fl_30 ad ν ρ 0 (σ 30 0)) hx hb hts hown hE hW 30 0 rfl rfl rfl (fun w h => List.mem_cons_of_mem _ (List.mem_append_right _ h)) 23 (by decide) (List.mem_of_getElem? (i := 4) rfl) rfl (v := .ref (ad 123 0)) rfl dX7_commencesBy_49 ?_
        refine lv_iload_n hx hb dX7_commencesBy_52 rfl (lv_at hl 2 rfl) ?_
        obtain ⟨b12, h⟩ := h
        refine r_iald hx hb hE hW 123 0 ⟨rfl, by decide, by decide⟩ (n := 40) (f := ρ 23) rfl b12 (v := ρ 23 x3.toNatClampNeg) rfl dX7_commencesBy_53 ?_
        refine lv_goto (tgt := 81) hx hb dX7_commencesBy_54 (by decide) ?_
        exact W.iret (v := ρ 23 x3.toNatClampNeg) hx hb hr (fun t ht _ => ⟨⟨_, (σ, ν, ρ, lo), rfl, ⟨rfl, h⟩, WP.at9 ht hW⟩, hS.F ht⟩) hS.2.2 dX7_commencesBy_81 (hlocks := hlocks)
    · have h := ite_t c5 h
      refine lv_aload_n hx hb dX7_commencesBy_29 rfl (lv_at hl 0 rfl) ?_
      refine r_get (C := RX7) (T := TX7) (N := 49) (ci := 10) (fs := fl_30 ad ν ρ 0 (σ 30 0)) hx hb hts hown hE hW 30 0 rfl rfl rfl (fun w h => List.mem_cons_of_mem _ (List.mem_append_right _ h)) 23 (by decide) (List.mem_of_getElem? (i := 4) rfl) rfl (v := .ref (ad 123 0)) rfl dX7_commencesBy_30 ?_
      refine lv_iload_n hx hb dX7_commencesBy_33 rfl (lv_at hl 2 rfl) ?_
      obtain ⟨b13, h⟩ := h
      refine r_iald hx hb hE hW 123 0 ⟨rfl, by decide, by decide⟩ (n := 40) (f := ρ 23) rfl b13 (v := ρ 23 x3.toNatClampNeg) rfl dX7_commencesBy_34 ?_
      refine lv_istore_n (lv' := [(3, .int (ρ 23 x3.toNatClampNeg)), (0, .ref (ad 30 0)), (2, .int p2)]) hx hb dX7_commencesBy_35 rfl hl (by decide) rfl (fun ls hl => ?_)
      refine lv_goto (tgt := 19) hx hb dX7_commencesBy_36 (by decide) ?_
      exact ih (ρ 23 x3.toNatClampNeg) hW hS (lv_sub hl [1, 2, 0] rfl) h
set_option maxHeartbeats 4000000 in
set_option maxRecDepth 100000 in
theorem mtX7_commencesBy (l : Launch) (z : Nat) (G : Gl) (ad : Nat → Nat → Nat) (σ : SG) (ν : NU) (ρ : RH) (lo : Int64) (p1 : Int32) (p2 : Int32) (post : Int32 → Prop) (h : wpX7_commencesBy ρ p1 p2 post) : Met l yX7_commencesBy wsX7_commencesBy ({ frames := 1, cells := 0, slots := 0, locals := 22 } : Room) (Pcs z G ad (σ, ν, ρ, lo) [.ref (ad 30 0), .int p1, .int p2]) (Qis z G ad (fun r S1 => S1 = (σ, ν, ρ, lo) ∧ post r)) 0 0 (Az z) := by
  refine Met.ofW (cc := cX7_commencesBy) (maxL := 4) (ret := (some .int)) (by decide) rfl ?_
  intro p e s m args below meth c s₁ B hml hv
  obtain ⟨rfl, hz, hW, hE⟩ := hv
  have hx := B.exec
  have hb := B.bytes
  have hr := B.returns
  have hts := atoms_spec (ws := wsX7_commencesBy) B.pre
  have hown : s.vm.findClass RX7 = some m.cls := findClass_of_methodNamed B.named
  have hlocks := B.notSynchronized
  have X : Cx p l e s m _ below meth c cX7_commencesBy (some .int) 4 RX7 wsX7_commencesBy z G := ⟨hx, hb, hr, hml, hown, hts, hlocks, hE, hz⟩
  have hS : va_S (Az z) s.heap s.heap [] := va_S.rf
  have hl := lv_entry [.ref (ad 30 0), .int p1, .int p2] (n := 4) (Nat.le_of_ble_eq_true rfl)
  rw [lg_entry_eq]
  generalize (lg_sl [.ref (ad 30 0), .int p1, .int p2] ++ List.replicate (4 - (lg_sl [.ref (ad 30 0), .int p1, .int p2]).length) Slot.unset).toArray = ls at hl ⊢
  have hl : lv_has ls 4 [(0, .ref (ad 30 0)), (1, .int p1), (2, .int p2)] := hl
  unfold wpX7_commencesBy at h
  refine lv_iload_n hx hb dX7_commencesBy_0 rfl (lv_at hl 1 rfl) ?_
  refine lv_istore_n (lv' := [(3, .int p1), (0, .ref (ad 30 0)), (1, .int p1), (2, .int p2)]) hx hb dX7_commencesBy_1 rfl hl (by decide) rfl (fun ls hl => ?_)
  refine lv_aload_n hx hb dX7_commencesBy_2 rfl (lv_at hl 1 rfl) ?_
  refine r_get (C := RX7) (T := TX7) (N := 49) (ci := 10) (fs := fl_30 ad ν ρ 0 (σ 30 0)) hx hb hts hown hE hW 30 0 rfl rfl rfl (fun w h => List.mem_cons_of_mem _ (List.mem_append_right _ h)) 2 (by decide) (List.mem_of_getElem? (i := 1) rfl) rfl (v := .ref (ad 102 0)) rfl dX7_commencesBy_3 ?_
  refine lv_aload_n hx hb dX7_commencesBy_6 rfl (lv_at hl 1 rfl) ?_
  refine r_get (C := RX7) (T := TX7) (N := 49) (ci := 10) (fs := fl_30 ad ν ρ 0 (σ 30 0)) hx hb hts hown hE hW 30 0 rfl rfl rfl (fun w h => List.mem_cons_of_mem _ (List.mem_append_right _ h)) 14 (by decide) (List.mem_of_getElem? (i := 2) rfl) rfl (v := .ref (ad 114 0)) rfl dX7_commencesBy_7 ?_
  refine lv_iload_n hx hb dX7_commencesBy_10 rfl (lv_at hl 0 rfl) ?_
  obtain ⟨b1, h⟩ := h
  refine r_iald hx hb hE hW 114 0 ⟨rfl, by decide, by decide⟩ (n := 40) (f := ρ 14) rfl b1 (v := ρ 14 p1.toNatClampNeg) rfl dX7_commencesBy_11 ?_
  obtain ⟨b2, h⟩ := h
  refine r_iald hx hb hE hW 102 0 ⟨rfl, by decide, by decide⟩ (n := 10) (f := ρ 2) rfl b2 (v := ρ 2 (ρ 14 p1.toNatClampNeg).toNatClampNeg) rfl dX7_commencesBy_12 ?_
  refine lv_iload_n hx hb dX7_commencesBy_13 rfl (lv_at hl 3 rfl) ?_
  refine r_icmp_le hx hb rfl rfl (tgt := 19) dX7_commencesBy_14 (by decide) (fun c3 => ?_) (fun c3 => ?_)
  · have h := ite_t c3 h
    obtain ⟨n14, h⟩ := h
    exact tX7_commencesBy_19 (σ := σ) (ρ := ρ) X p1 p2 post  n14 p1 hW hS (lv_sub hl [1, 3, 0] rfl) h
  · have h := ite_f c3 h
    refine lv_iconst (v := (-1 : Int32)) hx hb dX7_commencesBy_17 (by decide) ?_
    exact W.iret (v := (-1 : Int32)) hx hb hr (fun t ht _ => ⟨⟨_, (σ, ν, ρ, lo), rfl, ⟨rfl, h⟩, WP.at9 ht hW⟩, hS.F ht⟩) hS.2.2 dX7_commencesBy_18 (hlocks := hlocks)
set_option maxHeartbeats 4000000 in
set_option maxRecDepth 100000 in
theorem tX7_isInEffect_104 {p : Program} {l : Launch} {e : Env} {s : State} {m : MethodId} {args : Array Value} {below : List Frame} {meth : Method} {c : Code} {z : Nat} {G : Gl} {ad : Nat → Nat → Nat} {σ : SG} {ν : NU} {ρ : RH} {lo : Int64} (X : Cx p l e s m args below meth c cX7_isInEffect (some .boolean) 9 RX7 wsX7_isInEffect z G) (p1 : Int32) (p2 : Int32) (p3 : Int32) (p4 : Int32)  (post : Int32 → Prop) : ∀ (x5 : Int32) (x6 : Int32) (x7 : Int32) (y0 : Int32) {H : Heap} {locs : List Loc} {ls : Array Slot}, WP z G ad (σ, ν, ρ, lo) H → va_S (Az z) s.heap H locs → lv_has ls 9 [(0, .ref (ad 30 0)), (1, .int p1), (2, .int p2), (4, .int p4), (5, .int x5), (6, .int x6), (7, .int x7)] → jX7_isInEffect_104 p1 p2 p3 p4 post ρ x5 x6 x7 y0 → W p l e ({ frames := 2, cells := 0, slots := 0, locals := 45 } : Room) s m args below meth c H locs 0 0 (MQ below (Qis z G ad (fun r S1 => S1 = (σ, ν, ρ, lo) ∧ post r)) args s 0 0 (Az z)) (F0 m 104 ls [.int y0]) := by
  obtain ⟨hx, hb, hr, hml, hown, hts, hlocks, hE, hz⟩ := id X
  intro x5 x6 x7 y0 H locs ls hW hS hl h
  unfold jX7_isInEffect_104 at h
  refine lv_istore (lv' := [(8, .int y0), (0, .ref (ad 30 0)), (1, .int p1), (2, .int p2), (4, .int p4), (5, .int x5), (6, .int x6), (7, .int x7)]) hx hb dX7_isInEffect_104 hl (by decide) rfl (fun ls hl => ?_)
  refine lv_iload hx hb dX7_isInEffect_106 (lv_at hl 5 rfl) ?_
  refine lv_iconst (v := (-1 : Int32)) hx hb dX7_isInEffect_108 (by decide) ?_
  refine r_icmp_eq hx hb rfl (show (-1 : Int32).toInt = (-1) by decide) (tgt := 152) dX7_isInEffect_109 (by decide) (fun c10 => ?_) (fun c10 => ?_)
  · have h := ite_t c10 h
    refine lv_iconst (v := (0 : Int32)) hx hb dX7_isInEffect_152 (by decide) ?_
    exact W.zret (v := (0 : Int32)) (ty := .boolean) hx hb hr rfl (fun t ht _ => ⟨⟨_, (σ, ν, ρ, lo), rfl, ⟨rfl, h⟩, WP.at9 ht hW⟩, hS.F ht⟩) hS.2.2 dX7_isInEffect_153 (hlocks := hlocks)
  · have h := ite_f c10 h
    refine lv_iload hx hb dX7_isInEffect_112 (lv_at hl 5 rfl) ?_
    refine lv_iload_n hx hb dX7_isInEffect_114 rfl (lv_at hl 3 rfl) ?_
    refine r_icmp_gt hx hb rfl rfl (tgt := 152) dX7_isInEffect_115 (by decide) (fun c11 => ?_) (fun c11 => ?_)
    · have h := ite_f c11 h
      refine lv_iconst (v := (0 : Int32)) hx hb dX7_isInEffect_152 (by decide) ?_
      exact W.zret (v := (0 : Int32)) (ty := .boolean) hx hb hr rfl (fun t ht _ => ⟨⟨_, (σ, ν, ρ, lo), rfl, ⟨rfl, h⟩, WP.at9 ht hW⟩, hS.F ht⟩) hS.2.2 dX7_isInEffect_153 (hlocks := hlocks)
    · have h := ite_t c11 h
      refine lv_aload_n hx hb dX7_isInEffect_118 rfl (lv_at hl 1 rfl) ?_
      refine r_get (C := RX7) (T := TX7) (N := 49) (ci := 10) (fs := fl_30 ad ν ρ 0 (σ 30 0)) hx hb hts hown hE hW 30 0 rfl rfl rfl (fun w h => List.mem_cons_of_mem _ (List.mem_append_right _ h)) 24 (by decide) (List.mem_of_getElem? (i := 7) rfl) rfl (v := .ref (ad 124 0)) rfl dX7_isInEffect_119 ?_
      refine lv_iload_n hx hb dX7_isInEffect_122 rfl (lv_at hl 2 rfl) ?_
      obtain ⟨b12, h⟩ := h
      refine r_iald hx hb hE hW 124 0 ⟨rfl, by decide, by decide⟩ (n := 40) (f := ρ 24) rfl b12 (v := ρ 24 p1.toNatClampNeg) rfl dX7_isInEffect_123 ?_
      refine lv_iload hx hb dX7_isInEffect_124 (lv_at hl 4 rfl) ?_
      refine lv_ishr hx hb dX7_isInEffect_126 ?_
      refine lv_iconst (v := (1 : Int32)) hx hb dX7_isInEffect_127 (by decide) ?_
      refine lv_iand hx hb dX7_isInEffect_128 ?_
      refine lv_iconst (v := (1 : Int32)) hx hb dX7_isInEffect_129 (by decide) ?_
      refine r_icmp_ne hx hb rfl (show (1 : Int32).toInt = 1 by decide) (tgt := 152) dX7_isInEffect_130 (by decide) (fun c13 => ?_) (fun c13 => ?_)
      · have h := ite_f c13 h
        refine lv_iconst (v := (0 : Int32)) hx hb dX7_isInEffect_152 (by decide) ?_
        exact W.zret (v := (0 : Int32)) (ty := .boolean) hx hb hr rfl (fun t ht _ => ⟨⟨_, (σ, ν, ρ, lo), rfl, ⟨rfl, h⟩, WP.at9 ht hW⟩, hS.F ht⟩) hS.2.2 dX7_isInEffect_153 (hlocks := hlocks)
      · have h := ite_t c13 h
        refine lv_iload hx hb dX7_isInEffect_133 (lv_at hl 6 rfl) ?_
        refine r_if_ne hx hb rfl (tgt := 152) dX7_isInEffect_135 (by decide) (fun c14 => ?_) (fun c14 => ?_)
        · have h := ite_f c14 h
          refine lv_iconst (v := (0 : Int32)) hx hb dX7_isInEffect_152 (by decide) ?_
          exact W.zret (v := (0 : Int32)) (ty := .boolean) hx hb hr rfl (fun t ht _ => ⟨⟨_, (σ, ν, ρ, lo), rfl, ⟨rfl, h⟩, WP.at9 ht hW⟩, hS.F ht⟩) hS.2.2 dX7_isInEffect_153 (hlocks := hlocks)
        · have h := ite_t c14 h
          refine lv_iload hx hb dX7_isInEffect_138 (lv_at hl 7 rfl) ?_
          refine r_if_ne hx hb rfl (tgt := 152) dX7_isInEffect_140 (by decide) (fun c15 => ?_) (fun c15 => ?_)
          · have h := ite_f c15 h
            refine lv_iconst (v := (0 : Int32)) hx hb dX7_isInEffect_152 (by decide) ?_
            exact W.zret (v := (0 : Int32)) (ty := .boolean) hx hb hr rfl (fun t ht _ => ⟨⟨_, (σ, ν, ρ, lo), rfl, ⟨rfl, h⟩, WP.at9 ht hW⟩, hS.F ht⟩) hS.2.2 dX7_isInEffect_153 (hlocks := hlocks)
          · have h := ite_t c15 h
            refine lv_iload hx hb dX7_isInEffect_143 (lv_at hl 0 rfl) ?_
            refine r_if_ne hx hb rfl (tgt := 152) dX7_isInEffect_145 (by decide) (fun c16 => ?_) (fun c16 => ?_)
            · have h := ite_f c16 h
              refine lv_iconst (v := (0 : Int32)) hx hb dX7_isInEffect_152 (by decide) ?_
              exact W.zret (v := (0 : Int32)) (ty := .boolean) hx hb hr rfl (fun t ht _ => ⟨⟨_, (σ, ν, ρ, lo), rfl, ⟨rfl, h⟩, WP.at9 ht hW⟩, hS.F ht⟩) hS.2.2 dX7_isInEffect_153 (hlocks := hlocks)
            · have h := ite_t c16 h
              refine lv_iconst (v := (1 : Int32)) hx hb dX7_isInEffect_148 (by decide) ?_
              refine lv_goto (tgt := 153) hx hb dX7_isInEffect_149 (by decide) ?_
              exact W.zret (v := (1 : Int32)) (ty := .boolean) hx hb hr rfl (fun t ht _ => ⟨⟨_, (σ, ν, ρ, lo), rfl, ⟨rfl, h⟩, WP.at9 ht hW⟩, hS.F ht⟩) hS.2.2 dX7_isInEffect_153 (hlocks := hlocks)
set_option maxHeartbeats 4000000 in
set_option maxRecDepth 100000 in
theorem tX7_isInEffect_64 {p : Program} {l : Launch} {e : Env} {s : State} {m : MethodId} {args : Array Value} {below : List Frame} {meth : Method} {c : Code} {z : Nat} {G : Gl} {ad : Nat → Nat → Nat} {σ : SG} {ν : NU} {ρ : RH} {lo : Int64} (X : Cx p l e s m args below meth c cX7_isInEffect (some .boolean) 9 RX7 wsX7_isInEffect z G) (p1 : Int32) (p2 : Int32) (p3 : Int32) (p4 : Int32)  (post : Int32 → Prop) : ∀ (x5 : Int32) (x6 : Int32) (y0 : Int32) {H : Heap} {locs : List Loc} {ls : Array Slot}, WP z G ad (σ, ν, ρ, lo) H → va_S (Az z) s.heap H locs → lv_has ls 9 [(0, .ref (ad 30 0)), (1, .int p1), (2, .int p2), (3, .int p3), (4, .int p4), (5, .int x5), (6, .int x6)] → jX7_isInEffect_64 p1 p2 p3 p4 post ρ x5 x6 y0 → W p l e ({ frames := 2, cells := 0, slots := 0, locals := 45 } : Room) s m args below meth c H locs 0 0 (MQ below (Qis z G ad (fun r S1 => S1 = (σ, ν, ρ, lo) ∧ post r)) args s 0 0 (Az z)) (F0 m 64 ls [.int y0]) := by
  obtain ⟨hx, hb, hr, hml, hown, hts, hlocks, hE, hz⟩ := id X
  intro x5 x6 y0 H locs ls hW hS hl h
  unfold jX7_isInEffect_64 at h
  refine lv_istore (lv' := [(7, .int y0), (0, .ref (ad 30 0)), (1, .int p1), (2, .int p2), (3, .int p3), (4, .int p4), (5, .int x5), (6, .int x6)]) hx hb dX7_isInEffect_64 hl (by decide) rfl (fun ls hl => ?_)
  refine lv_aload_n hx hb dX7_isInEffect_66 rfl (lv_at hl 1 rfl) ?_
  refine lv_aload_n hx hb dX7_isInEffect_67 rfl (lv_at hl 1 rfl) ?_
  refine r_get (C := RX7) (T := TX7) (N := 49) (ci := 10) (fs := fl_30 ad ν ρ 0 (σ 30 0)) hx hb hts hown hE hW 30 0 rfl rfl rfl (fun w h => List.mem_cons_of_mem _ (List.mem_append_right _ h)) 30 (by decide) (List.mem_of_getElem? (i := 4) rfl) rfl (v := .ref (ad 130 0)) rfl dX7_isInEffect_68 ?_
  refine lv_iload_n hx hb dX7_isInEffect_71 rfl (lv_at hl 2 rfl) ?_
  obtain ⟨b7, h⟩ := h
  refine r_iald hx hb hE hW 130 0 ⟨rfl, by decide, by decide⟩ (n := 40) (f := ρ 30) rfl b7 (v := ρ 30 p1.toNatClampNeg) rfl dX7_isInEffect_72 ?_
  refine lv_iload_n hx hb dX7_isInEffect_73 rfl (lv_at hl 4 rfl) ?_
  refine k_Vi (rest := []) (As := [.int (ρ 30 p1.toNatClampNeg), .int p3]) ⟨hx, hb, hml, hown, hts⟩ hE hz hS hW (mtX7_isKnown l z G ad σ ν ρ lo (ρ 30 p1.toNatClampNeg) p3 _ h) (cwV 2 hts gX7_isInEffect_X7_isKnown rfl rfl rfl (by decide +kernel) ⟨Nat.le_of_ble_eq_true rfl, Nat.le_of_ble_eq_true rfl⟩) (r_recv hE hW 30 0 rfl (ci := 10) rfl rfl) rfl hl.1 rfl (Nat.le_of_ble_eq_true rfl) dX7_isInEffect_74 ⟨Nat.le_of_ble_eq_true rfl, Nat.le_of_ble_eq_true rfl⟩ (fun r8 S1 H locs hp hW hS => ?_)
  obtain ⟨rfl, h⟩ := hp
  refine r_if_eq hx hb rfl (tgt := 103) dX7_isInEffect_77 (by decide) (fun c9 => ?_) (fun c9 => ?_)
  · have h := ite_t c9 h
    refine lv_iconst (v := (0 : Int32)) hx hb dX7_isInEffect_103 (by decide) ?_
    exact tX7_isInEffect_104 (σ := σ) (ρ := ρ) X p1 p2 p3 p4 post  x5 x6 y0 ((0 : Int32)) hW hS (lv_sub hl [1, 2, 3, 5, 6, 7, 0] rfl) h
  · have h := ite_f c9 h
    refine lv_iload_n hx hb dX7_isInEffect_80 rfl (lv_at hl 3 rfl) ?_
    refine lv_aload_n hx hb dX7_isInEffect_81 rfl (lv_at hl 1 rfl) ?_
    refine r_get (C := RX7) (T := TX7) (N := 49) (ci := 10) (fs := fl_30 ad ν ρ 0 (σ 30 0)) hx hb hts hown hE hW 30 0 rfl rfl rfl (fun w h => List.mem_cons_of_mem _ (List.mem_append_right _ h)) 31 (by decide) (List.mem_of_getElem? (i := 5) rfl) rfl (v := .ref (ad 131 0)) rfl dX7_isInEffect_82 ?_
    refine lv_iload_n hx hb dX7_isInEffect_85 rfl (lv_at hl 2 rfl) ?_
    obtain ⟨b17, h⟩ := h
    refine r_iald hx hb hE hW 131 0 ⟨rfl, by decide, by decide⟩ (n := 40) (f := ρ 31) rfl b17 (v := ρ 31 p1.toNatClampNeg) rfl dX7_isInEffect_86 ?_
    refine lv_aload_n hx hb dX7_isInEffect_87 rfl (lv_at hl 1 rfl) ?_
    refine r_get (C := RX7) (T := TX7) (N := 49) (ci := 10) (fs := fl_30 ad ν ρ 0 (σ 30 0)) hx hb hts hown hE hW 30 0 rfl rfl rfl (fun w h => List.mem_cons_of_mem _ (List.mem_append_right _ h)) 32 (by decide) (List.mem_of_getElem? (i := 6) rfl) rfl (v := .ref (ad 132 0)) rfl dX7_isInEffect_88 ?_
    refine lv_iload_n hx hb dX7_isInEffect_91 rfl (lv_at hl 2 rfl) ?_
    obtain ⟨b18, h⟩ := h
    refine r_iald hx hb hE hW 132 0 ⟨rfl, by decide, by decide⟩ (n := 40) (f := ρ 32) rfl b18 (v := ρ 32 p1.toNatClampNeg) rfl dX7_isInEffect_92 ?_
    refine k_Si (rest := []) (As := [.int p2, .int (ρ 31 p1.toNatClampNeg), .int (ρ 32 p1.toNatClampNeg)]) ⟨hx, hb, hml, hown, hts⟩ hE hz hS hW (mtX7_isIn l z G ad σ ν ρ lo p2 (ρ 31 p1.toNatClampNeg) (ρ 32 p1.toNatClampNeg) _ h) (va_cwS 3 hts gX7_isInEffect_X7_isIn rfl rfl rfl (by decide +kernel) ⟨Nat.le_of_ble_eq_true rfl, Nat.le_of_ble_eq_true rfl⟩) rfl hl.1 rfl (Nat.le_of_ble_eq_true rfl) dX7_isInEffect_93 ⟨Nat.le_of_ble_eq_true rfl, Nat.le_of_ble_eq_true rfl⟩ (fun r19 S1 H locs hp hW hS => ?_)
    obtain ⟨rfl, h⟩ := hp
    refine r_if_eq hx hb rfl (tgt := 103) dX7_isInEffect_96 (by decide) (fun c20 => ?_) (fun c20 => ?_)
    · have h := ite_t c20 h
      refine lv_iconst (v := (0 : Int32)) hx hb dX7_isInEffect_103 (by decide) ?_
      exact tX7_isInEffect_104 (σ := σ) (ρ := ρ) X p1 p2 p3 p4 post  x5 x6 y0 ((0 : Int32)) hW hS (lv_sub hl [1, 2, 3, 5, 6, 7, 0] rfl) h
    · have h := ite_f c20 h
      refine lv_iconst (v := (1 : Int32)) hx hb dX7_isInEffect_99 (by decide) ?_
      refine lv_goto (tgt := 104) hx hb dX7_isInEffect_100 (by decide) ?_
      exact tX7_isInEffect_104 (σ := σ) (ρ := ρ) X p1 p2 p3 p4 post  x5 x6 y0 ((1 : Int32)) hW hS (lv_sub hl [1, 2, 3, 5, 6, 7, 0] rfl) h
set_option maxHeartbeats 4000000 in
set_option maxRecDepth 100000 in
theorem tX7_isInEffect_33 {p : Program} {l : Launch} {e : Env} {s : State} {m : MethodId} {args : Array Value} {below : List Frame} {meth : Method} {c : Code} {z : Nat} {G : Gl} {ad : Nat → Nat → Nat} {σ : SG} {ν : NU} {ρ : RH} {lo : Int64} (X : Cx p l e s m args below meth c cX7_isInEffect (some .boolean) 9 RX7 wsX7_isInEffect z G) (p1 : Int32) (p2 : Int32) (p3 : Int32) (p4 : Int32)  (post : Int32 → Prop) : ∀ (x5 : Int32) (y0 : Int32) {H : Heap} {locs : List Loc} {ls : Array Slot}, WP z G ad (σ, ν, ρ, lo) H → va_S (Az z) s.heap H locs → lv_has ls 9 [(0, .ref (ad 30 0)), (1, .int p1), (2, .int p2), (3, .int p3), (4, .int p4), (5, .int x5)] → jX7_isInEffect_33 p1 p2 p3 p4 post ρ x5 y0 → W p l e ({ frames := 2, cells := 0, slots := 0, locals := 45 } : Room) s m args below meth c H locs 0 0 (MQ below (Qis z G ad (fun r S1 => S1 = (σ, ν, ρ, lo) ∧ post r)) args s 0 0 (Az z)) (F0 m 33 ls [.int y0]) := by
  obtain ⟨hx, hb, hr, hml, hown, hts, hlocks, hE, hz⟩ := id X
  intro x5 y0 H locs ls hW hS hl h
  unfold jX7_isInEffect_33 at h
  refine lv_istore (lv' := [(6, .int y0), (0, .ref (ad 30 0)), (1, .int p1), (2, .int p2), (3, .int p3), (4, .int p4), (5, .int x5)]) hx hb dX7_isInEffect_33 hl (by decide) rfl (fun ls hl => ?_)
  refine lv_aload_n hx hb dX7_isInEffect_35 rfl (lv_at hl 1 rfl) ?_
  refine lv_aload_n hx hb dX7_isInEffect_36 rfl (lv_at hl 1 rfl) ?_
  refine r_get (C := RX7) (T := TX7) (N := 49) (ci := 10) (fs := fl_30 ad ν ρ 0 (σ 30 0)) hx hb hts hown hE hW 30 0 rfl rfl rfl (fun w h => List.mem_cons_of_mem _ (List.mem_append_right _ h)) 28 (by decide) (List.mem_of_getElem? (i := 2) rfl) rfl (v := .ref (ad 128 0)) rfl dX7_isInEffect_37 ?_
  refine lv_iload_n hx hb dX7_isInEffect_40 rfl (lv_at hl 2 rfl) ?_
  obtain ⟨b4, h⟩ := h
  refine r_iald hx hb hE hW 128 0 ⟨rfl, by decide, by decide⟩ (n := 40) (f := ρ 28) rfl b4 (v := ρ 28 p1.toNatClampNeg) rfl dX7_isInEffect_41 ?_
  refine lv_iload_n hx hb dX7_isInEffect_42 rfl (lv_at hl 4 rfl) ?_
  refine k_Vi (rest := []) (As := [.int (ρ 28 p1.toNatClampNeg), .int p3]) ⟨hx, hb, hml, hown, hts⟩ hE hz hS hW (mtX7_isKnown l z G ad σ ν ρ lo (ρ 28 p1.toNatClampNeg) p3 _ h) (cwV 2 hts gX7_isInEffect_X7_isKnown rfl rfl rfl (by decide +kernel) ⟨Nat.le_of_ble_eq_true rfl, Nat.le_of_ble_eq_true rfl⟩) (r_recv hE hW 30 0 rfl (ci := 10) rfl rfl) rfl hl.1 rfl (Nat.le_of_ble_eq_true rfl) dX7_isInEffect_43 ⟨Nat.le_of_ble_eq_true rfl, Nat.le_of_ble_eq_true rfl⟩ (fun r5 S1 H locs hp hW hS => ?_)
  obtain ⟨rfl, h⟩ := hp
  refine r_if_eq hx hb rfl (tgt := 63) dX7_isInEffect_46 (by decide) (fun c6 => ?_) (fun c6 => ?_)
  · have h := ite_t c6 h
    refine lv_iconst (v := (0 : Int32)) hx hb dX7_isInEffect_63 (by decide) ?_
    exact tX7_isInEffect_64 (σ := σ) (ρ := ρ) X p1 p2 p3 p4 post  x5 y0 ((0 : Int32)) hW hS (lv_sub hl [1, 2, 3, 4, 5, 6, 0] rfl) h
  · have h := ite_f c6 h
    refine lv_aload_n hx hb dX7_isInEffect_49 rfl (lv_at hl 1 rfl) ?_
    refine r_get (C := RX7) (T := TX7) (N := 49) (ci := 10) (fs := fl_30 ad ν ρ 0 (σ 30 0)) hx hb hts hown hE hW 30 0 rfl rfl rfl (fun w h => List.mem_cons_of_mem _ (List.mem_append_right _ h)) 29 (by decide) (List.mem_of_getElem? (i := 3) rfl) rfl (v := .ref (ad 129 0)) rfl dX7_isInEffect_50 ?_
    refine lv_iload_n hx hb dX7_isInEffect_53 rfl (lv_at hl 2 rfl) ?_
    obtain ⟨b21, h⟩ := h
    refine r_iald hx hb hE hW 129 0 ⟨rfl, by decide, by decide⟩ (n := 40) (f := ρ 29) rfl b21 (v := ρ 29 p1.toNatClampNeg) rfl dX7_isInEffect_54 ?_
    refine lv_iload_n hx hb dX7_isInEffect_55 rfl (lv_at hl 3 rfl) ?_
    refine r_icmp_gt hx hb rfl rfl (tgt := 63) dX7_isInEffect_56 (by decide) (fun c22 => ?_) (fun c22 => ?_)
    · have h := ite_f c22 h
      refine lv_iconst (v := (0 : Int32)) hx hb dX7_isInEffect_63 (by decide) ?_
      exact tX7_isInEffect_64 (σ := σ) (ρ := ρ) X p1 p2 p3 p4 post  x5 y0 ((0 : Int32)) hW hS (lv_sub hl [1, 2, 3, 4, 5, 6, 0] rfl) h
    · have h := ite_t c22 h
      refine lv_iconst (v := (1 : Int32)) hx hb dX7_isInEffect_59 (by decide) ?_
      refine lv_goto (tgt := 64) hx hb dX7_isInEffect_60 (by decide) ?_
      exact tX7_isInEffect_64 (σ := σ) (ρ := ρ) X p1 p2 p3 p4 post  x5 y0 ((1 : Int32)) hW hS (lv_sub hl [1, 2, 3, 4, 5, 6, 0] rfl) h
set_option maxHeartbeats 4000000 in
set_option maxRecDepth 100000 in
theorem mtX7_isInEffect (l : Launch) (z : Nat) (G : Gl) (ad : Nat → Nat → Nat) (σ : SG) (ν : NU) (ρ : RH) (lo : Int64) (p1 : Int32) (p2 : Int32) (p3 : Int32) (p4 : Int32) (post : Int32 → Prop) (h : wpX7_isInEffect ρ p1 p2 p3 p4 post) : Met l yX7_isInEffect wsX7_isInEffect ({ frames := 2, cells := 0, slots := 0, locals := 45 } : Room) (Pcs z G ad (σ, ν, ρ, lo) [.ref (ad 30 0), .int p1, .int p2, .int p3, .int p4]) (Qis z G ad (fun r S1 => S1 = (σ, ν, ρ, lo) ∧ post r)) 0 0 (Az z) := by
  refine Met.ofW (cc := cX7_isInEffect) (maxL := 9) (ret := (some .boolean)) (by decide) rfl ?_
  intro p e s m args below meth c s₁ B hml hv
  obtain ⟨rfl, hz, hW, hE⟩ := hv
  have hx := B.exec
  have hb := B.bytes
  have hr := B.returns
  have hts := atoms_spec (ws := wsX7_isInEffect) B.pre
  have hown : s.vm.findClass RX7 = some m.cls := findClass_of_methodNamed B.named
  have hlocks := B.notSynchronized
  have X : Cx p l e s m _ below meth c cX7_isInEffect (some .boolean) 9 RX7 wsX7_isInEffect z G := ⟨hx, hb, hr, hml, hown, hts, hlocks, hE, hz⟩
  have hS : va_S (Az z) s.heap s.heap [] := va_S.rf
  have hl := lv_entry [.ref (ad 30 0), .int p1, .int p2, .int p3, .int p4] (n := 9) (Nat.le_of_ble_eq_true rfl)
  rw [lg_entry_eq]
  generalize (lg_sl [.ref (ad 30 0), .int p1, .int p2, .int p3, .int p4] ++ List.replicate (9 - (lg_sl [.ref (ad 30 0), .int p1, .int p2, .int p3, .int p4]).length) Slot.unset).toArray = ls at hl ⊢
  have hl : lv_has ls 9 [(0, .ref (ad 30 0)), (1, .int p1), (2, .int p2), (3, .int p3), (4, .int p4)] := hl
  unfold wpX7_isInEffect at h
  refine lv_aload_n hx hb dX7_isInEffect_0 rfl (lv_at hl 0 rfl) ?_
  refine lv_iload_n hx hb dX7_isInEffect_1 rfl (lv_at hl 1 rfl) ?_
  refine lv_iload_n hx hb dX7_isInEffect_2 rfl (lv_at hl 3 rfl) ?_
  refine k_Vi (rest := []) (As := [.int p1, .int p3]) ⟨hx, hb, hml, hown, hts⟩ hE hz hS hW (mtX7_commencesBy l z G ad σ ν ρ lo p1 p3 _ h) (cwV 2 hts gX7_isInEffect_X7_commencesBy rfl rfl rfl (by decide +kernel) ⟨Nat.le_of_ble_eq_true rfl, Nat.le_of_ble_eq_true rfl⟩) (r_recv hE hW 30 0 rfl (ci := 10) rfl rfl) rfl hl.1 rfl (Nat.le_of_ble_eq_true rfl) dX7_isInEffect_3 ⟨Nat.le_of_ble_eq_true rfl, Nat.le_of_ble_eq_true rfl⟩ (fun r1 S1 H locs hp hW hS => ?_)
  obtain ⟨rfl, h⟩ := hp
  refine lv_istore (lv' := [(5, .int r1), (0, .ref (ad 30 0)), (1, .int p1), (2, .int p2), (3, .int p3), (4, .int p4)]) hx hb dX7_isInEffect_6 hl (by decide) rfl (fun ls hl => ?_)
  refine lv_aload_n hx hb dX7_isInEffect_8 rfl (lv_at hl 1 rfl) ?_
  refine r_get (C := RX7) (T := TX7) (N := 49) (ci := 10) (fs := fl_30 ad ν ρ 0 (σ 30 0)) hx hb hts hown hE hW 30 0 rfl rfl rfl (fun w h => List.mem_cons_of_mem _ (List.mem_append_right _ h)) 25 (by decide) (List.mem_of_getElem? (i := 1) rfl) rfl (v := .ref (ad 125 0)) rfl dX7_isInEffect_9 ?_
  refine lv_iload_n hx hb dX7_isInEffect_12 rfl (lv_at hl 2 rfl) ?_
  obtain ⟨b2, h⟩ := h
  refine r_iald hx hb hE hW 125 0 ⟨rfl, by decide, by decide⟩ (n := 40) (f := ρ 25) rfl b2 (v := ρ 25 p1.toNatClampNeg) rfl dX7_isInEffect_13 ?_
  refine lv_iconst (v := (-1 : Int32)) hx hb dX7_isInEffect_14 (by decide) ?_
  refine r_icmp_eq hx hb rfl (show (-1 : Int32).toInt = (-1) by decide) (tgt := 32) dX7_isInEffect_15 (by decide) (fun c3 => ?_) (fun c3 => ?_)
  · have h := ite_t c3 h
    refine lv_iconst (v := (0 : Int32)) hx hb dX7_isInEffect_32 (by decide) ?_
    exact tX7_isInEffect_33 (σ := σ) (ρ := ρ) X p1 p2 p3 p4 post  r1 ((0 : Int32)) hW hS (lv_sub hl [1, 2, 3, 4, 5, 0] rfl) h
  · have h := ite_f c3 h
    refine lv_aload_n hx hb dX7_isInEffect_18 rfl (lv_at hl 1 rfl) ?_
    refine r_get (C := RX7) (T := TX7) (N := 49) (ci := 10) (fs := fl_30 ad ν ρ 0 (σ 30 0)) hx hb hts hown hE hW 30 0 rfl rfl rfl (fun w h => List.mem_cons_of_mem _ (List.mem_append_right _ h)) 25 (by decide) (List.mem_of_getElem? (i := 1) rfl) rfl (v := .ref (ad 125 0)) rfl dX7_isInEffect_19 ?_
    refine lv_iload_n hx hb dX7_isInEffect_22 rfl (lv_at hl 2 rfl) ?_
    obtain ⟨b23, h⟩ := h
    refine r_iald hx hb hE hW 125 0 ⟨rfl, by decide, by decide⟩ (n := 40) (f := ρ 25) rfl b23 (v := ρ 25 p1.toNatClampNeg) rfl dX7_isInEffect_23 ?_
    refine lv_iload_n hx hb dX7_isInEffect_24 rfl (lv_at hl 3 rfl) ?_
    refine r_icmp_gt hx hb rfl rfl (tgt := 32) dX7_isInEffect_25 (by decide) (fun c24 => ?_) (fun c24 => ?_)
    · have h := ite_f c24 h
      refine lv_iconst (v := (0 : Int32)) hx hb dX7_isInEffect_32 (by decide) ?_
      exact tX7_isInEffect_33 (σ := σ) (ρ := ρ) X p1 p2 p3 p4 post  r1 ((0 : Int32)) hW hS (lv_sub hl [1, 2, 3, 4, 5, 0] rfl) h
    · have h := ite_t c24 h
      refine lv_iconst (v := (1 : Int32)) hx hb dX7_isInEffect_28 (by decide) ?_
      refine lv_goto (tgt := 33) hx hb dX7_isInEffect_29 (by decide) ?_
      exact tX7_isInEffect_33 (σ := σ) (ρ := ρ) X p1 p2 p3 p4 post  r1 ((1 : Int32)) hW hS (lv_sub hl [1, 2, 3, 4, 5, 0] rfl) h
set_option maxHeartbeats 4000000 in
set_option maxRecDepth 100000 in
theorem tX7_hasLabel_6 {p : Program} {l : Launch} {e : Env} {s : State} {m : MethodId} {args : Array Value} {below : List Frame} {meth : Method} {c : Code} {z : Nat} {G : Gl} {ad : Nat → Nat → Nat} {σ : SG} {ν : NU} {ρ : RH} {lo : Int64} (X : Cx p l e s m args below meth c cX7_hasLabel (some .boolean) 6 RX7 wsX7_hasLabel z G) (p1 : Int32) (p2 : Int32) (p3 : Int32)  (post : Int32 → Prop) : ∀ (n : Nat) (x4 : Int32) (x5 : Int32) {H : Heap} {locs : List Loc} {ls : Array Slot}, WP z G ad (σ, ν, ρ, lo) H → va_S (Az z) s.heap H locs → lv_has ls 6 [(0, .ref (ad 30 0)), (1, .int p1), (2, .int p2), (3, .int p3), (4, .int x4), (5, .int x5)] → wX7_hasLabel_6 p1 p2 p3 post n ρ x4 x5 → W p l e ({ frames := 0, cells := 0, slots := 0, locals := 0 } : Room) s m args below meth c H locs 0 0 (MQ below (Qis z G ad (fun r S1 => S1 = (σ, ν, ρ, lo) ∧ post r)) args s 0 0 (Az z)) (F0 m 6 ls []) := by
  obtain ⟨hx, hb, hr, hml, hown, hts, hlocks, hE, hz⟩ := id X
  intro n
  induction n with
  | zero =>
    intro x4 x5 H locs ls hW hS hl h
    exact absurd h id
  | succ n ih =>
    intro x4 x5 H locs ls hW hS hl h
    unfold wX7_hasLabel_6 at h
    refine lv_iload hx hb dX7_hasLabel_6 (lv_at hl 5 rfl) ?_
    refine lv_aload_n hx hb dX7_hasLabel_8 rfl (lv_at hl 0 rfl) ?_
    refine r_get (C := RX7) (T := TX7) (N := 49) (ci := 10) (fs := fl_30 ad ν ρ 0 (σ 30 0)) hx hb hts hown hE hW 30 0 rfl rfl rfl (fun w h => List.mem_cons_of_mem _ (List.mem_append_right _ h)) 12 (by decide) (List.mem_of_getElem? (i := 1) rfl) rfl (v := .int (ρ 12 0)) rfl dX7_hasLabel_9 ?_
    refine r_icmp_ge hx hb rfl rfl (tgt := 71) dX7_hasLabel_12 (by decide) (fun c1 => ?_) (fun c1 => ?_)
    · have h := ite_f c1 h
      refine lv_iload hx hb dX7_hasLabel_71 (lv_at hl 4 rfl) ?_
      obtain ⟨g2, h⟩ := h
      exact W.zret (v := x4) (ty := .boolean) hx hb hr (narrow_bo g2) (fun t ht _ => ⟨⟨_, (σ, ν, ρ, lo), rfl, ⟨rfl, h⟩, WP.at9 ht hW⟩, hS.F ht⟩) hS.2.2 dX7_hasLabel_73 (hlocks := hlocks)
    · have h := ite_t c1 h
      refine lv_iload hx hb dX7_hasLabel_15 (lv_at hl 4 rfl) ?_
      refine r_if_ne hx hb rfl (tgt := 58) dX7_hasLabel_17 (by decide) (fun c3 => ?_) (fun c3 => ?_)
      · have h := ite_f c3 h
        refine lv_iconst (v := (1 : Int32)) hx hb dX7_hasLabel_58 (by decide) ?_
        refine lv_goto (tgt := 63) hx hb dX7_hasLabel_59 (by decide) ?_
        refine lv_istore (lv' := [(4, .int ((1 : Int32))), (0, .ref (ad 30 0)), (1, .int p1), (2, .int p2), (3, .int p3), (5, .int x5)]) hx hb dX7_hasLabel_63 hl (by decide) rfl (fun ls hl => ?_)
        refine lv_iinc (v := x5 + (1 : Int32)) (lv' := [(5, .int (x5 + (1 : Int32))), (4, .int ((1 : Int32))), (0, .ref (ad 30 0)), (1, .int p1), (2, .int p2), (3, .int p3)]) hx hb dX7_hasLabel_65 hl (k := 5) rfl rfl (by decide) rfl (fun ls hl => ?_)
        refine lv_goto (tgt := 6) hx hb dX7_hasLabel_68 (by decide) ?_
        exact ih ((1 : Int32)) (x5 + (1 : Int32)) hW hS (lv_sub hl [2, 3, 4, 5, 1, 0] rfl) h
      · have h := ite_t c3 h
        refine lv_iload hx hb dX7_hasLabel_20 (lv_at hl 5 rfl) ?_
        refine lv_iload_n hx hb dX7_hasLabel_22 rfl (lv_at hl 3 rfl) ?_
        refine r_icmp_eq hx hb rfl rfl (tgt := 62) dX7_hasLabel_23 (by decide) (fun c4 => ?_) (fun c4 => ?_)
        · have h := ite_t c4 h
          refine lv_iconst (v := (0 : Int32)) hx hb dX7_hasLabel_62 (by decide) ?_
          refine lv_istore (lv' := [(4, .int ((0 : Int32))), (0, .ref (ad 30 0)), (1, .int p1), (2, .int p2), (3, .int p3), (5, .int x5)]) hx hb dX7_hasLabel_63 hl (by decide) rfl (fun ls hl => ?_)
          refine lv_iinc (v := x5 + (1 : Int32)) (lv' := [(5, .int (x5 + (1 : Int32))), (4, .int ((0 : Int32))), (0, .ref (ad 30 0)), (1, .int p1), (2, .int p2), (3, .int p3)]) hx hb dX7_hasLabel_65 hl (k := 5) rfl rfl (by decide) rfl (fun ls hl => ?_)
          refine lv_goto (tgt := 6) hx hb dX7_hasLabel_68 (by decide) ?_
          exact ih ((0 : Int32)) (x5 + (1 : Int32)) hW hS (lv_sub hl [2, 3, 4, 5, 1, 0] rfl) h
        · have h := ite_f c4 h
          refine lv_aload_n hx hb dX7_hasLabel_26 rfl (lv_at hl 0 rfl) ?_
          refine r_get (C := RX7) (T := TX7) (N := 49) (ci := 10) (fs := fl_30 ad ν ρ 0 (σ 30 0)) hx hb hts hown hE hW 30 0 rfl rfl rfl (fun w h => List.mem_cons_of_mem _ (List.mem_append_right _ h)) 37 (by decide) (List.mem_of_getElem? (i := 2) rfl) rfl (v := .ref (ad 137 0)) rfl dX7_hasLabel_27 ?_
          refine lv_iload hx hb dX7_hasLabel_30 (lv_at hl 5 rfl) ?_
          obtain ⟨b5, h⟩ := h
          refine r_zald hx hb hE hW 137 0 ⟨rfl, by decide, by decide⟩ (n := 20) (f := ρ 37) rfl b5 (v := ρ 37 x5.toNatClampNeg) rfl dX7_hasLabel_32 ?_
          refine r_if_eq hx hb rfl (tgt := 62) dX7_hasLabel_33 (by decide) (fun c6 => ?_) (fun c6 => ?_)
          · have h := ite_t c6 h
            refine lv_iconst (v := (0 : Int32)) hx hb dX7_hasLabel_62 (by decide) ?_
            refine lv_istore (lv' := [(4, .int ((0 : Int32))), (0, .ref (ad 30 0)), (1, .int p1), (2, .int p2), (3, .int p3), (5, .int x5)]) hx hb dX7_hasLabel_63 hl (by decide) rfl (fun ls hl => ?_)
            refine lv_iinc (v := x5 + (1 : Int32)) (lv' := [(5, .int (x5 + (1 : Int32))), (4, .int ((0 : Int32))), (0, .ref (ad 30 0)), (1, .int p1), (2, .int p2), (3, .int p3)]) hx hb dX7_hasLabel_65 hl (k := 5) rfl rfl (by decide) rfl (fun ls hl => ?_)
            refine lv_goto (tgt := 6) hx hb dX7_hasLabel_68 (by decide) ?_
            exact ih ((0 : Int32)) (x5 + (1 : Int32)) hW hS (lv_sub hl [2, 3, 4, 5, 1, 0] rfl) h
          · have h := ite_f c6 h
            refine lv_aload_n hx hb dX7_hasLabel_36 rfl (lv_at hl 0 rfl) ?_
            refine r_get (C := RX7) (T := TX7) (N := 49) (ci := 10) (fs := fl_30 ad ν ρ 0 (σ 30 0)) hx hb hts hown hE hW 30 0 rfl rfl rfl (fun w h => List.mem_cons_of_mem _ (List.mem_append_right _ h)) 39 (by decide) (List.mem_of_getElem? (i := 3) rfl) rfl (v := .ref (ad 139 0)) rfl dX7_hasLabel_37 ?_
            refine lv_iload hx hb dX7_hasLabel_40 (lv_at hl 5 rfl) ?_
            obtain ⟨b7, h⟩ := h
            refine r_iald hx hb hE hW 139 0 ⟨rfl, by decide, by decide⟩ (n := 20) (f := ρ 39) rfl b7 (v := ρ 39 x5.toNatClampNeg) rfl dX7_hasLabel_42 ?_
            refine lv_iload_n hx hb dX7_hasLabel_43 rfl (lv_at hl 1 rfl) ?_
            refine r_icmp_ne hx hb rfl rfl (tgt := 62) dX7_hasLabel_44 (by decide) (fun c8 => ?_) (fun c8 => ?_)
            · have h := ite_f c8 h
              refine lv_iconst (v := (0 : Int32)) hx hb dX7_hasLabel_62 (by decide) ?_
              refine lv_istore (lv' := [(4, .int ((0 : Int32))), (0, .ref (ad 30 0)), (1, .int p1), (2, .int p2), (3, .int p3), (5, .int x5)]) hx hb dX7_hasLabel_63 hl (by decide) rfl (fun ls hl => ?_)
              refine lv_iinc (v := x5 + (1 : Int32)) (lv' := [(5, .int (x5 + (1 : Int32))), (4, .int ((0 : Int32))), (0, .ref (ad 30 0)), (1, .int p1), (2, .int p2), (3, .int p3)]) hx hb dX7_hasLabel_65 hl (k := 5) rfl rfl (by decide) rfl (fun ls hl => ?_)
              refine lv_goto (tgt := 6) hx hb dX7_hasLabel_68 (by decide) ?_
              exact ih ((0 : Int32)) (x5 + (1 : Int32)) hW hS (lv_sub hl [2, 3, 4, 5, 1, 0] rfl) h
            · have h := ite_t c8 h
              refine lv_aload_n hx hb dX7_hasLabel_47 rfl (lv_at hl 0 rfl) ?_
              refine r_get (C := RX7) (T := TX7) (N := 49) (ci := 10) (fs := fl_30 ad ν ρ 0 (σ 30 0)) hx hb hts hown hE hW 30 0 rfl rfl rfl (fun w h => List.mem_cons_of_mem _ (List.mem_append_right _ h)) 38 (by decide) (List.mem_of_getElem? (i := 4) rfl) rfl (v := .ref (ad 138 0)) rfl dX7_hasLabel_48 ?_
              refine lv_iload hx hb dX7_hasLabel_51 (lv_at hl 5 rfl) ?_
              obtain ⟨b9, h⟩ := h
              refine r_iald hx hb hE hW 138 0 ⟨rfl, by decide, by decide⟩ (n := 20) (f := ρ 38) rfl b9 (v := ρ 38 x5.toNatClampNeg) rfl dX7_hasLabel_53 ?_
              refine lv_iload_n hx hb dX7_hasLabel_54 rfl (lv_at hl 2 rfl) ?_
              refine r_icmp_ne hx hb rfl rfl (tgt := 62) dX7_hasLabel_55 (by decide) (fun c10 => ?_) (fun c10 => ?_)
              · have h := ite_f c10 h
                refine lv_iconst (v := (0 : Int32)) hx hb dX7_hasLabel_62 (by decide) ?_
                refine lv_istore (lv' := [(4, .int ((0 : Int32))), (0, .ref (ad 30 0)), (1, .int p1), (2, .int p2), (3, .int p3), (5, .int x5)]) hx hb dX7_hasLabel_63 hl (by decide) rfl (fun ls hl => ?_)
                refine lv_iinc (v := x5 + (1 : Int32)) (lv' := [(5, .int (x5 + (1 : Int32))), (4, .int ((0 : Int32))), (0, .ref (ad 30 0)), (1, .int p1), (2, .int p2), (3, .int p3)]) hx hb dX7_hasLabel_65 hl (k := 5) rfl rfl (by decide) rfl (fun ls hl => ?_)
                refine lv_goto (tgt := 6) hx hb dX7_hasLabel_68 (by decide) ?_
                exact ih ((0 : Int32)) (x5 + (1 : Int32)) hW hS (lv_sub hl [2, 3, 4, 5, 1, 0] rfl) h
              · have h := ite_t c10 h
                refine lv_iconst (v := (1 : Int32)) hx hb dX7_hasLabel_58 (by decide) ?_
                refine lv_goto (tgt := 63) hx hb dX7_hasLabel_59 (by decide) ?_
                refine lv_istore (lv' := [(4, .int ((1 : Int32))), (0, .ref (ad 30 0)), (1, .int p1), (2, .int p2), (3, .int p3), (5, .int x5)]) hx hb dX7_hasLabel_63 hl (by decide) rfl (fun ls hl => ?_)
                refine lv_iinc (v := x5 + (1 : Int32)) (lv' := [(5, .int (x5 + (1 : Int32))), (4, .int ((1 : Int32))), (0, .ref (ad 30 0)), (1, .int p1), (2, .int p2), (3, .int p3)]) hx hb dX7_hasLabel_65 hl (k := 5) rfl rfl (by decide) rfl (fun ls hl => ?_)
                refine lv_goto (tgt := 6) hx hb dX7_hasLabel_68 (by decide) ?_
                exact ih ((1 : Int32)) (x5 + (1 : Int32)) hW hS (lv_sub hl [2, 3, 4, 5, 1, 0] rfl) h
set_option maxHeartbeats 4000000 in
set_option maxRecDepth 100000 in
theorem mtX7_hasLabel (l : Launch) (z : Nat) (G : Gl) (ad : Nat → Nat → Nat) (σ : SG) (ν : NU) (ρ : RH) (lo : Int64) (p1 : Int32) (p2 : Int32) (p3 : Int32) (post : Int32 → Prop) (h : wpX7_hasLabel ρ p1 p2 p3 post) : Met l yX7_hasLabel wsX7_hasLabel ({ frames := 0, cells := 0, slots := 0, locals := 0 } : Room) (Pcs z G ad (σ, ν, ρ, lo) [.ref (ad 30 0), .int p1, .int p2, .int p3]) (Qis z G ad (fun r S1 => S1 = (σ, ν, ρ, lo) ∧ post r)) 0 0 (Az z) := by
  refine Met.ofW (cc := cX7_hasLabel) (maxL := 6) (ret := (some .boolean)) (by decide) rfl ?_
  intro p e s m args below meth c s₁ B hml hv
  obtain ⟨rfl, hz, hW, hE⟩ := hv
  have hx := B.exec
  have hb := B.bytes
  have hr := B.returns
  have hts := atoms_spec (ws := wsX7_hasLabel) B.pre
  have hown : s.vm.findClass RX7 = some m.cls := findClass_of_methodNamed B.named
  have hlocks := B.notSynchronized
  have X : Cx p l e s m _ below meth c cX7_hasLabel (some .boolean) 6 RX7 wsX7_hasLabel z G := ⟨hx, hb, hr, hml, hown, hts, hlocks, hE, hz⟩
  have hS : va_S (Az z) s.heap s.heap [] := va_S.rf
  have hl := lv_entry [.ref (ad 30 0), .int p1, .int p2, .int p3] (n := 6) (Nat.le_of_ble_eq_true rfl)
  rw [lg_entry_eq]
  generalize (lg_sl [.ref (ad 30 0), .int p1, .int p2, .int p3] ++ List.replicate (6 - (lg_sl [.ref (ad 30 0), .int p1, .int p2, .int p3]).length) Slot.unset).toArray = ls at hl ⊢
  have hl : lv_has ls 6 [(0, .ref (ad 30 0)), (1, .int p1), (2, .int p2), (3, .int p3)] := hl
  unfold wpX7_hasLabel at h
  refine lv_iconst (v := (0 : Int32)) hx hb dX7_hasLabel_0 (by decide) ?_
  refine lv_istore (lv' := [(4, .int ((0 : Int32))), (0, .ref (ad 30 0)), (1, .int p1), (2, .int p2), (3, .int p3)]) hx hb dX7_hasLabel_1 hl (by decide) rfl (fun ls hl => ?_)
  refine lv_iconst (v := (0 : Int32)) hx hb dX7_hasLabel_3 (by decide) ?_
  refine lv_istore (lv' := [(5, .int ((0 : Int32))), (4, .int ((0 : Int32))), (0, .ref (ad 30 0)), (1, .int p1), (2, .int p2), (3, .int p3)]) hx hb dX7_hasLabel_4 hl (by decide) rfl (fun ls hl => ?_)
  obtain ⟨n11, h⟩ := h
  exact tX7_hasLabel_6 (σ := σ) (ρ := ρ) X p1 p2 p3 post  n11 ((0 : Int32)) ((0 : Int32)) hW hS (lv_sub hl [2, 3, 4, 5, 1, 0] rfl) h
set_option maxHeartbeats 4000000 in
set_option maxRecDepth 100000 in
theorem mtX7_isPlace (l : Launch) (z : Nat) (G : Gl) (ad : Nat → Nat → Nat) (σ : SG) (ν : NU) (ρ : RH) (lo : Int64) (p1 : Int32) (post : Int32 → Prop) (h : wpX7_isPlace ρ p1 post) : Met l yX7_isPlace wsX7_isPlace ({ frames := 0, cells := 0, slots := 0, locals := 0 } : Room) (Pcs z G ad (σ, ν, ρ, lo) [.ref (ad 30 0), .int p1]) (Qis z G ad (fun r S1 => S1 = (σ, ν, ρ, lo) ∧ post r)) 0 0 (Az z) := by
  refine Met.ofW (cc := cX7_isPlace) (maxL := 2) (ret := (some .boolean)) (by decide) rfl ?_
  intro p e s m args below meth c s₁ B hml hv
  obtain ⟨rfl, hz, hW, hE⟩ := hv
  have hx := B.exec
  have hb := B.bytes
  have hr := B.returns
  have hts := atoms_spec (ws := wsX7_isPlace) B.pre
  have hown : s.vm.findClass RX7 = some m.cls := findClass_of_methodNamed B.named
  have hlocks := B.notSynchronized
  have X : Cx p l e s m _ below meth c cX7_isPlace (some .boolean) 2 RX7 wsX7_isPlace z G := ⟨hx, hb, hr, hml, hown, hts, hlocks, hE, hz⟩
  have hS : va_S (Az z) s.heap s.heap [] := va_S.rf
  have hl := lv_entry [.ref (ad 30 0), .int p1] (n := 2) (Nat.le_of_ble_eq_true rfl)
  rw [lg_entry_eq]
  generalize (lg_sl [.ref (ad 30 0), .int p1] ++ List.replicate (2 - (lg_sl [.ref (ad 30 0), .int p1]).length) Slot.unset).toArray = ls at hl ⊢
  have hl : lv_has ls 2 [(0, .ref (ad 30 0)), (1, .int p1)] := hl
  unfold wpX7_isPlace at h
  refine lv_iload_n hx hb dX7_isPlace_0 rfl (lv_at hl 1 rfl) ?_
  refine lv_iconst (v := (-1 : Int32)) hx hb dX7_isPlace_1 (by decide) ?_
  refine r_icmp_eq hx hb rfl (show (-1 : Int32).toInt = (-1) by decide) (tgt := 14) dX7_isPlace_2 (by decide) (fun c1 => ?_) (fun c1 => ?_)
  · have h := ite_t c1 h
    refine lv_iconst (v := (1 : Int32)) hx hb dX7_isPlace_14 (by decide) ?_
    refine lv_goto (tgt := 19) hx hb dX7_isPlace_15 (by decide) ?_
    exact W.zret (v := (1 : Int32)) (ty := .boolean) hx hb hr rfl (fun t ht _ => ⟨⟨_, (σ, ν, ρ, lo), rfl, ⟨rfl, h⟩, WP.at9 ht hW⟩, hS.F ht⟩) hS.2.2 dX7_isPlace_19 (hlocks := hlocks)
  · have h := ite_f c1 h
    refine lv_aload_n hx hb dX7_isPlace_5 rfl (lv_at hl 0 rfl) ?_
    refine r_get (C := RX7) (T := TX7) (N := 49) (ci := 10) (fs := fl_30 ad ν ρ 0 (σ 30 0)) hx hb hts hown hE hW 30 0 rfl rfl rfl (fun w h => List.mem_cons_of_mem _ (List.mem_append_right _ h)) 37 (by decide) (List.mem_of_getElem? (i := 1) rfl) rfl (v := .ref (ad 137 0)) rfl dX7_isPlace_6 ?_
    refine lv_iload_n hx hb dX7_isPlace_9 rfl (lv_at hl 1 rfl) ?_
    obtain ⟨b2, h⟩ := h
    refine r_zald hx hb hE hW 137 0 ⟨rfl, by decide, by decide⟩ (n := 20) (f := ρ 37) rfl b2 (v := ρ 37 p1.toNatClampNeg) rfl dX7_isPlace_10 ?_
    refine r_if_eq hx hb rfl (tgt := 18) dX7_isPlace_11 (by decide) (fun c3 => ?_) (fun c3 => ?_)
    · have h := ite_t c3 h
      refine lv_iconst (v := (0 : Int32)) hx hb dX7_isPlace_18 (by decide) ?_
      exact W.zret (v := (0 : Int32)) (ty := .boolean) hx hb hr rfl (fun t ht _ => ⟨⟨_, (σ, ν, ρ, lo), rfl, ⟨rfl, h⟩, WP.at9 ht hW⟩, hS.F ht⟩) hS.2.2 dX7_isPlace_19 (hlocks := hlocks)
    · have h := ite_f c3 h
      refine lv_iconst (v := (1 : Int32)) hx hb dX7_isPlace_14 (by decide) ?_
      refine lv_goto (tgt := 19) hx hb dX7_isPlace_15 (by decide) ?_
      exact W.zret (v := (1 : Int32)) (ty := .boolean) hx hb hr rfl (fun t ht _ => ⟨⟨_, (σ, ν, ρ, lo), rfl, ⟨rfl, h⟩, WP.at9 ht hW⟩, hS.F ht⟩) hS.2.2 dX7_isPlace_19 (hlocks := hlocks)
set_option maxHeartbeats 4000000 in
set_option maxRecDepth 100000 in
theorem tX7_isWithin_22 {p : Program} {l : Launch} {e : Env} {s : State} {m : MethodId} {args : Array Value} {below : List Frame} {meth : Method} {c : Code} {z : Nat} {G : Gl} {ad : Nat → Nat → Nat} {σ : SG} {ν : NU} {ρ : RH} {lo : Int64} (X : Cx p l e s m args below meth c cX7_isWithin (some .boolean) 4 RX7 wsX7_isWithin z G) (p1 : Int32) (p2 : Int32)  (post : Int32 → Prop) : ∀ (x3 : Int32) {H : Heap} {locs : List Loc} {ls : Array Slot}, WP z G ad (σ, ν, ρ, lo) H → va_S (Az z) s.heap H locs → lv_has ls 4 [(2, .int p2), (3, .int x3)] → jX7_isWithin_22 p1 p2 post ρ x3 → W p l e ({ frames := 0, cells := 0, slots := 0, locals := 0 } : Room) s m args below meth c H locs 0 0 (MQ below (Qis z G ad (fun r S1 => S1 = (σ, ν, ρ, lo) ∧ post r)) args s 0 0 (Az z)) (F0 m 22 ls []) := by
  obtain ⟨hx, hb, hr, hml, hown, hts, hlocks, hE, hz⟩ := id X
  intro x3 H locs ls hW hS hl h
  unfold jX7_isWithin_22 at h
  refine lv_iload_n hx hb dX7_isWithin_22 rfl (lv_at hl 1 rfl) ?_
  refine lv_iload_n hx hb dX7_isWithin_23 rfl (lv_at hl 0 rfl) ?_
  refine r_icmp_ne hx hb rfl rfl (tgt := 31) dX7_isWithin_24 (by decide) (fun c2 => ?_) (fun c2 => ?_)
  · have h := ite_f c2 h
    refine lv_iconst (v := (0 : Int32)) hx hb dX7_isWithin_31 (by decide) ?_
    exact W.zret (v := (0 : Int32)) (ty := .boolean) hx hb hr rfl (fun t ht _ => ⟨⟨_, (σ, ν, ρ, lo), rfl, ⟨rfl, h⟩, WP.at9 ht hW⟩, hS.F ht⟩) hS.2.2 dX7_isWithin_32 (hlocks := hlocks)
  · have h := ite_t c2 h
    refine lv_iconst (v := (1 : Int32)) hx hb dX7_isWithin_27 (by decide) ?_
    refine lv_goto (tgt := 32) hx hb dX7_isWithin_28 (by decide) ?_
    exact W.zret (v := (1 : Int32)) (ty := .boolean) hx hb hr rfl (fun t ht _ => ⟨⟨_, (σ, ν, ρ, lo), rfl, ⟨rfl, h⟩, WP.at9 ht hW⟩, hS.F ht⟩) hS.2.2 dX7_isWithin_32 (hlocks := hlocks)
set_option maxHeartbeats 4000000 in
set_option maxRecDepth 100000 in
theorem tX7_isWithin_2 {p : Program} {l : Launch} {e : Env} {s : State} {m : MethodId} {args : Array Value} {below : List Frame} {meth : Method} {c : Code} {z : Nat} {G : Gl} {ad : Nat → Nat → Nat} {σ : SG} {ν : NU} {ρ : RH} {lo : Int64} (X : Cx p l e s m args below meth c cX7_isWithin (some .boolean) 4 RX7 wsX7_isWithin z G) (p1 : Int32) (p2 : Int32)  (post : Int32 → Prop) : ∀ (n : Nat) (x3 : Int32) {H : Heap} {locs : List Loc} {ls : Array Slot}, WP z G ad (σ, ν, ρ, lo) H → va_S (Az z) s.heap H locs → lv_has ls 4 [(0, .ref (ad 30 0)), (2, .int p2), (3, .int x3)] → wX7_isWithin_2 p1 p2 post n ρ x3 → W p l e ({ frames := 0, cells := 0, slots := 0, locals := 0 } : Room) s m args below meth c H locs 0 0 (MQ below (Qis z G ad (fun r S1 => S1 = (σ, ν, ρ, lo) ∧ post r)) args s 0 0 (Az z)) (F0 m 2 ls []) := by
  obtain ⟨hx, hb, hr, hml, hown, hts, hlocks, hE, hz⟩ := id X
  intro n
  induction n with
  | zero =>
    intro x3 H locs ls hW hS hl h
    exact absurd h id
  | succ n ih =>
    intro x3 H locs ls hW hS hl h
    unfold wX7_isWithin_2 at h
    refine lv_iload_n hx hb dX7_isWithin_2 rfl (lv_at hl 2 rfl) ?_
    refine lv_iconst (v := (-1 : Int32)) hx hb dX7_isWithin_3 (by decide) ?_
    refine r_icmp_eq hx hb rfl (show (-1 : Int32).toInt = (-1) by decide) (tgt := 22) dX7_isWithin_4 (by decide) (fun c1 => ?_) (fun c1 => ?_)
    · have h := ite_t c1 h
      exact tX7_isWithin_22 (σ := σ) (ρ := ρ) X p1 p2 post  x3 hW hS (lv_sub hl [1, 2] rfl) h
    · have h := ite_f c1 h
      refine lv_iload_n hx hb dX7_isWithin_7 rfl (lv_at hl 2 rfl) ?_
      refine lv_iload_n hx hb dX7_isWithin_8 rfl (lv_at hl 1 rfl) ?_
      refine r_icmp_eq hx hb rfl rfl (tgt := 22) dX7_isWithin_9 (by decide) (fun c3 => ?_) (fun c3 => ?_)
      · have h := ite_t c3 h
        exact tX7_isWithin_22 (σ := σ) (ρ := ρ) X p1 p2 post  x3 hW hS (lv_sub hl [1, 2] rfl) h
      · have h := ite_f c3 h
        refine lv_aload_n hx hb dX7_isWithin_12 rfl (lv_at hl 0 rfl) ?_
        refine r_get (C := RX7) (T := TX7) (N := 49) (ci := 10) (fs := fl_30 ad ν ρ 0 (σ 30 0)) hx hb hts hown hE hW 30 0 rfl rfl rfl (fun w h => List.mem_cons_of_mem _ (List.mem_append_right _ h)) 39 (by decide) (List.mem_of_getElem? (i := 1) rfl) rfl (v := .ref (ad 139 0)) rfl dX7_isWithin_13 ?_
        refine lv_iload_n hx hb dX7_isWithin_16 rfl (lv_at hl 2 rfl) ?_
        obtain ⟨b4, h⟩ := h
        refine r_iald hx hb hE hW 139 0 ⟨rfl, by decide, by decide⟩ (n := 20) (f := ρ 39) rfl b4 (v := ρ 39 x3.toNatClampNeg) rfl dX7_isWithin_17 ?_
        refine lv_istore_n (lv' := [(3, .int (ρ 39 x3.toNatClampNeg)), (0, .ref (ad 30 0)), (2, .int p2)]) hx hb dX7_isWithin_18 rfl hl (by decide) rfl (fun ls hl => ?_)
        refine lv_goto (tgt := 2) hx hb dX7_isWithin_19 (by decide) ?_
        exact ih (ρ 39 x3.toNatClampNeg) hW hS (lv_sub hl [1, 2, 0] rfl) h
set_option maxHeartbeats 4000000 in
set_option maxRecDepth 100000 in
theorem mtX7_isWithin (l : Launch) (z : Nat) (G : Gl) (ad : Nat → Nat → Nat) (σ : SG) (ν : NU) (ρ : RH) (lo : Int64) (p1 : Int32) (p2 : Int32) (post : Int32 → Prop) (h : wpX7_isWithin ρ p1 p2 post) : Met l yX7_isWithin wsX7_isWithin ({ frames := 0, cells := 0, slots := 0, locals := 0 } : Room) (Pcs z G ad (σ, ν, ρ, lo) [.ref (ad 30 0), .int p1, .int p2]) (Qis z G ad (fun r S1 => S1 = (σ, ν, ρ, lo) ∧ post r)) 0 0 (Az z) := by
  refine Met.ofW (cc := cX7_isWithin) (maxL := 4) (ret := (some .boolean)) (by decide) rfl ?_
  intro p e s m args below meth c s₁ B hml hv
  obtain ⟨rfl, hz, hW, hE⟩ := hv
  have hx := B.exec
  have hb := B.bytes
  have hr := B.returns
  have hts := atoms_spec (ws := wsX7_isWithin) B.pre
  have hown : s.vm.findClass RX7 = some m.cls := findClass_of_methodNamed B.named
  have hlocks := B.notSynchronized
  have X : Cx p l e s m _ below meth c cX7_isWithin (some .boolean) 4 RX7 wsX7_isWithin z G := ⟨hx, hb, hr, hml, hown, hts, hlocks, hE, hz⟩
  have hS : va_S (Az z) s.heap s.heap [] := va_S.rf
  have hl := lv_entry [.ref (ad 30 0), .int p1, .int p2] (n := 4) (Nat.le_of_ble_eq_true rfl)
  rw [lg_entry_eq]
  generalize (lg_sl [.ref (ad 30 0), .int p1, .int p2] ++ List.replicate (4 - (lg_sl [.ref (ad 30 0), .int p1, .int p2]).length) Slot.unset).toArray = ls at hl ⊢
  have hl : lv_has ls 4 [(0, .ref (ad 30 0)), (1, .int p1), (2, .int p2)] := hl
  unfold wpX7_isWithin at h
  refine lv_iload_n hx hb dX7_isWithin_0 rfl (lv_at hl 1 rfl) ?_
  refine lv_istore_n (lv' := [(3, .int p1), (0, .ref (ad 30 0)), (1, .int p1), (2, .int p2)]) hx hb dX7_isWithin_1 rfl hl (by decide) rfl (fun ls hl => ?_)
  obtain ⟨n5, h⟩ := h
  exact tX7_isWithin_2 (σ := σ) (ρ := ρ) X p1 p2 post  n5 p1 hW hS (lv_sub hl [1, 3, 0] rfl) h
set_option maxHeartbeats 4000000 in
set_option maxRecDepth 100000 in
theorem tX7_isFoundAt_27 {p : Program} {l : Launch} {e : Env} {s : State} {m : MethodId} {args : Array Value} {below : List Frame} {meth : Method} {c : Code} {z : Nat} {G : Gl} {ad : Nat → Nat → Nat} {σ : SG} {ν : NU} {ρ : RH} {lo : Int64} (X : Cx p l e s m args below meth c cX7_isFoundAt (some .boolean) 6 RX7 wsX7_isFoundAt z G) (p1 : Int32) (p2 : Int32) (p3 : Int32)  (post : Int32 → Prop) : ∀ (n : Nat) (x4 : Int32) (x5 : Int32) {H : Heap} {locs : List Loc} {ls : Array Slot}, WP z G ad (σ, ν, ρ, lo) H → va_S (Az z) s.heap H locs → lv_has ls 6 [(0, .ref (ad 30 0)), (1, .int p1), (2, .int p2), (3, .int p3), (4, .int x4), (5, .int x5)] → wX7_isFoundAt_27 p1 p2 p3 post n ρ x4 x5 → W p l e ({ frames := 0, cells := 0, slots := 0, locals := 0 } : Room) s m args below meth c H locs 0 0 (MQ below (Qis z G ad (fun r S1 => S1 = (σ, ν, ρ, lo) ∧ post r)) args s 0 0 (Az z)) (F0 m 27 ls []) := by
  obtain ⟨hx, hb, hr, hml, hown, hts, hlocks, hE, hz⟩ := id X
  intro n
  induction n with
  | zero =>
    intro x4 x5 H locs ls hW hS hl h
    exact absurd h id
  | succ n ih =>
    intro x4 x5 H locs ls hW hS hl h
    unfold wX7_isFoundAt_27 at h
    refine lv_iload hx hb dX7_isFoundAt_27 (lv_at hl 5 rfl) ?_
    refine lv_aload_n hx hb dX7_isFoundAt_29 rfl (lv_at hl 0 rfl) ?_
    refine r_get (C := RX7) (T := TX7) (N := 49) (ci := 10) (fs := fl_30 ad ν ρ 0 (σ 30 0)) hx hb hts hown hE hW 30 0 rfl rfl rfl (fun w h => List.mem_cons_of_mem _ (List.mem_append_right _ h)) 18 (by decide) (List.mem_of_getElem? (i := 1) rfl) rfl (v := .ref (ad 118 0)) rfl dX7_isFoundAt_30 ?_
    refine lv_iload_n hx hb dX7_isFoundAt_33 rfl (lv_at hl 1 rfl) ?_
    obtain ⟨b4, h⟩ := h
    refine r_iald hx hb hE hW 118 0 ⟨rfl, by decide, by decide⟩ (n := 40) (f := ρ 18) rfl b4 (v := ρ 18 p1.toNatClampNeg) rfl dX7_isFoundAt_34 ?_
    refine r_icmp_ge hx hb rfl rfl (tgt := 84) dX7_isFoundAt_35 (by decide) (fun c5 => ?_) (fun c5 => ?_)
    · have h := ite_f c5 h
      refine lv_iload hx hb dX7_isFoundAt_84 (lv_at hl 4 rfl) ?_
      obtain ⟨g6, h⟩ := h
      exact W.zret (v := x4) (ty := .boolean) hx hb hr (narrow_bo g6) (fun t ht _ => ⟨⟨_, (σ, ν, ρ, lo), rfl, ⟨rfl, h⟩, WP.at9 ht hW⟩, hS.F ht⟩) hS.2.2 dX7_isFoundAt_86 (hlocks := hlocks)
    · have h := ite_t c5 h
      refine lv_iload hx hb dX7_isFoundAt_38 (lv_at hl 4 rfl) ?_
      refine r_if_eq hx hb rfl (tgt := 84) dX7_isFoundAt_40 (by decide) (fun c7 => ?_) (fun c7 => ?_)
      · have h := ite_t c7 h
        refine lv_iload hx hb dX7_isFoundAt_84 (lv_at hl 4 rfl) ?_
        obtain ⟨g8, h⟩ := h
        exact W.zret (v := x4) (ty := .boolean) hx hb hr (narrow_bo g8) (fun t ht _ => ⟨⟨_, (σ, ν, ρ, lo), rfl, ⟨rfl, h⟩, WP.at9 ht hW⟩, hS.F ht⟩) hS.2.2 dX7_isFoundAt_86 (hlocks := hlocks)
      · have h := ite_f c7 h
        refine lv_aload_n hx hb dX7_isFoundAt_43 rfl (lv_at hl 0 rfl) ?_
        refine r_get (C := RX7) (T := TX7) (N := 49) (ci := 10) (fs := fl_30 ad ν ρ 0 (σ 30 0)) hx hb hts hown hE hW 30 0 rfl rfl rfl (fun w h => List.mem_cons_of_mem _ (List.mem_append_right _ h)) 41 (by decide) (List.mem_of_getElem? (i := 3) rfl) rfl (v := .ref (ad 141 0)) rfl dX7_isFoundAt_44 ?_
        refine lv_bipush (v := (12 : Int32)) hx hb dX7_isFoundAt_47 (by decide) ?_
        refine lv_iload_n hx hb dX7_isFoundAt_49 rfl (lv_at hl 2 rfl) ?_
        refine lv_imul hx hb dX7_isFoundAt_50 ?_
        refine lv_iload_n hx hb dX7_isFoundAt_51 rfl (lv_at hl 3 rfl) ?_
        refine lv_iadd hx hb dX7_isFoundAt_52 ?_
        refine lv_iload hx hb dX7_isFoundAt_53 (lv_at hl 5 rfl) ?_
        refine lv_iadd hx hb dX7_isFoundAt_55 ?_
        obtain ⟨b9, h⟩ := h
        refine r_iald hx hb hE hW 141 0 ⟨rfl, by decide, by decide⟩ (n := 240) (f := ρ 41) rfl b9 (v := ρ 41 (((((12 : Int32)) * p2) + p3) + x5).toNatClampNeg) rfl dX7_isFoundAt_56 ?_
        refine lv_aload_n hx hb dX7_isFoundAt_57 rfl (lv_at hl 0 rfl) ?_
        refine r_get (C := RX7) (T := TX7) (N := 49) (ci := 10) (fs := fl_30 ad ν ρ 0 (σ 30 0)) hx hb hts hown hE hW 30 0 rfl rfl rfl (fun w h => List.mem_cons_of_mem _ (List.mem_append_right _ h)) 19 (by decide) (List.mem_of_getElem? (i := 4) rfl) rfl (v := .ref (ad 119 0)) rfl dX7_isFoundAt_58 ?_
        refine lv_iconst (v := (4 : Int32)) hx hb dX7_isFoundAt_61 (by decide) ?_
        refine lv_iload_n hx hb dX7_isFoundAt_62 rfl (lv_at hl 1 rfl) ?_
        refine lv_imul hx hb dX7_isFoundAt_63 ?_
        refine lv_iload hx hb dX7_isFoundAt_64 (lv_at hl 5 rfl) ?_
        refine lv_iadd hx hb dX7_isFoundAt_66 ?_
        obtain ⟨b10, h⟩ := h
        refine r_iald hx hb hE hW 119 0 ⟨rfl, by decide, by decide⟩ (n := 160) (f := ρ 19) rfl b10 (v := ρ 19 ((((4 : Int32)) * p1) + x5).toNatClampNeg) rfl dX7_isFoundAt_67 ?_
        refine r_icmp_ne hx hb rfl rfl (tgt := 75) dX7_isFoundAt_68 (by decide) (fun c11 => ?_) (fun c11 => ?_)
        · have h := ite_f c11 h
          refine lv_iconst (v := (0 : Int32)) hx hb dX7_isFoundAt_75 (by decide) ?_
          refine lv_istore (lv' := [(4, .int ((0 : Int32))), (0, .ref (ad 30 0)), (1, .int p1), (2, .int p2), (3, .int p3), (5, .int x5)]) hx hb dX7_isFoundAt_76 hl (by decide) rfl (fun ls hl => ?_)
          refine lv_iinc (v := x5 + (1 : Int32)) (lv' := [(5, .int (x5 + (1 : Int32))), (4, .int ((0 : Int32))), (0, .ref (ad 30 0)), (1, .int p1), (2, .int p2), (3, .int p3)]) hx hb dX7_isFoundAt_78 hl (k := 5) rfl rfl (by decide) rfl (fun ls hl => ?_)
          refine lv_goto (tgt := 27) hx hb dX7_isFoundAt_81 (by decide) ?_
          exact ih ((0 : Int32)) (x5 + (1 : Int32)) hW hS (lv_sub hl [2, 3, 4, 5, 1, 0] rfl) h
        · have h := ite_t c11 h
          refine lv_iconst (v := (1 : Int32)) hx hb dX7_isFoundAt_71 (by decide) ?_
          refine lv_goto (tgt := 76) hx hb dX7_isFoundAt_72 (by decide) ?_
          refine lv_istore (lv' := [(4, .int ((1 : Int32))), (0, .ref (ad 30 0)), (1, .int p1), (2, .int p2), (3, .int p3), (5, .int x5)]) hx hb dX7_isFoundAt_76 hl (by decide) rfl (fun ls hl => ?_)
          refine lv_iinc (v := x5 + (1 : Int32)) (lv' := [(5, .int (x5 + (1 : Int32))), (4, .int ((1 : Int32))), (0, .ref (ad 30 0)), (1, .int p1), (2, .int p2), (3, .int p3)]) hx hb dX7_isFoundAt_78 hl (k := 5) rfl rfl (by decide) rfl (fun ls hl => ?_)
          refine lv_goto (tgt := 27) hx hb dX7_isFoundAt_81 (by decide) ?_
          exact ih ((1 : Int32)) (x5 + (1 : Int32)) hW hS (lv_sub hl [2, 3, 4, 5, 1, 0] rfl) h
set_option maxHeartbeats 4000000 in
set_option maxRecDepth 100000 in
theorem mtX7_isFoundAt (l : Launch) (z : Nat) (G : Gl) (ad : Nat → Nat → Nat) (σ : SG) (ν : NU) (ρ : RH) (lo : Int64) (p1 : Int32) (p2 : Int32) (p3 : Int32) (post : Int32 → Prop) (h : wpX7_isFoundAt ρ p1 p2 p3 post) : Met l yX7_isFoundAt wsX7_isFoundAt ({ frames := 0, cells := 0, slots := 0, locals := 0 } : Room) (Pcs z G ad (σ, ν, ρ, lo) [.ref (ad 30 0), .int p1, .int p2, .int p3]) (Qis z G ad (fun r S1 => S1 = (σ, ν, ρ, lo) ∧ post r)) 0 0 (Az z) := by
  refine Met.ofW (cc := cX7_isFoundAt) (maxL := 6) (ret := (some .boolean)) (by decide) rfl ?_
  intro p e s m args below meth c s₁ B hml hv
  obtain ⟨rfl, hz, hW, hE⟩ := hv
  have hx := B.exec
  have hb := B.bytes
  have hr := B.returns
  have hts := atoms_spec (ws := wsX7_isFoundAt) B.pre
  have hown : s.vm.findClass RX7 = some m.cls := findClass_of_methodNamed B.named
  have hlocks := B.notSynchronized
  have X : Cx p l e s m _ below meth c cX7_isFoundAt (some .boolean) 6 RX7 wsX7_isFoundAt z G := ⟨hx, hb, hr, hml, hown, hts, hlocks, hE, hz⟩
  have hS : va_S (Az z) s.heap s.heap [] := va_S.rf
  have hl := lv_entry [.ref (ad 30 0), .int p1, .int p2, .int p3] (n := 6) (Nat.le_of_ble_eq_true rfl)
  rw [lg_entry_eq]
  generalize (lg_sl [.ref (ad 30 0), .int p1, .int p2, .int p3] ++ List.replicate (6 - (lg_sl [.ref (ad 30 0), .int p1, .int p2, .int p3]).length) Slot.unset).toArray = ls at hl ⊢
  have hl : lv_has ls 6 [(0, .ref (ad 30 0)), (1, .int p1), (2, .int p2), (3, .int p3)] := hl
  unfold wpX7_isFoundAt at h
  refine lv_iload_n hx hb dX7_isFoundAt_0 rfl (lv_at hl 3 rfl) ?_
  refine lv_aload_n hx hb dX7_isFoundAt_1 rfl (lv_at hl 0 rfl) ?_
  refine r_get (C := RX7) (T := TX7) (N := 49) (ci := 10) (fs := fl_30 ad ν ρ 0 (σ 30 0)) hx hb hts hown hE hW 30 0 rfl rfl rfl (fun w h => List.mem_cons_of_mem _ (List.mem_append_right _ h)) 18 (by decide) (List.mem_of_getElem? (i := 1) rfl) rfl (v := .ref (ad 118 0)) rfl dX7_isFoundAt_2 ?_
  refine lv_iload_n hx hb dX7_isFoundAt_5 rfl (lv_at hl 1 rfl) ?_
  obtain ⟨b1, h⟩ := h
  refine r_iald hx hb hE hW 118 0 ⟨rfl, by decide, by decide⟩ (n := 40) (f := ρ 18) rfl b1 (v := ρ 18 p1.toNatClampNeg) rfl dX7_isFoundAt_6 ?_
  refine lv_iadd hx hb dX7_isFoundAt_7 ?_
  refine lv_aload_n hx hb dX7_isFoundAt_8 rfl (lv_at hl 0 rfl) ?_
  refine r_get (C := RX7) (T := TX7) (N := 49) (ci := 10) (fs := fl_30 ad ν ρ 0 (σ 30 0)) hx hb hts hown hE hW 30 0 rfl rfl rfl (fun w h => List.mem_cons_of_mem _ (List.mem_append_right _ h)) 40 (by decide) (List.mem_of_getElem? (i := 2) rfl) rfl (v := .ref (ad 140 0)) rfl dX7_isFoundAt_9 ?_
  refine lv_iload_n hx hb dX7_isFoundAt_12 rfl (lv_at hl 2 rfl) ?_
  obtain ⟨b2, h⟩ := h
  refine r_iald hx hb hE hW 140 0 ⟨rfl, by decide, by decide⟩ (n := 20) (f := ρ 40) rfl b2 (v := ρ 40 p2.toNatClampNeg) rfl dX7_isFoundAt_13 ?_
  refine r_icmp_gt hx hb rfl rfl (tgt := 21) dX7_isFoundAt_14 (by decide) (fun c3 => ?_) (fun c3 => ?_)
  · have h := ite_f c3 h
    refine lv_iconst (v := (0 : Int32)) hx hb dX7_isFoundAt_21 (by decide) ?_
    refine lv_istore (lv' := [(4, .int ((0 : Int32))), (0, .ref (ad 30 0)), (1, .int p1), (2, .int p2), (3, .int p3)]) hx hb dX7_isFoundAt_22 hl (by decide) rfl (fun ls hl => ?_)
    refine lv_iconst (v := (0 : Int32)) hx hb dX7_isFoundAt_24 (by decide) ?_
    refine lv_istore (lv' := [(5, .int ((0 : Int32))), (4, .int ((0 : Int32))), (0, .ref (ad 30 0)), (1, .int p1), (2, .int p2), (3, .int p3)]) hx hb dX7_isFoundAt_25 hl (by decide) rfl (fun ls hl => ?_)
    obtain ⟨n12, h⟩ := h
    exact tX7_isFoundAt_27 (σ := σ) (ρ := ρ) X p1 p2 p3 post  n12 ((0 : Int32)) ((0 : Int32)) hW hS (lv_sub hl [2, 3, 4, 5, 1, 0] rfl) h
  · have h := ite_t c3 h
    refine lv_iconst (v := (1 : Int32)) hx hb dX7_isFoundAt_17 (by decide) ?_
    refine lv_goto (tgt := 22) hx hb dX7_isFoundAt_18 (by decide) ?_
    refine lv_istore (lv' := [(4, .int ((1 : Int32))), (0, .ref (ad 30 0)), (1, .int p1), (2, .int p2), (3, .int p3)]) hx hb dX7_isFoundAt_22 hl (by decide) rfl (fun ls hl => ?_)
    refine lv_iconst (v := (0 : Int32)) hx hb dX7_isFoundAt_24 (by decide) ?_
    refine lv_istore (lv' := [(5, .int ((0 : Int32))), (4, .int ((1 : Int32))), (0, .ref (ad 30 0)), (1, .int p1), (2, .int p2), (3, .int p3)]) hx hb dX7_isFoundAt_25 hl (by decide) rfl (fun ls hl => ?_)
    obtain ⟨n13, h⟩ := h
    exact tX7_isFoundAt_27 (σ := σ) (ρ := ρ) X p1 p2 p3 post  n13 ((1 : Int32)) ((0 : Int32)) hW hS (lv_sub hl [2, 3, 4, 5, 1, 0] rfl) h
set_option maxHeartbeats 4000000 in
set_option maxRecDepth 100000 in
theorem tX7_firstPlace_10 {p : Program} {l : Launch} {e : Env} {s : State} {m : MethodId} {args : Array Value} {below : List Frame} {meth : Method} {c : Code} {z : Nat} {G : Gl} {ad : Nat → Nat → Nat} {σ : SG} {ν : NU} {ρ : RH} {lo : Int64} (X : Cx p l e s m args below meth c cX7_firstPlace (some .int) 5 RX7 wsX7_firstPlace z G) (p1 : Int32) (p2 : Int32)  (post : Int32 → Prop) : ∀ (n : Nat) (x3 : Int32) (x4 : Int32) {H : Heap} {locs : List Loc} {ls : Array Slot}, WP z G ad (σ, ν, ρ, lo) H → va_S (Az z) s.heap H locs → lv_has ls 5 [(0, .ref (ad 30 0)), (1, .int p1), (2, .int p2), (3, .int x3), (4, .int x4)] → wX7_firstPlace_10 p1 p2 post n ρ x3 x4 → W p l e ({ frames := 1, cells := 0, slots := 0, locals := 25 } : Room) s m args below meth c H locs 0 0 (MQ below (Qis z G ad (fun r S1 => S1 = (σ, ν, ρ, lo) ∧ post r)) args s 0 0 (Az z)) (F0 m 10 ls []) := by
  obtain ⟨hx, hb, hr, hml, hown, hts, hlocks, hE, hz⟩ := id X
  intro n
  induction n with
  | zero =>
    intro x3 x4 H locs ls hW hS hl h
    exact absurd h id
  | succ n ih =>
    intro x3 x4 H locs ls hW hS hl h
    unfold wX7_firstPlace_10 at h
    refine lv_iload hx hb dX7_firstPlace_10 (lv_at hl 4 rfl) ?_
    refine r_if_lt hx hb rfl (tgt := 39) dX7_firstPlace_12 (by decide) (fun c2 => ?_) (fun c2 => ?_)
    · have h := ite_t c2 h
      refine lv_iload_n hx hb dX7_firstPlace_39 rfl (lv_at hl 3 rfl) ?_
      exact W.iret (v := x3) hx hb hr (fun t ht _ => ⟨⟨_, (σ, ν, ρ, lo), rfl, ⟨rfl, h⟩, WP.at9 ht hW⟩, hS.F ht⟩) hS.2.2 dX7_firstPlace_40 (hlocks := hlocks)
    · have h := ite_f c2 h
      refine lv_aload_n hx hb dX7_firstPlace_15 rfl (lv_at hl 0 rfl) ?_
      refine lv_iload_n hx hb dX7_firstPlace_16 rfl (lv_at hl 1 rfl) ?_
      refine lv_iload_n hx hb dX7_firstPlace_17 rfl (lv_at hl 2 rfl) ?_
      refine lv_iload hx hb dX7_firstPlace_18 (lv_at hl 4 rfl) ?_
      refine k_Vi (rest := []) (As := [.int p1, .int p2, .int x4]) ⟨hx, hb, hml, hown, hts⟩ hE hz hS hW (mtX7_isFoundAt l z G ad σ ν ρ lo p1 p2 x4 _ h) (cwV 3 hts gX7_firstPlace_X7_isFoundAt rfl rfl rfl (by decide +kernel) ⟨Nat.le_of_ble_eq_true rfl, Nat.le_of_ble_eq_true rfl⟩) (r_recv hE hW 30 0 rfl (ci := 10) rfl rfl) rfl hl.1 rfl (Nat.le_of_ble_eq_true rfl) dX7_firstPlace_20 ⟨Nat.le_of_ble_eq_true rfl, Nat.le_of_ble_eq_true rfl⟩ (fun r3 S1 H locs hp hW hS => ?_)
      obtain ⟨rfl, h⟩ := hp
      refine r_if_eq hx hb rfl (tgt := 31) dX7_firstPlace_23 (by decide) (fun c4 => ?_) (fun c4 => ?_)
      · have h := ite_t c4 h
        refine lv_iload_n hx hb dX7_firstPlace_31 rfl (lv_at hl 3 rfl) ?_
        refine lv_istore_n (lv' := [(3, .int x3), (0, .ref (ad 30 0)), (1, .int p1), (2, .int p2), (4, .int x4)]) hx hb dX7_firstPlace_32 rfl hl (by decide) rfl (fun ls hl => ?_)
        refine lv_iinc (v := x4 + (-1 : Int32)) (lv' := [(4, .int (x4 + (-1 : Int32))), (3, .int x3), (0, .ref (ad 30 0)), (1, .int p1), (2, .int p2)]) hx hb dX7_firstPlace_33 hl (k := 4) rfl rfl (by decide) rfl (fun ls hl => ?_)
        refine lv_goto (tgt := 10) hx hb dX7_firstPlace_36 (by decide) ?_
        exact ih x3 (x4 + (-1 : Int32)) hW hS (lv_sub hl [2, 3, 4, 1, 0] rfl) h
      · have h := ite_f c4 h
        refine lv_iload hx hb dX7_firstPlace_26 (lv_at hl 4 rfl) ?_
        refine lv_goto (tgt := 32) hx hb dX7_firstPlace_28 (by decide) ?_
        refine lv_istore_n (lv' := [(3, .int x4), (0, .ref (ad 30 0)), (1, .int p1), (2, .int p2), (4, .int x4)]) hx hb dX7_firstPlace_32 rfl hl (by decide) rfl (fun ls hl => ?_)
        refine lv_iinc (v := x4 + (-1 : Int32)) (lv' := [(4, .int (x4 + (-1 : Int32))), (3, .int x4), (0, .ref (ad 30 0)), (1, .int p1), (2, .int p2)]) hx hb dX7_firstPlace_33 hl (k := 4) rfl rfl (by decide) rfl (fun ls hl => ?_)
        refine lv_goto (tgt := 10) hx hb dX7_firstPlace_36 (by decide) ?_
        exact ih x4 (x4 + (-1 : Int32)) hW hS (lv_sub hl [2, 3, 4, 1, 0] rfl) h
set_option maxHeartbeats 4000000 in
set_option maxRecDepth 100000 in
theorem mtX7_firstPlace (l : Launch) (z : Nat) (G : Gl) (ad : Nat → Nat → Nat) (σ : SG) (ν : NU) (ρ : RH) (lo : Int64) (p1 : Int32) (p2 : Int32) (post : Int32 → Prop) (h : wpX7_firstPlace ρ p1 p2 post) : Met l yX7_firstPlace wsX7_firstPlace ({ frames := 1, cells := 0, slots := 0, locals := 25 } : Room) (Pcs z G ad (σ, ν, ρ, lo) [.ref (ad 30 0), .int p1, .int p2]) (Qis z G ad (fun r S1 => S1 = (σ, ν, ρ, lo) ∧ post r)) 0 0 (Az z) := by
  refine Met.ofW (cc := cX7_firstPlace) (maxL := 5) (ret := (some .int)) (by decide) rfl ?_
  intro p e s m args below meth c s₁ B hml hv
  obtain ⟨rfl, hz, hW, hE⟩ := hv
  have hx := B.exec
  have hb := B.bytes
  have hr := B.returns
  have hts := atoms_spec (ws := wsX7_firstPlace) B.pre
  have hown : s.vm.findClass RX7 = some m.cls := findClass_of_methodNamed B.named
  have hlocks := B.notSynchronized
  have X : Cx p l e s m _ below meth c cX7_firstPlace (some .int) 5 RX7 wsX7_firstPlace z G := ⟨hx, hb, hr, hml, hown, hts, hlocks, hE, hz⟩
  have hS : va_S (Az z) s.heap s.heap [] := va_S.rf
  have hl := lv_entry [.ref (ad 30 0), .int p1, .int p2] (n := 5) (Nat.le_of_ble_eq_true rfl)
  rw [lg_entry_eq]
  generalize (lg_sl [.ref (ad 30 0), .int p1, .int p2] ++ List.replicate (5 - (lg_sl [.ref (ad 30 0), .int p1, .int p2]).length) Slot.unset).toArray = ls at hl ⊢
  have hl : lv_has ls 5 [(0, .ref (ad 30 0)), (1, .int p1), (2, .int p2)] := hl
  unfold wpX7_firstPlace at h
  refine lv_iconst (v := (-1 : Int32)) hx hb dX7_firstPlace_0 (by decide) ?_
  refine lv_istore_n (lv' := [(3, .int ((-1 : Int32))), (0, .ref (ad 30 0)), (1, .int p1), (2, .int p2)]) hx hb dX7_firstPlace_1 rfl hl (by decide) rfl (fun ls hl => ?_)
  refine lv_aload_n hx hb dX7_firstPlace_2 rfl (lv_at hl 1 rfl) ?_
  refine r_get (C := RX7) (T := TX7) (N := 49) (ci := 10) (fs := fl_30 ad ν ρ 0 (σ 30 0)) hx hb hts hown hE hW 30 0 rfl rfl rfl (fun w h => List.mem_cons_of_mem _ (List.mem_append_right _ h)) 40 (by decide) (List.mem_of_getElem? (i := 1) rfl) rfl (v := .ref (ad 140 0)) rfl dX7_firstPlace_3 ?_
  refine lv_iload_n hx hb dX7_firstPlace_6 rfl (lv_at hl 3 rfl) ?_
  obtain ⟨b1, h⟩ := h
  refine r_iald hx hb hE hW 140 0 ⟨rfl, by decide, by decide⟩ (n := 20) (f := ρ 40) rfl b1 (v := ρ 40 p2.toNatClampNeg) rfl dX7_firstPlace_7 ?_
  refine lv_istore (lv' := [(4, .int (ρ 40 p2.toNatClampNeg)), (3, .int ((-1 : Int32))), (0, .ref (ad 30 0)), (1, .int p1), (2, .int p2)]) hx hb dX7_firstPlace_8 hl (by decide) rfl (fun ls hl => ?_)
  obtain ⟨n5, h⟩ := h
  exact tX7_firstPlace_10 (σ := σ) (ρ := ρ) X p1 p2 post  n5 ((-1 : Int32)) (ρ 40 p2.toNatClampNeg) hW hS (lv_sub hl [2, 3, 4, 1, 0] rfl) h
set_option maxHeartbeats 4000000 in
set_option maxRecDepth 100000 in
theorem mtX7_puts (l : Launch) (z : Nat) (G : Gl) (ad : Nat → Nat → Nat) (σ : SG) (ν : NU) (ρ : RH) (lo : Int64) (p1 : Int32) (p2 : Int32) (post : RH → Prop) (h : wpX7_puts ρ p1 p2 post) : Met l yX7_puts wsX7_puts ({ frames := 0, cells := 0, slots := 0, locals := 0 } : Room) (Pcs z G ad (σ, ν, ρ, lo) [.ref (ad 30 0), .int p1, .int p2]) (Qvs z G ad (fun S1 => ∃ t : RH, S1 = (σ, ν, t, lo) ∧ post t)) 0 0 (Az z) := by
  refine Met.ofW (cc := cX7_puts) (maxL := 3) (ret := none) (by decide) rfl ?_
  intro p e s m args below meth c s₁ B hml hv
  obtain ⟨rfl, hz, hW, hE⟩ := hv
  have hx := B.exec
  have hb := B.bytes
  have hr := B.returns
  have hts := atoms_spec (ws := wsX7_puts) B.pre
  have hown : s.vm.findClass RX7 = some m.cls := findClass_of_methodNamed B.named
  have hlocks := B.notSynchronized
  have X : Cx p l e s m _ below meth c cX7_puts none 3 RX7 wsX7_puts z G := ⟨hx, hb, hr, hml, hown, hts, hlocks, hE, hz⟩
  have hS : va_S (Az z) s.heap s.heap [] := va_S.rf
  have hl := lv_entry [.ref (ad 30 0), .int p1, .int p2] (n := 3) (Nat.le_of_ble_eq_true rfl)
  rw [lg_entry_eq]
  generalize (lg_sl [.ref (ad 30 0), .int p1, .int p2] ++ List.replicate (3 - (lg_sl [.ref (ad 30 0), .int p1, .int p2]).length) Slot.unset).toArray = ls at hl ⊢
  have hl : lv_has ls 3 [(0, .ref (ad 30 0)), (1, .int p1), (2, .int p2)] := hl
  unfold wpX7_puts at h
  refine lv_aload_n hx hb dX7_puts_0 rfl (lv_at hl 0 rfl) ?_
  refine r_get (C := RX7) (T := TX7) (N := 49) (ci := 10) (fs := fl_30 ad ν ρ 0 (σ 30 0)) hx hb hts hown hE hW 30 0 rfl rfl rfl (fun w h => List.mem_cons_of_mem _ (List.mem_append_right _ h)) 46 (by decide) (List.mem_of_getElem? (i := 1) rfl) rfl (v := .ref (ad 146 0)) rfl dX7_puts_1 ?_
  refine lv_aload_n hx hb dX7_puts_4 rfl (lv_at hl 0 rfl) ?_
  refine r_get (C := RX7) (T := TX7) (N := 49) (ci := 10) (fs := fl_30 ad ν ρ 0 (σ 30 0)) hx hb hts hown hE hW 30 0 rfl rfl rfl (fun w h => List.mem_cons_of_mem _ (List.mem_append_right _ h)) 45 (by decide) (List.mem_of_getElem? (i := 2) rfl) rfl (v := .int (ρ 45 0)) rfl dX7_puts_5 ?_
  refine lv_iload_n hx hb dX7_puts_8 rfl (lv_at hl 1 rfl) ?_
  obtain ⟨b1, h⟩ := h
  refine r_iastM hx hb hE hW hS 46 (k := 146) rfl ⟨rfl, by decide, by decide⟩ (n := 64) (fun _ => rfl) (fun t q => by simp [fl_30, q]) b1 dX7_puts_9 (fun t2 e3 H locs hW hS => ?_)
  have h := h t2 e3
  refine lv_aload_n hx hb dX7_puts_10 rfl (lv_at hl 0 rfl) ?_
  refine r_get (C := RX7) (T := TX7) (N := 49) (ci := 10) (fs := fl_30 ad ν t2 0 (σ 30 0)) hx hb hts hown hE hW 30 0 rfl rfl rfl (fun w h => List.mem_cons_of_mem _ (List.mem_append_right _ h)) 47 (by decide) (List.mem_of_getElem? (i := 3) rfl) rfl (v := .ref (ad 147 0)) rfl dX7_puts_11 ?_
  refine lv_aload_n hx hb dX7_puts_14 rfl (lv_at hl 0 rfl) ?_
  refine r_get (C := RX7) (T := TX7) (N := 49) (ci := 10) (fs := fl_30 ad ν t2 0 (σ 30 0)) hx hb hts hown hE hW 30 0 rfl rfl rfl (fun w h => List.mem_cons_of_mem _ (List.mem_append_right _ h)) 45 (by decide) (List.mem_of_getElem? (i := 2) rfl) rfl (v := .int (t2 45 0)) rfl dX7_puts_15 ?_
  refine lv_iload_n hx hb dX7_puts_18 rfl (lv_at hl 2 rfl) ?_
  obtain ⟨b4, h⟩ := h
  refine r_iastM hx hb hE hW hS 47 (k := 147) rfl ⟨rfl, by decide, by decide⟩ (n := 64) (fun _ => rfl) (fun t q => by simp [fl_30, q]) b4 dX7_puts_19 (fun t5 e6 H locs hW hS => ?_)
  have h := h t5 e6
  refine lv_aload_n hx hb dX7_puts_20 rfl (lv_at hl 0 rfl) ?_
  refine lv_dup hx hb dX7_puts_21 rfl ?_
  refine r_get (C := RX7) (T := TX7) (N := 49) (ci := 10) (fs := fl_30 ad ν t5 0 (σ 30 0)) hx hb hts hown hE hW 30 0 rfl rfl rfl (fun w h => List.mem_cons_of_mem _ (List.mem_append_right _ h)) 45 (by decide) (List.mem_of_getElem? (i := 2) rfl) rfl (v := .int (t5 45 0)) rfl dX7_puts_22 ?_
  refine lv_iconst (v := (1 : Int32)) hx hb dX7_puts_25 (by decide) ?_
  refine lv_iadd hx hb dX7_puts_26 ?_
  refine r_putM hx hb hts hown hE hW hS (fun w h => List.mem_cons_of_mem _ (List.mem_append_right _ h)) 45 (by decide) (List.mem_of_getElem? (i := 2) rfl) rfl rfl rfl (x := (t5 45 0) + ((1 : Int32))) rfl rfl dX7_puts_27 (fun t7 e8 H locs hW hS => ?_)
  have h := h t7 e8
  exact W.vret hx hb hr (fun t ht _ => ⟨⟨(σ, ν, t7, lo), rfl, ⟨_, rfl, h⟩, WP.at9 ht hW⟩, hS.F ht⟩) hS.2.2 dX7_puts_30 (hlocks := hlocks)
set_option maxHeartbeats 4000000 in
set_option maxRecDepth 100000 in
theorem tX7_putsNew_2 {p : Program} {l : Launch} {e : Env} {s : State} {m : MethodId} {args : Array Value} {below : List Frame} {meth : Method} {c : Code} {z : Nat} {G : Gl} {ad : Nat → Nat → Nat} {σ : SG} {ν : NU} {ρ : RH} {lo : Int64} (X : Cx p l e s m args below meth c cX7_putsNew none 3 RX7 wsX7_putsNew z G) (p1 : Int32)  (post : RH → Prop) : ∀ (n : Nat) (a3 : RH) (x2 : Int32) {H : Heap} {locs : List Loc} {ls : Array Slot}, WP z G ad (σ, ν, a3, lo) H → va_S (Az z) s.heap H locs → lv_has ls 3 [(0, .ref (ad 30 0)), (1, .int p1), (2, .int x2)] → wX7_putsNew_2 p1 post n a3 x2 → W p l e ({ frames := 1, cells := 0, slots := 0, locals := 22 } : Room) s m args below meth c H locs 0 0 (MQ below (Qvs z G ad (fun S1 => ∃ t : RH, S1 = (σ, ν, t, lo) ∧ post t)) args s 0 0 (Az z)) (F0 m 2 ls []) := by
  obtain ⟨hx, hb, hr, hml, hown, hts, hlocks, hE, hz⟩ := id X
  intro n
  induction n with
  | zero =>
    intro a3 x2 H locs ls hW hS hl h
    exact absurd h id
  | succ n ih =>
    intro a3 x2 H locs ls hW hS hl h
    unfold wX7_putsNew_2 at h
    refine lv_iload_n hx hb dX7_putsNew_2 rfl (lv_at hl 2 rfl) ?_
    refine lv_aload_n hx hb dX7_putsNew_3 rfl (lv_at hl 0 rfl) ?_
    refine r_get (C := RX7) (T := TX7) (N := 49) (ci := 10) (fs := fl_30 ad ν a3 0 (σ 30 0)) hx hb hts hown hE hW 30 0 rfl rfl rfl (fun w h => List.mem_cons_of_mem _ (List.mem_append_right _ h)) 43 (by decide) (List.mem_of_getElem? (i := 1) rfl) rfl (v := .ref (ad 143 0)) rfl dX7_putsNew_4 ?_
    refine lv_iload_n hx hb dX7_putsNew_7 rfl (lv_at hl 1 rfl) ?_
    obtain ⟨b1, h⟩ := h
    refine r_iald hx hb hE hW 143 0 ⟨rfl, by decide, by decide⟩ (n := 40) (f := a3 43) rfl b1 (v := a3 43 p1.toNatClampNeg) rfl dX7_putsNew_8 ?_
    refine r_icmp_ge hx hb rfl rfl (tgt := 33) dX7_putsNew_9 (by decide) (fun c2 => ?_) (fun c2 => ?_)
    · have h := ite_f c2 h
      exact W.vret hx hb hr (fun t ht _ => ⟨⟨(σ, ν, a3, lo), rfl, ⟨_, rfl, h⟩, WP.at9 ht hW⟩, hS.F ht⟩) hS.2.2 dX7_putsNew_33 (hlocks := hlocks)
    · have h := ite_t c2 h
      refine lv_aload_n hx hb dX7_putsNew_12 rfl (lv_at hl 0 rfl) ?_
      refine lv_aload_n hx hb dX7_putsNew_13 rfl (lv_at hl 0 rfl) ?_
      refine r_get (C := RX7) (T := TX7) (N := 49) (ci := 10) (fs := fl_30 ad ν a3 0 (σ 30 0)) hx hb hts hown hE hW 30 0 rfl rfl rfl (fun w h => List.mem_cons_of_mem _ (List.mem_append_right _ h)) 44 (by decide) (List.mem_of_getElem? (i := 2) rfl) rfl (v := .ref (ad 144 0)) rfl dX7_putsNew_14 ?_
      refine lv_iconst (v := (4 : Int32)) hx hb dX7_putsNew_17 (by decide) ?_
      refine lv_iload_n hx hb dX7_putsNew_18 rfl (lv_at hl 1 rfl) ?_
      refine lv_imul hx hb dX7_putsNew_19 ?_
      refine lv_iload_n hx hb dX7_putsNew_20 rfl (lv_at hl 2 rfl) ?_
      refine lv_iadd hx hb dX7_putsNew_21 ?_
      obtain ⟨b3, h⟩ := h
      refine r_iald hx hb hE hW 144 0 ⟨rfl, by decide, by decide⟩ (n := 160) (f := a3 44) rfl b3 (v := a3 44 ((((4 : Int32)) * p1) + x2).toNatClampNeg) rfl dX7_putsNew_22 ?_
      refine lv_iload_n hx hb dX7_putsNew_23 rfl (lv_at hl 1 rfl) ?_
      refine k_Vv (rest := []) (As := [.int (a3 44 ((((4 : Int32)) * p1) + x2).toNatClampNeg), .int p1]) ⟨hx, hb, hml, hown, hts⟩ hE hz hS hW (mtX7_puts l z G ad σ ν a3 lo (a3 44 ((((4 : Int32)) * p1) + x2).toNatClampNeg) p1 _ h) (cwV 2 hts gX7_putsNew_X7_puts rfl rfl rfl (by decide +kernel) ⟨Nat.le_of_ble_eq_true rfl, Nat.le_of_ble_eq_true rfl⟩) (r_recv hE hW 30 0 rfl (ci := 10) rfl rfl) rfl hl.1 rfl (Nat.le_of_ble_eq_true rfl) dX7_putsNew_24 ⟨Nat.le_of_ble_eq_true rfl, Nat.le_of_ble_eq_true rfl⟩ (fun S1 H locs hp hW hS => ?_)
      obtain ⟨t4, rfl, h⟩ := hp
      refine lv_iinc (v := x2 + (1 : Int32)) (lv' := [(2, .int (x2 + (1 : Int32))), (0, .ref (ad 30 0)), (1, .int p1)]) hx hb dX7_putsNew_27 hl (k := 2) rfl rfl (by decide) rfl (fun ls hl => ?_)
      refine lv_goto (tgt := 2) hx hb dX7_putsNew_30 (by decide) ?_
      exact ih t4 (x2 + (1 : Int32)) hW hS (lv_sub hl [1, 2, 0] rfl) h
set_option maxHeartbeats 4000000 in
set_option maxRecDepth 100000 in
theorem mtX7_putsNew (l : Launch) (z : Nat) (G : Gl) (ad : Nat → Nat → Nat) (σ : SG) (ν : NU) (ρ : RH) (lo : Int64) (p1 : Int32) (post : RH → Prop) (h : wpX7_putsNew ρ p1 post) : Met l yX7_putsNew wsX7_putsNew ({ frames := 1, cells := 0, slots := 0, locals := 22 } : Room) (Pcs z G ad (σ, ν, ρ, lo) [.ref (ad 30 0), .int p1]) (Qvs z G ad (fun S1 => ∃ t : RH, S1 = (σ, ν, t, lo) ∧ post t)) 0 0 (Az z) := by
  refine Met.ofW (cc := cX7_putsNew) (maxL := 3) (ret := none) (by decide) rfl ?_
  intro p e s m args below meth c s₁ B hml hv
  obtain ⟨rfl, hz, hW, hE⟩ := hv
  have hx := B.exec
  have hb := B.bytes
  have hr := B.returns
  have hts := atoms_spec (ws := wsX7_putsNew) B.pre
  have hown : s.vm.findClass RX7 = some m.cls := findClass_of_methodNamed B.named
  have hlocks := B.notSynchronized
  have X : Cx p l e s m _ below meth c cX7_putsNew none 3 RX7 wsX7_putsNew z G := ⟨hx, hb, hr, hml, hown, hts, hlocks, hE, hz⟩
  have hS : va_S (Az z) s.heap s.heap [] := va_S.rf
  have hl := lv_entry [.ref (ad 30 0), .int p1] (n := 3) (Nat.le_of_ble_eq_true rfl)
  rw [lg_entry_eq]
  generalize (lg_sl [.ref (ad 30 0), .int p1] ++ List.replicate (3 - (lg_sl [.ref (ad 30 0), .int p1]).length) Slot.unset).toArray = ls at hl ⊢
  have hl : lv_has ls 3 [(0, .ref (ad 30 0)), (1, .int p1)] := hl
  unfold wpX7_putsNew at h
  refine lv_iconst (v := (0 : Int32)) hx hb dX7_putsNew_0 (by decide) ?_
  refine lv_istore_n (lv' := [(2, .int ((0 : Int32))), (0, .ref (ad 30 0)), (1, .int p1)]) hx hb dX7_putsNew_1 rfl hl (by decide) rfl (fun ls hl => ?_)
  obtain ⟨n5, h⟩ := h
  exact tX7_putsNew_2 (σ := σ) (ρ := ρ) X p1 post  n5 ρ ((0 : Int32)) hW hS (lv_sub hl [1, 2, 0] rfl) h
set_option maxHeartbeats 4000000 in
set_option maxRecDepth 100000 in
theorem tX7_putsOld_3 {p : Program} {l : Launch} {e : Env} {s : State} {m : MethodId} {args : Array Value} {below : List Frame} {meth : Method} {c : Code} {z : Nat} {G : Gl} {ad : Nat → Nat → Nat} {σ : SG} {ν : NU} {ρ : RH} {lo : Int64} (X : Cx p l e s m args below meth c cX7_putsOld none 5 RX7 wsX7_putsOld z G) (p1 : Int32) (p2 : Int32) (p3 : Int32)  (post : RH → Prop) : ∀ (n : Nat) (a3 : RH) (x4 : Int32) {H : Heap} {locs : List Loc} {ls : Array Slot}, WP z G ad (σ, ν, a3, lo) H → va_S (Az z) s.heap H locs → lv_has ls 5 [(0, .ref (ad 30 0)), (1, .int p1), (3, .int p3), (4, .int x4)] → wX7_putsOld_3 p1 p2 p3 post n a3 x4 → W p l e ({ frames := 1, cells := 0, slots := 0, locals := 22 } : Room) s m args below meth c H locs 0 0 (MQ below (Qvs z G ad (fun S1 => ∃ t : RH, S1 = (σ, ν, t, lo) ∧ post t)) args s 0 0 (Az z)) (F0 m 3 ls []) := by
  obtain ⟨hx, hb, hr, hml, hown, hts, hlocks, hE, hz⟩ := id X
  intro n
  induction n with
  | zero =>
    intro a3 x4 H locs ls hW hS hl h
    exact absurd h id
  | succ n ih =>
    intro a3 x4 H locs ls hW hS hl h
    unfold wX7_putsOld_3 at h
    refine lv_iload hx hb dX7_putsOld_3 (lv_at hl 3 rfl) ?_
    refine lv_iload_n hx hb dX7_putsOld_5 rfl (lv_at hl 2 rfl) ?_
    refine r_icmp_ge hx hb rfl rfl (tgt := 43) dX7_putsOld_6 (by decide) (fun c1 => ?_) (fun c1 => ?_)
    · have h := ite_f c1 h
      exact W.vret hx hb hr (fun t ht _ => ⟨⟨(σ, ν, a3, lo), rfl, ⟨_, rfl, h⟩, WP.at9 ht hW⟩, hS.F ht⟩) hS.2.2 dX7_putsOld_43 (hlocks := hlocks)
    · have h := ite_t c1 h
      refine lv_aload_n hx hb dX7_putsOld_9 rfl (lv_at hl 0 rfl) ?_
      refine lv_aload_n hx hb dX7_putsOld_10 rfl (lv_at hl 0 rfl) ?_
      refine r_get (C := RX7) (T := TX7) (N := 49) (ci := 10) (fs := fl_30 ad ν a3 0 (σ 30 0)) hx hb hts hown hE hW 30 0 rfl rfl rfl (fun w h => List.mem_cons_of_mem _ (List.mem_append_right _ h)) 41 (by decide) (List.mem_of_getElem? (i := 1) rfl) rfl (v := .ref (ad 141 0)) rfl dX7_putsOld_11 ?_
      refine lv_bipush (v := (12 : Int32)) hx hb dX7_putsOld_14 (by decide) ?_
      refine lv_iload_n hx hb dX7_putsOld_16 rfl (lv_at hl 1 rfl) ?_
      refine lv_imul hx hb dX7_putsOld_17 ?_
      refine lv_iload hx hb dX7_putsOld_18 (lv_at hl 3 rfl) ?_
      refine lv_iadd hx hb dX7_putsOld_20 ?_
      obtain ⟨b2, h⟩ := h
      refine r_iald hx hb hE hW 141 0 ⟨rfl, by decide, by decide⟩ (n := 240) (f := a3 41) rfl b2 (v := a3 41 ((((12 : Int32)) * p1) + x4).toNatClampNeg) rfl dX7_putsOld_21 ?_
      refine lv_aload_n hx hb dX7_putsOld_22 rfl (lv_at hl 0 rfl) ?_
      refine r_get (C := RX7) (T := TX7) (N := 49) (ci := 10) (fs := fl_30 ad ν a3 0 (σ 30 0)) hx hb hts hown hE hW 30 0 rfl rfl rfl (fun w h => List.mem_cons_of_mem _ (List.mem_append_right _ h)) 42 (by decide) (List.mem_of_getElem? (i := 2) rfl) rfl (v := .ref (ad 142 0)) rfl dX7_putsOld_23 ?_
      refine lv_bipush (v := (12 : Int32)) hx hb dX7_putsOld_26 (by decide) ?_
      refine lv_iload_n hx hb dX7_putsOld_28 rfl (lv_at hl 1 rfl) ?_
      refine lv_imul hx hb dX7_putsOld_29 ?_
      refine lv_iload hx hb dX7_putsOld_30 (lv_at hl 3 rfl) ?_
      refine lv_iadd hx hb dX7_putsOld_32 ?_
      obtain ⟨b3, h⟩ := h
      refine r_iald hx hb hE hW 142 0 ⟨rfl, by decide, by decide⟩ (n := 240) (f := a3 42) rfl b3 (v := a3 42 ((((12 : Int32)) * p1) + x4).toNatClampNeg) rfl dX7_putsOld_33 ?_
      refine k_Vv (rest := []) (As := [.int (a3 41 ((((12 : Int32)) * p1) + x4).toNatClampNeg), .int (a3 42 ((((12 : Int32)) * p1) + x4).toNatClampNeg)]) ⟨hx, hb, hml, hown, hts⟩ hE hz hS hW (mtX7_puts l z G ad σ ν a3 lo (a3 41 ((((12 : Int32)) * p1) + x4).toNatClampNeg) (a3 42 ((((12 : Int32)) * p1) + x4).toNatClampNeg) _ h) (cwV 2 hts gX7_putsOld_X7_puts rfl rfl rfl (by decide +kernel) ⟨Nat.le_of_ble_eq_true rfl, Nat.le_of_ble_eq_true rfl⟩) (r_recv hE hW 30 0 rfl (ci := 10) rfl rfl) rfl hl.1 rfl (Nat.le_of_ble_eq_true rfl) dX7_putsOld_34 ⟨Nat.le_of_ble_eq_true rfl, Nat.le_of_ble_eq_true rfl⟩ (fun S1 H locs hp hW hS => ?_)
      obtain ⟨t4, rfl, h⟩ := hp
      refine lv_iinc (v := x4 + (1 : Int32)) (lv' := [(4, .int (x4 + (1 : Int32))), (0, .ref (ad 30 0)), (1, .int p1), (3, .int p3)]) hx hb dX7_putsOld_37 hl (k := 3) rfl rfl (by decide) rfl (fun ls hl => ?_)
      refine lv_goto (tgt := 3) hx hb dX7_putsOld_40 (by decide) ?_
      exact ih t4 (x4 + (1 : Int32)) hW hS (lv_sub hl [1, 2, 3, 0] rfl) h
set_option maxHeartbeats 4000000 in
set_option maxRecDepth 100000 in
theorem mtX7_putsOld (l : Launch) (z : Nat) (G : Gl) (ad : Nat → Nat → Nat) (σ : SG) (ν : NU) (ρ : RH) (lo : Int64) (p1 : Int32) (p2 : Int32) (p3 : Int32) (post : RH → Prop) (h : wpX7_putsOld ρ p1 p2 p3 post) : Met l yX7_putsOld wsX7_putsOld ({ frames := 1, cells := 0, slots := 0, locals := 22 } : Room) (Pcs z G ad (σ, ν, ρ, lo) [.ref (ad 30 0), .int p1, .int p2, .int p3]) (Qvs z G ad (fun S1 => ∃ t : RH, S1 = (σ, ν, t, lo) ∧ post t)) 0 0 (Az z) := by
  refine Met.ofW (cc := cX7_putsOld) (maxL := 5) (ret := none) (by decide) rfl ?_
  intro p e s m args below meth c s₁ B hml hv
  obtain ⟨rfl, hz, hW, hE⟩ := hv
  have hx := B.exec
  have hb := B.bytes
  have hr := B.returns
  have hts := atoms_spec (ws := wsX7_putsOld) B.pre
  have hown : s.vm.findClass RX7 = some m.cls := findClass_of_methodNamed B.named
  have hlocks := B.notSynchronized
  have X : Cx p l e s m _ below meth c cX7_putsOld none 5 RX7 wsX7_putsOld z G := ⟨hx, hb, hr, hml, hown, hts, hlocks, hE, hz⟩
  have hS : va_S (Az z) s.heap s.heap [] := va_S.rf
  have hl := lv_entry [.ref (ad 30 0), .int p1, .int p2, .int p3] (n := 5) (Nat.le_of_ble_eq_true rfl)
  rw [lg_entry_eq]
  generalize (lg_sl [.ref (ad 30 0), .int p1, .int p2, .int p3] ++ List.replicate (5 - (lg_sl [.ref (ad 30 0), .int p1, .int p2, .int p3]).length) Slot.unset).toArray = ls at hl ⊢
  have hl : lv_has ls 5 [(0, .ref (ad 30 0)), (1, .int p1), (2, .int p2), (3, .int p3)] := hl
  unfold wpX7_putsOld at h
  refine lv_iload_n hx hb dX7_putsOld_0 rfl (lv_at hl 2 rfl) ?_
  refine lv_istore (lv' := [(4, .int p2), (0, .ref (ad 30 0)), (1, .int p1), (2, .int p2), (3, .int p3)]) hx hb dX7_putsOld_1 hl (by decide) rfl (fun ls hl => ?_)
  obtain ⟨n5, h⟩ := h
  exact tX7_putsOld_3 (σ := σ) (ρ := ρ) X p1 p2 p3 post  n5 ρ p2 hW hS (lv_sub hl [1, 2, 4, 0] rfl) h
set_option maxHeartbeats 4000000 in
set_option maxRecDepth 100000 in
theorem tX7_takes_13 {p : Program} {l : Launch} {e : Env} {s : State} {m : MethodId} {args : Array Value} {below : List Frame} {meth : Method} {c : Code} {z : Nat} {G : Gl} {ad : Nat → Nat → Nat} {σ : SG} {ν : NU} {ρ : RH} {lo : Int64} (X : Cx p l e s m args below meth c cX7_takes (some .boolean) 3 RX7 wsX7_takes z G) (p1 : Int32)  (post : Int32 → RH → Prop) : ∀ (n : Nat) (a3 : RH) (x2 : Int32) {H : Heap} {locs : List Loc} {ls : Array Slot}, WP z G ad (σ, ν, a3, lo) H → va_S (Az z) s.heap H locs → lv_has ls 3 [(0, .ref (ad 30 0)), (1, .int p1), (2, .int x2)] → wX7_takes_13 p1 post n a3 x2 → W p l e ({ frames := 0, cells := 0, slots := 0, locals := 0 } : Room) s m args below meth c H locs 0 0 (MQ below (Qis z G ad (fun r S1 => ∃ t : RH, S1 = (σ, ν, t, lo) ∧ post r t)) args s 0 0 (Az z)) (F0 m 13 ls []) := by
  obtain ⟨hx, hb, hr, hml, hown, hts, hlocks, hE, hz⟩ := id X
  intro n
  induction n with
  | zero =>
    intro a3 x2 H locs ls hW hS hl h
    exact absurd h id
  | succ n ih =>
    intro a3 x2 H locs ls hW hS hl h
    unfold wX7_takes_13 at h
    refine lv_iload_n hx hb dX7_takes_13 rfl (lv_at hl 2 rfl) ?_
    refine lv_aload_n hx hb dX7_takes_14 rfl (lv_at hl 0 rfl) ?_
    refine r_get (C := RX7) (T := TX7) (N := 49) (ci := 10) (fs := fl_30 ad ν a3 0 (σ 30 0)) hx hb hts hown hE hW 30 0 rfl rfl rfl (fun w h => List.mem_cons_of_mem _ (List.mem_append_right _ h)) 45 (by decide) (List.mem_of_getElem? (i := 1) rfl) rfl (v := .int (a3 45 0)) rfl dX7_takes_15 ?_
    refine r_icmp_ge hx hb rfl rfl (tgt := 61) dX7_takes_18 (by decide) (fun c2 => ?_) (fun c2 => ?_)
    · have h := ite_f c2 h
      refine lv_aload_n hx hb dX7_takes_61 rfl (lv_at hl 0 rfl) ?_
      refine r_get (C := RX7) (T := TX7) (N := 49) (ci := 10) (fs := fl_30 ad ν a3 0 (σ 30 0)) hx hb hts hown hE hW 30 0 rfl rfl rfl (fun w h => List.mem_cons_of_mem _ (List.mem_append_right _ h)) 40 (by decide) (List.mem_of_getElem? (i := 6) rfl) rfl (v := .ref (ad 140 0)) rfl dX7_takes_62 ?_
      refine lv_iload_n hx hb dX7_takes_65 rfl (lv_at hl 1 rfl) ?_
      refine lv_aload_n hx hb dX7_takes_66 rfl (lv_at hl 0 rfl) ?_
      refine r_get (C := RX7) (T := TX7) (N := 49) (ci := 10) (fs := fl_30 ad ν a3 0 (σ 30 0)) hx hb hts hown hE hW 30 0 rfl rfl rfl (fun w h => List.mem_cons_of_mem _ (List.mem_append_right _ h)) 45 (by decide) (List.mem_of_getElem? (i := 1) rfl) rfl (v := .int (a3 45 0)) rfl dX7_takes_67 ?_
      obtain ⟨b3, h⟩ := h
      refine r_iastM hx hb hE hW hS 40 (k := 140) rfl ⟨rfl, by decide, by decide⟩ (n := 20) (fun _ => rfl) (fun t q => by simp [fl_30, q]) b3 dX7_takes_70 (fun t4 e5 H locs hW hS => ?_)
      have h := h t4 e5
      refine lv_iconst (v := (1 : Int32)) hx hb dX7_takes_71 (by decide) ?_
      exact W.zret (v := (1 : Int32)) (ty := .boolean) hx hb hr rfl (fun t ht _ => ⟨⟨_, (σ, ν, t4, lo), rfl, ⟨_, rfl, h⟩, WP.at9 ht hW⟩, hS.F ht⟩) hS.2.2 dX7_takes_72 (hlocks := hlocks)
    · have h := ite_t c2 h
      refine lv_aload_n hx hb dX7_takes_21 rfl (lv_at hl 0 rfl) ?_
      refine r_get (C := RX7) (T := TX7) (N := 49) (ci := 10) (fs := fl_30 ad ν a3 0 (σ 30 0)) hx hb hts hown hE hW 30 0 rfl rfl rfl (fun w h => List.mem_cons_of_mem _ (List.mem_append_right _ h)) 41 (by decide) (List.mem_of_getElem? (i := 2) rfl) rfl (v := .ref (ad 141 0)) rfl dX7_takes_22 ?_
      refine lv_bipush (v := (12 : Int32)) hx hb dX7_takes_25 (by decide) ?_
      refine lv_iload_n hx hb dX7_takes_27 rfl (lv_at hl 1 rfl) ?_
      refine lv_imul hx hb dX7_takes_28 ?_
      refine lv_iload_n hx hb dX7_takes_29 rfl (lv_at hl 2 rfl) ?_
      refine lv_iadd hx hb dX7_takes_30 ?_
      refine lv_aload_n hx hb dX7_takes_31 rfl (lv_at hl 0 rfl) ?_
      refine r_get (C := RX7) (T := TX7) (N := 49) (ci := 10) (fs := fl_30 ad ν a3 0 (σ 30 0)) hx hb hts hown hE hW 30 0 rfl rfl rfl (fun w h => List.mem_cons_of_mem _ (List.mem_append_right _ h)) 46 (by decide) (List.mem_of_getElem? (i := 3) rfl) rfl (v := .ref (ad 146 0)) rfl dX7_takes_32 ?_
      refine lv_iload_n hx hb dX7_takes_35 rfl (lv_at hl 2 rfl) ?_
      obtain ⟨b6, h⟩ := h
      refine r_iald hx hb hE hW 146 0 ⟨rfl, by decide, by decide⟩ (n := 64) (f := a3 46) rfl b6 (v := a3 46 x2.toNatClampNeg) rfl dX7_takes_36 ?_
      obtain ⟨b7, h⟩ := h
      refine r_iastM hx hb hE hW hS 41 (k := 141) rfl ⟨rfl, by decide, by decide⟩ (n := 240) (fun _ => rfl) (fun t q => by simp [fl_30, q]) b7 dX7_takes_37 (fun t8 e9 H locs hW hS => ?_)
      have h := h t8 e9
      refine lv_aload_n hx hb dX7_takes_38 rfl (lv_at hl 0 rfl) ?_
      refine r_get (C := RX7) (T := TX7) (N := 49) (ci := 10) (fs := fl_30 ad ν t8 0 (σ 30 0)) hx hb hts hown hE hW 30 0 rfl rfl rfl (fun w h => List.mem_cons_of_mem _ (List.mem_append_right _ h)) 42 (by decide) (List.mem_of_getElem? (i := 4) rfl) rfl (v := .ref (ad 142 0)) rfl dX7_takes_39 ?_
      refine lv_bipush (v := (12 : Int32)) hx hb dX7_takes_42 (by decide) ?_
      refine lv_iload_n hx hb dX7_takes_44 rfl (lv_at hl 1 rfl) ?_
      refine lv_imul hx hb dX7_takes_45 ?_
      refine lv_iload_n hx hb dX7_takes_46 rfl (lv_at hl 2 rfl) ?_
      refine lv_iadd hx hb dX7_takes_47 ?_
      refine lv_aload_n hx hb dX7_takes_48 rfl (lv_at hl 0 rfl) ?_
      refine r_get (C := RX7) (T := TX7) (N := 49) (ci := 10) (fs := fl_30 ad ν t8 0 (σ 30 0)) hx hb hts hown hE hW 30 0 rfl rfl rfl (fun w h => List.mem_cons_of_mem _ (List.mem_append_right _ h)) 47 (by decide) (List.mem_of_getElem? (i := 5) rfl) rfl (v := .ref (ad 147 0)) rfl dX7_takes_49 ?_
      refine lv_iload_n hx hb dX7_takes_52 rfl (lv_at hl 2 rfl) ?_
      obtain ⟨b10, h⟩ := h
      refine r_iald hx hb hE hW 147 0 ⟨rfl, by decide, by decide⟩ (n := 64) (f := t8 47) rfl b10 (v := t8 47 x2.toNatClampNeg) rfl dX7_takes_53 ?_
      obtain ⟨b11, h⟩ := h
      refine r_iastM hx hb hE hW hS 42 (k := 142) rfl ⟨rfl, by decide, by decide⟩ (n := 240) (fun _ => rfl) (fun t q => by simp [fl_30, q]) b11 dX7_takes_54 (fun t12 e13 H locs hW hS => ?_)
      have h := h t12 e13
      refine lv_iinc (v := x2 + (1 : Int32)) (lv' := [(2, .int (x2 + (1 : Int32))), (0, .ref (ad 30 0)), (1, .int p1)]) hx hb dX7_takes_55 hl (k := 2) rfl rfl (by decide) rfl (fun ls hl => ?_)
      refine lv_goto (tgt := 13) hx hb dX7_takes_58 (by decide) ?_
      exact ih t12 (x2 + (1 : Int32)) hW hS (lv_sub hl [1, 2, 0] rfl) h
set_option maxHeartbeats 4000000 in
set_option maxRecDepth 100000 in
theorem mtX7_takes (l : Launch) (z : Nat) (G : Gl) (ad : Nat → Nat → Nat) (σ : SG) (ν : NU) (ρ : RH) (lo : Int64) (p1 : Int32) (post : Int32 → RH → Prop) (h : wpX7_takes ρ p1 post) : Met l yX7_takes wsX7_takes ({ frames := 0, cells := 0, slots := 0, locals := 0 } : Room) (Pcs z G ad (σ, ν, ρ, lo) [.ref (ad 30 0), .int p1]) (Qis z G ad (fun r S1 => ∃ t : RH, S1 = (σ, ν, t, lo) ∧ post r t)) 0 0 (Az z) := by
  refine Met.ofW (cc := cX7_takes) (maxL := 3) (ret := (some .boolean)) (by decide) rfl ?_
  intro p e s m args below meth c s₁ B hml hv
  obtain ⟨rfl, hz, hW, hE⟩ := hv
  have hx := B.exec
  have hb := B.bytes
  have hr := B.returns
  have hts := atoms_spec (ws := wsX7_takes) B.pre
  have hown : s.vm.findClass RX7 = some m.cls := findClass_of_methodNamed B.named
  have hlocks := B.notSynchronized
  have X : Cx p l e s m _ below meth c cX7_takes (some .boolean) 3 RX7 wsX7_takes z G := ⟨hx, hb, hr, hml, hown, hts, hlocks, hE, hz⟩
  have hS : va_S (Az z) s.heap s.heap [] := va_S.rf
  have hl := lv_entry [.ref (ad 30 0), .int p1] (n := 3) (Nat.le_of_ble_eq_true rfl)
  rw [lg_entry_eq]
  generalize (lg_sl [.ref (ad 30 0), .int p1] ++ List.replicate (3 - (lg_sl [.ref (ad 30 0), .int p1]).length) Slot.unset).toArray = ls at hl ⊢
  have hl : lv_has ls 3 [(0, .ref (ad 30 0)), (1, .int p1)] := hl
  unfold wpX7_takes at h
  refine lv_aload_n hx hb dX7_takes_0 rfl (lv_at hl 0 rfl) ?_
  refine r_get (C := RX7) (T := TX7) (N := 49) (ci := 10) (fs := fl_30 ad ν ρ 0 (σ 30 0)) hx hb hts hown hE hW 30 0 rfl rfl rfl (fun w h => List.mem_cons_of_mem _ (List.mem_append_right _ h)) 45 (by decide) (List.mem_of_getElem? (i := 1) rfl) rfl (v := .int (ρ 45 0)) rfl dX7_takes_1 ?_
  refine lv_bipush (v := (12 : Int32)) hx hb dX7_takes_4 (by decide) ?_
  refine r_icmp_le hx hb rfl (show (12 : Int32).toInt = 12 by decide) (tgt := 11) dX7_takes_6 (by decide) (fun c1 => ?_) (fun c1 => ?_)
  · have h := ite_t c1 h
    refine lv_iconst (v := (0 : Int32)) hx hb dX7_takes_11 (by decide) ?_
    refine lv_istore_n (lv' := [(2, .int ((0 : Int32))), (0, .ref (ad 30 0)), (1, .int p1)]) hx hb dX7_takes_12 rfl hl (by decide) rfl (fun ls hl => ?_)
    obtain ⟨n14, h⟩ := h
    exact tX7_takes_13 (σ := σ) (ρ := ρ) X p1 post  n14 ρ ((0 : Int32)) hW hS (lv_sub hl [1, 2, 0] rfl) h
  · have h := ite_f c1 h
    refine lv_iconst (v := (0 : Int32)) hx hb dX7_takes_9 (by decide) ?_
    exact W.zret (v := (0 : Int32)) (ty := .boolean) hx hb hr rfl (fun t ht _ => ⟨⟨_, (σ, ν, ρ, lo), rfl, ⟨_, rfl, h⟩, WP.at9 ht hW⟩, hS.F ht⟩) hS.2.2 dX7_takes_10 (hlocks := hlocks)
set_option maxHeartbeats 4000000 in
set_option maxRecDepth 100000 in
theorem mtX7_enacts (l : Launch) (z : Nat) (G : Gl) (ad : Nat → Nat → Nat) (σ : SG) (ν : NU) (ρ : RH) (lo : Int64) (p1 : Int32) (post : Int32 → RH → Prop) (h : wpX7_enacts ρ p1 post) : Met l yX7_enacts wsX7_enacts ({ frames := 2, cells := 0, slots := 0, locals := 44 } : Room) (Pcs z G ad (σ, ν, ρ, lo) [.ref (ad 30 0), .int p1]) (Qis z G ad (fun r S1 => ∃ t : RH, S1 = (σ, ν, t, lo) ∧ post r t)) 0 0 (Az z) := by
  refine Met.ofW (cc := cX7_enacts) (maxL := 4) (ret := (some .boolean)) (by decide) rfl ?_
  intro p e s m args below meth c s₁ B hml hv
  obtain ⟨rfl, hz, hW, hE⟩ := hv
  have hx := B.exec
  have hb := B.bytes
  have hr := B.returns
  have hts := atoms_spec (ws := wsX7_enacts) B.pre
  have hown : s.vm.findClass RX7 = some m.cls := findClass_of_methodNamed B.named
  have hlocks := B.notSynchronized
  have X : Cx p l e s m _ below meth c cX7_enacts (some .boolean) 4 RX7 wsX7_enacts z G := ⟨hx, hb, hr, hml, hown, hts, hlocks, hE, hz⟩
  have hS : va_S (Az z) s.heap s.heap [] := va_S.rf
  have hl := lv_entry [.ref (ad 30 0), .int p1] (n := 4) (Nat.le_of_ble_eq_true rfl)
  rw [lg_entry_eq]
  generalize (lg_sl [.ref (ad 30 0), .int p1] ++ List.replicate (4 - (lg_sl [.ref (ad 30 0), .int p1]).length) Slot.unset).toArray = ls at hl ⊢
  have hl : lv_has ls 4 [(0, .ref (ad 30 0)), (1, .int p1)] := hl
  unfold wpX7_enacts at h
  refine lv_aload_n hx hb dX7_enacts_0 rfl (lv_at hl 0 rfl) ?_
  refine r_get (C := RX7) (T := TX7) (N := 49) (ci := 10) (fs := fl_30 ad ν ρ 0 (σ 30 0)) hx hb hts hown hE hW 30 0 rfl rfl rfl (fun w h => List.mem_cons_of_mem _ (List.mem_append_right _ h)) 15 (by decide) (List.mem_of_getElem? (i := 1) rfl) rfl (v := .ref (ad 115 0)) rfl dX7_enacts_1 ?_
  refine lv_iload_n hx hb dX7_enacts_4 rfl (lv_at hl 1 rfl) ?_
  obtain ⟨b1, h⟩ := h
  refine r_iald hx hb hE hW 115 0 ⟨rfl, by decide, by decide⟩ (n := 40) (f := ρ 15) rfl b1 (v := ρ 15 p1.toNatClampNeg) rfl dX7_enacts_5 ?_
  refine lv_istore_n (lv' := [(2, .int (ρ 15 p1.toNatClampNeg)), (0, .ref (ad 30 0)), (1, .int p1)]) hx hb dX7_enacts_6 rfl hl (by decide) rfl (fun ls hl => ?_)
  refine lv_aload_n hx hb dX7_enacts_7 rfl (lv_at hl 1 rfl) ?_
  refine r_get (C := RX7) (T := TX7) (N := 49) (ci := 10) (fs := fl_30 ad ν ρ 0 (σ 30 0)) hx hb hts hown hE hW 30 0 rfl rfl rfl (fun w h => List.mem_cons_of_mem _ (List.mem_append_right _ h)) 16 (by decide) (List.mem_of_getElem? (i := 2) rfl) rfl (v := .ref (ad 116 0)) rfl dX7_enacts_8 ?_
  refine lv_iload_n hx hb dX7_enacts_11 rfl (lv_at hl 2 rfl) ?_
  obtain ⟨b2, h⟩ := h
  refine r_iald hx hb hE hW 116 0 ⟨rfl, by decide, by decide⟩ (n := 40) (f := ρ 16) rfl b2 (v := ρ 16 p1.toNatClampNeg) rfl dX7_enacts_12 ?_
  refine lv_istore_n (lv' := [(3, .int (ρ 16 p1.toNatClampNeg)), (2, .int (ρ 15 p1.toNatClampNeg)), (0, .ref (ad 30 0)), (1, .int p1)]) hx hb dX7_enacts_13 rfl hl (by decide) rfl (fun ls hl => ?_)
  refine lv_aload_n hx hb dX7_enacts_14 rfl (lv_at hl 2 rfl) ?_
  refine lv_iload_n hx hb dX7_enacts_15 rfl (lv_at hl 0 rfl) ?_
  refine k_Vi (rest := []) (As := [.int (ρ 16 p1.toNatClampNeg)]) ⟨hx, hb, hml, hown, hts⟩ hE hz hS hW (mtX7_isPlace l z G ad σ ν ρ lo (ρ 16 p1.toNatClampNeg) _ h) (cwV 1 hts gX7_enacts_X7_isPlace rfl rfl rfl (by decide +kernel) ⟨Nat.le_of_ble_eq_true rfl, Nat.le_of_ble_eq_true rfl⟩) (r_recv hE hW 30 0 rfl (ci := 10) rfl rfl) rfl hl.1 rfl (Nat.le_of_ble_eq_true rfl) dX7_enacts_16 ⟨Nat.le_of_ble_eq_true rfl, Nat.le_of_ble_eq_true rfl⟩ (fun r3 S1 H locs hp hW hS => ?_)
  obtain ⟨rfl, h⟩ := hp
  refine r_if_eq hx hb rfl (tgt := 37) dX7_enacts_19 (by decide) (fun c4 => ?_) (fun c4 => ?_)
  · have h := ite_t c4 h
    refine lv_iconst (v := (0 : Int32)) hx hb dX7_enacts_37 (by decide) ?_
    exact W.zret (v := (0 : Int32)) (ty := .boolean) hx hb hr rfl (fun t ht _ => ⟨⟨_, (σ, ν, ρ, lo), rfl, ⟨_, rfl, h⟩, WP.at9 ht hW⟩, hS.F ht⟩) hS.2.2 dX7_enacts_38 (hlocks := hlocks)
  · have h := ite_f c4 h
    refine lv_aload_n hx hb dX7_enacts_22 rfl (lv_at hl 2 rfl) ?_
    refine lv_iload_n hx hb dX7_enacts_23 rfl (lv_at hl 0 rfl) ?_
    refine lv_aload_n hx hb dX7_enacts_24 rfl (lv_at hl 2 rfl) ?_
    refine r_get (C := RX7) (T := TX7) (N := 49) (ci := 10) (fs := fl_30 ad ν ρ 0 (σ 30 0)) hx hb hts hown hE hW 30 0 rfl rfl rfl (fun w h => List.mem_cons_of_mem _ (List.mem_append_right _ h)) 17 (by decide) (List.mem_of_getElem? (i := 3) rfl) rfl (v := .ref (ad 117 0)) rfl dX7_enacts_25 ?_
    refine lv_iload_n hx hb dX7_enacts_28 rfl (lv_at hl 3 rfl) ?_
    obtain ⟨b5, h⟩ := h
    refine r_iald hx hb hE hW 117 0 ⟨rfl, by decide, by decide⟩ (n := 40) (f := ρ 17) rfl b5 (v := ρ 17 p1.toNatClampNeg) rfl dX7_enacts_29 ?_
    refine lv_iconst (v := (-1 : Int32)) hx hb dX7_enacts_30 (by decide) ?_
    refine k_Vi (rest := []) (As := [.int (ρ 16 p1.toNatClampNeg), .int (ρ 17 p1.toNatClampNeg), .int ((-1 : Int32))]) ⟨hx, hb, hml, hown, hts⟩ hE hz hS hW (mtX7_hasLabel l z G ad σ ν ρ lo (ρ 16 p1.toNatClampNeg) (ρ 17 p1.toNatClampNeg) ((-1 : Int32)) _ h) (cwV 3 hts gX7_enacts_X7_hasLabel rfl rfl rfl (by decide +kernel) ⟨Nat.le_of_ble_eq_true rfl, Nat.le_of_ble_eq_true rfl⟩) (r_recv hE hW 30 0 rfl (ci := 10) rfl rfl) rfl hl.1 rfl (Nat.le_of_ble_eq_true rfl) dX7_enacts_31 ⟨Nat.le_of_ble_eq_true rfl, Nat.le_of_ble_eq_true rfl⟩ (fun r6 S1 H locs hp hW hS => ?_)
    obtain ⟨rfl, h⟩ := hp
    refine r_if_eq hx hb rfl (tgt := 39) dX7_enacts_34 (by decide) (fun c7 => ?_) (fun c7 => ?_)
    · have h := ite_t c7 h
      refine lv_aload_n hx hb dX7_enacts_39 rfl (lv_at hl 2 rfl) ?_
      refine r_get (C := RX7) (T := TX7) (N := 49) (ci := 10) (fs := fl_30 ad ν ρ 0 (σ 30 0)) hx hb hts hown hE hW 30 0 rfl rfl rfl (fun w h => List.mem_cons_of_mem _ (List.mem_append_right _ h)) 37 (by decide) (List.mem_of_getElem? (i := 4) rfl) rfl (v := .ref (ad 137 0)) rfl dX7_enacts_40 ?_
      refine lv_iload_n hx hb dX7_enacts_43 rfl (lv_at hl 1 rfl) ?_
      refine lv_iconst (v := (1 : Int32)) hx hb dX7_enacts_44 (by decide) ?_
      obtain ⟨b8, h⟩ := h
      refine r_zastM hx hb hE hW hS 37 (k := 137) rfl ⟨rfl, by decide, by decide⟩ (n := 20) (fun _ => rfl) (fun t q => by simp [fl_30, q]) b8 dX7_enacts_45 (fun t9 e10 H locs hW hS => ?_)
      have h := h t9 e10
      refine lv_aload_n hx hb dX7_enacts_46 rfl (lv_at hl 2 rfl) ?_
      refine r_get (C := RX7) (T := TX7) (N := 49) (ci := 10) (fs := fl_30 ad ν t9 0 (σ 30 0)) hx hb hts hown hE hW 30 0 rfl rfl rfl (fun w h => List.mem_cons_of_mem _ (List.mem_append_right _ h)) 39 (by decide) (List.mem_of_getElem? (i := 5) rfl) rfl (v := .ref (ad 139 0)) rfl dX7_enacts_47 ?_
      refine lv_iload_n hx hb dX7_enacts_50 rfl (lv_at hl 1 rfl) ?_
      refine lv_iload_n hx hb dX7_enacts_51 rfl (lv_at hl 0 rfl) ?_
      obtain ⟨b11, h⟩ := h
      refine r_iastM hx hb hE hW hS 39 (k := 139) rfl ⟨rfl, by decide, by decide⟩ (n := 20) (fun _ => rfl) (fun t q => by simp [fl_30, q]) b11 dX7_enacts_52 (fun t12 e13 H locs hW hS => ?_)
      have h := h t12 e13
      refine lv_aload_n hx hb dX7_enacts_53 rfl (lv_at hl 2 rfl) ?_
      refine r_get (C := RX7) (T := TX7) (N := 49) (ci := 10) (fs := fl_30 ad ν t12 0 (σ 30 0)) hx hb hts hown hE hW 30 0 rfl rfl rfl (fun w h => List.mem_cons_of_mem _ (List.mem_append_right _ h)) 38 (by decide) (List.mem_of_getElem? (i := 6) rfl) rfl (v := .ref (ad 138 0)) rfl dX7_enacts_54 ?_
      refine lv_iload_n hx hb dX7_enacts_57 rfl (lv_at hl 1 rfl) ?_
      refine lv_aload_n hx hb dX7_enacts_58 rfl (lv_at hl 2 rfl) ?_
      refine r_get (C := RX7) (T := TX7) (N := 49) (ci := 10) (fs := fl_30 ad ν t12 0 (σ 30 0)) hx hb hts hown hE hW 30 0 rfl rfl rfl (fun w h => List.mem_cons_of_mem _ (List.mem_append_right _ h)) 17 (by decide) (List.mem_of_getElem? (i := 3) rfl) rfl (v := .ref (ad 117 0)) rfl dX7_enacts_59 ?_
      refine lv_iload_n hx hb dX7_enacts_62 rfl (lv_at hl 3 rfl) ?_
      obtain ⟨b14, h⟩ := h
      refine r_iald hx hb hE hW 117 0 ⟨rfl, by decide, by decide⟩ (n := 40) (f := t12 17) rfl b14 (v := t12 17 p1.toNatClampNeg) rfl dX7_enacts_63 ?_
      obtain ⟨b15, h⟩ := h
      refine r_iastM hx hb hE hW hS 38 (k := 138) rfl ⟨rfl, by decide, by decide⟩ (n := 20) (fun _ => rfl) (fun t q => by simp [fl_30, q]) b15 dX7_enacts_64 (fun t16 e17 H locs hW hS => ?_)
      have h := h t16 e17
      refine lv_aload_n hx hb dX7_enacts_65 rfl (lv_at hl 2 rfl) ?_
      refine lv_iload_n hx hb dX7_enacts_66 rfl (lv_at hl 3 rfl) ?_
      refine k_Vv (rest := []) (As := [.int p1]) ⟨hx, hb, hml, hown, hts⟩ hE hz hS hW (mtX7_putsNew l z G ad σ ν t16 lo p1 _ h) (cwV 1 hts gX7_enacts_X7_putsNew rfl rfl rfl (by decide +kernel) ⟨Nat.le_of_ble_eq_true rfl, Nat.le_of_ble_eq_true rfl⟩) (r_recv hE hW 30 0 rfl (ci := 10) rfl rfl) rfl hl.1 rfl (Nat.le_of_ble_eq_true rfl) dX7_enacts_67 ⟨Nat.le_of_ble_eq_true rfl, Nat.le_of_ble_eq_true rfl⟩ (fun S1 H locs hp hW hS => ?_)
      obtain ⟨t18, rfl, h⟩ := hp
      refine lv_aload_n hx hb dX7_enacts_70 rfl (lv_at hl 2 rfl) ?_
      refine lv_iload_n hx hb dX7_enacts_71 rfl (lv_at hl 1 rfl) ?_
      refine k_Vi (rest := []) (As := [.int (ρ 15 p1.toNatClampNeg)]) ⟨hx, hb, hml, hown, hts⟩ hE hz hS hW (mtX7_takes l z G ad σ ν t18 lo (ρ 15 p1.toNatClampNeg) _ h) (cwV 1 hts gX7_enacts_X7_takes rfl rfl rfl (by decide +kernel) ⟨Nat.le_of_ble_eq_true rfl, Nat.le_of_ble_eq_true rfl⟩) (r_recv hE hW 30 0 rfl (ci := 10) rfl rfl) rfl hl.1 rfl (Nat.le_of_ble_eq_true rfl) dX7_enacts_72 ⟨Nat.le_of_ble_eq_true rfl, Nat.le_of_ble_eq_true rfl⟩ (fun r19 S1 H locs hp hW hS => ?_)
      obtain ⟨t20, rfl, h⟩ := hp
      obtain ⟨g21, h⟩ := h
      exact W.zret (v := r19) (ty := .boolean) hx hb hr (narrow_bo g21) (fun t ht _ => ⟨⟨_, (σ, ν, t20, lo), rfl, ⟨_, rfl, h⟩, WP.at9 ht hW⟩, hS.F ht⟩) hS.2.2 dX7_enacts_75 (hlocks := hlocks)
    · have h := ite_f c7 h
      refine lv_iconst (v := (0 : Int32)) hx hb dX7_enacts_37 (by decide) ?_
      exact W.zret (v := (0 : Int32)) (ty := .boolean) hx hb hr rfl (fun t ht _ => ⟨⟨_, (σ, ν, ρ, lo), rfl, ⟨_, rfl, h⟩, WP.at9 ht hW⟩, hS.F ht⟩) hS.2.2 dX7_enacts_38 (hlocks := hlocks)
set_option maxHeartbeats 4000000 in
set_option maxRecDepth 100000 in
theorem tX7_inserts_24 {p : Program} {l : Launch} {e : Env} {s : State} {m : MethodId} {args : Array Value} {below : List Frame} {meth : Method} {c : Code} {z : Nat} {G : Gl} {ad : Nat → Nat → Nat} {σ : SG} {ν : NU} {ρ : RH} {lo : Int64} (X : Cx p l e s m args below meth c cX7_inserts (some .boolean) 4 RX7 wsX7_inserts z G) (p1 : Int32) (p2 : Int32)  (post : Int32 → RH → Prop) : ∀ (a3 : RH) (y0 : Int32) {H : Heap} {locs : List Loc} {ls : Array Slot}, WP z G ad (σ, ν, a3, lo) H → va_S (Az z) s.heap H locs → lv_has ls 4 [(0, .ref (ad 30 0)), (1, .int p1), (2, .int p2)] → jX7_inserts_24 p1 p2 post a3 y0 → W p l e ({ frames := 2, cells := 0, slots := 0, locals := 49 } : Room) s m args below meth c H locs 0 0 (MQ below (Qis z G ad (fun r S1 => ∃ t : RH, S1 = (σ, ν, t, lo) ∧ post r t)) args s 0 0 (Az z)) (F0 m 24 ls [.int y0]) := by
  obtain ⟨hx, hb, hr, hml, hown, hts, hlocks, hE, hz⟩ := id X
  intro a3 y0 H locs ls hW hS hl h
  unfold jX7_inserts_24 at h
  refine lv_istore_n (lv' := [(3, .int y0), (0, .ref (ad 30 0)), (1, .int p1), (2, .int p2)]) hx hb dX7_inserts_24 rfl hl (by decide) rfl (fun ls hl => ?_)
  refine lv_iload_n hx hb dX7_inserts_25 rfl (lv_at hl 0 rfl) ?_
  refine lv_iconst (v := (-1 : Int32)) hx hb dX7_inserts_26 (by decide) ?_
  refine r_icmp_ne hx hb rfl (show (-1 : Int32).toInt = (-1) by decide) (tgt := 32) dX7_inserts_27 (by decide) (fun c4 => ?_) (fun c4 => ?_)
  · have h := ite_f c4 h
    refine lv_aload_n hx hb dX7_inserts_32 rfl (lv_at hl 1 rfl) ?_
    refine lv_iload_n hx hb dX7_inserts_33 rfl (lv_at hl 3 rfl) ?_
    refine lv_iconst (v := (0 : Int32)) hx hb dX7_inserts_34 (by decide) ?_
    refine lv_iload_n hx hb dX7_inserts_35 rfl (lv_at hl 0 rfl) ?_
    refine lv_aload_n hx hb dX7_inserts_36 rfl (lv_at hl 1 rfl) ?_
    refine r_get (C := RX7) (T := TX7) (N := 49) (ci := 10) (fs := fl_30 ad ν a3 0 (σ 30 0)) hx hb hts hown hE hW 30 0 rfl rfl rfl (fun w h => List.mem_cons_of_mem _ (List.mem_append_right _ h)) 18 (by decide) (List.mem_of_getElem? (i := 1) rfl) rfl (v := .ref (ad 118 0)) rfl dX7_inserts_37 ?_
    refine lv_iload_n hx hb dX7_inserts_40 rfl (lv_at hl 2 rfl) ?_
    obtain ⟨b5, h⟩ := h
    refine r_iald hx hb hE hW 118 0 ⟨rfl, by decide, by decide⟩ (n := 40) (f := a3 18) rfl b5 (v := a3 18 p1.toNatClampNeg) rfl dX7_inserts_41 ?_
    refine lv_iadd hx hb dX7_inserts_42 ?_
    refine k_Vv (rest := []) (As := [.int p2, .int ((0 : Int32)), .int (y0 + (a3 18 p1.toNatClampNeg))]) ⟨hx, hb, hml, hown, hts⟩ hE hz hS hW (mtX7_putsOld l z G ad σ ν a3 lo p2 ((0 : Int32)) (y0 + (a3 18 p1.toNatClampNeg)) _ h) (cwV 3 hts gX7_inserts_X7_putsOld rfl rfl rfl (by decide +kernel) ⟨Nat.le_of_ble_eq_true rfl, Nat.le_of_ble_eq_true rfl⟩) (r_recv hE hW 30 0 rfl (ci := 10) rfl rfl) rfl hl.1 rfl (Nat.le_of_ble_eq_true rfl) dX7_inserts_43 ⟨Nat.le_of_ble_eq_true rfl, Nat.le_of_ble_eq_true rfl⟩ (fun S1 H locs hp hW hS => ?_)
    obtain ⟨t6, rfl, h⟩ := hp
    refine lv_aload_n hx hb dX7_inserts_46 rfl (lv_at hl 1 rfl) ?_
    refine lv_iload_n hx hb dX7_inserts_47 rfl (lv_at hl 2 rfl) ?_
    refine k_Vv (rest := []) (As := [.int p1]) ⟨hx, hb, hml, hown, hts⟩ hE hz hS hW (mtX7_putsNew l z G ad σ ν t6 lo p1 _ h) (cwV 1 hts gX7_inserts_X7_putsNew rfl rfl rfl (by decide +kernel) ⟨Nat.le_of_ble_eq_true rfl, Nat.le_of_ble_eq_true rfl⟩) (r_recv hE hW 30 0 rfl (ci := 10) rfl rfl) rfl hl.1 rfl (Nat.le_of_ble_eq_true rfl) dX7_inserts_48 ⟨Nat.le_of_ble_eq_true rfl, Nat.le_of_ble_eq_true rfl⟩ (fun S1 H locs hp hW hS => ?_)
    obtain ⟨t7, rfl, h⟩ := hp
    refine lv_aload_n hx hb dX7_inserts_51 rfl (lv_at hl 1 rfl) ?_
    refine lv_iload_n hx hb dX7_inserts_52 rfl (lv_at hl 3 rfl) ?_
    refine lv_iload_n hx hb dX7_inserts_53 rfl (lv_at hl 0 rfl) ?_
    refine lv_aload_n hx hb dX7_inserts_54 rfl (lv_at hl 1 rfl) ?_
    refine r_get (C := RX7) (T := TX7) (N := 49) (ci := 10) (fs := fl_30 ad ν t7 0 (σ 30 0)) hx hb hts hown hE hW 30 0 rfl rfl rfl (fun w h => List.mem_cons_of_mem _ (List.mem_append_right _ h)) 18 (by decide) (List.mem_of_getElem? (i := 1) rfl) rfl (v := .ref (ad 118 0)) rfl dX7_inserts_55 ?_
    refine lv_iload_n hx hb dX7_inserts_58 rfl (lv_at hl 2 rfl) ?_
    obtain ⟨b8, h⟩ := h
    refine r_iald hx hb hE hW 118 0 ⟨rfl, by decide, by decide⟩ (n := 40) (f := t7 18) rfl b8 (v := t7 18 p1.toNatClampNeg) rfl dX7_inserts_59 ?_
    refine lv_iadd hx hb dX7_inserts_60 ?_
    refine lv_aload_n hx hb dX7_inserts_61 rfl (lv_at hl 1 rfl) ?_
    refine r_get (C := RX7) (T := TX7) (N := 49) (ci := 10) (fs := fl_30 ad ν t7 0 (σ 30 0)) hx hb hts hown hE hW 30 0 rfl rfl rfl (fun w h => List.mem_cons_of_mem _ (List.mem_append_right _ h)) 40 (by decide) (List.mem_of_getElem? (i := 2) rfl) rfl (v := .ref (ad 140 0)) rfl dX7_inserts_62 ?_
    refine lv_iload_n hx hb dX7_inserts_65 rfl (lv_at hl 3 rfl) ?_
    obtain ⟨b9, h⟩ := h
    refine r_iald hx hb hE hW 140 0 ⟨rfl, by decide, by decide⟩ (n := 20) (f := t7 40) rfl b9 (v := t7 40 p2.toNatClampNeg) rfl dX7_inserts_66 ?_
    refine k_Vv (rest := []) (As := [.int p2, .int (y0 + (t7 18 p1.toNatClampNeg)), .int (t7 40 p2.toNatClampNeg)]) ⟨hx, hb, hml, hown, hts⟩ hE hz hS hW (mtX7_putsOld l z G ad σ ν t7 lo p2 (y0 + (t7 18 p1.toNatClampNeg)) (t7 40 p2.toNatClampNeg) _ h) (cwV 3 hts gX7_inserts_X7_putsOld rfl rfl rfl (by decide +kernel) ⟨Nat.le_of_ble_eq_true rfl, Nat.le_of_ble_eq_true rfl⟩) (r_recv hE hW 30 0 rfl (ci := 10) rfl rfl) rfl hl.1 rfl (Nat.le_of_ble_eq_true rfl) dX7_inserts_67 ⟨Nat.le_of_ble_eq_true rfl, Nat.le_of_ble_eq_true rfl⟩ (fun S1 H locs hp hW hS => ?_)
    obtain ⟨t10, rfl, h⟩ := hp
    refine lv_aload_n hx hb dX7_inserts_70 rfl (lv_at hl 1 rfl) ?_
    refine lv_iload_n hx hb dX7_inserts_71 rfl (lv_at hl 3 rfl) ?_
    refine k_Vi (rest := []) (As := [.int p2]) ⟨hx, hb, hml, hown, hts⟩ hE hz hS hW (mtX7_takes l z G ad σ ν t10 lo p2 _ h) (cwV 1 hts gX7_inserts_X7_takes rfl rfl rfl (by decide +kernel) ⟨Nat.le_of_ble_eq_true rfl, Nat.le_of_ble_eq_true rfl⟩) (r_recv hE hW 30 0 rfl (ci := 10) rfl rfl) rfl hl.1 rfl (Nat.le_of_ble_eq_true rfl) dX7_inserts_72 ⟨Nat.le_of_ble_eq_true rfl, Nat.le_of_ble_eq_true rfl⟩ (fun r11 S1 H locs hp hW hS => ?_)
    obtain ⟨t12, rfl, h⟩ := hp
    obtain ⟨g13, h⟩ := h
    exact W.zret (v := r11) (ty := .boolean) hx hb hr (narrow_bo g13) (fun t ht _ => ⟨⟨_, (σ, ν, t12, lo), rfl, ⟨_, rfl, h⟩, WP.at9 ht hW⟩, hS.F ht⟩) hS.2.2 dX7_inserts_75 (hlocks := hlocks)
  · have h := ite_t c4 h
    refine lv_iconst (v := (0 : Int32)) hx hb dX7_inserts_30 (by decide) ?_
    exact W.zret (v := (0 : Int32)) (ty := .boolean) hx hb hr rfl (fun t ht _ => ⟨⟨_, (σ, ν, a3, lo), rfl, ⟨_, rfl, h⟩, WP.at9 ht hW⟩, hS.F ht⟩) hS.2.2 dX7_inserts_31 (hlocks := hlocks)
set_option maxHeartbeats 4000000 in
set_option maxRecDepth 100000 in
theorem mtX7_inserts (l : Launch) (z : Nat) (G : Gl) (ad : Nat → Nat → Nat) (σ : SG) (ν : NU) (ρ : RH) (lo : Int64) (p1 : Int32) (p2 : Int32) (post : Int32 → RH → Prop) (h : wpX7_inserts ρ p1 p2 post) : Met l yX7_inserts wsX7_inserts ({ frames := 2, cells := 0, slots := 0, locals := 49 } : Room) (Pcs z G ad (σ, ν, ρ, lo) [.ref (ad 30 0), .int p1, .int p2]) (Qis z G ad (fun r S1 => ∃ t : RH, S1 = (σ, ν, t, lo) ∧ post r t)) 0 0 (Az z) := by
  refine Met.ofW (cc := cX7_inserts) (maxL := 4) (ret := (some .boolean)) (by decide) rfl ?_
  intro p e s m args below meth c s₁ B hml hv
  obtain ⟨rfl, hz, hW, hE⟩ := hv
  have hx := B.exec
  have hb := B.bytes
  have hr := B.returns
  have hts := atoms_spec (ws := wsX7_inserts) B.pre
  have hown : s.vm.findClass RX7 = some m.cls := findClass_of_methodNamed B.named
  have hlocks := B.notSynchronized
  have X : Cx p l e s m _ below meth c cX7_inserts (some .boolean) 4 RX7 wsX7_inserts z G := ⟨hx, hb, hr, hml, hown, hts, hlocks, hE, hz⟩
  have hS : va_S (Az z) s.heap s.heap [] := va_S.rf
  have hl := lv_entry [.ref (ad 30 0), .int p1, .int p2] (n := 4) (Nat.le_of_ble_eq_true rfl)
  rw [lg_entry_eq]
  generalize (lg_sl [.ref (ad 30 0), .int p1, .int p2] ++ List.replicate (4 - (lg_sl [.ref (ad 30 0), .int p1, .int p2]).length) Slot.unset).toArray = ls at hl ⊢
  have hl : lv_has ls 4 [(0, .ref (ad 30 0)), (1, .int p1), (2, .int p2)] := hl
  unfold wpX7_inserts at h
  refine lv_aload_n hx hb dX7_inserts_0 rfl (lv_at hl 0 rfl) ?_
  refine r_get (C := RX7) (T := TX7) (N := 49) (ci := 10) (fs := fl_30 ad ν ρ 0 (σ 30 0)) hx hb hts hown hE hW 30 0 rfl rfl rfl (fun w h => List.mem_cons_of_mem _ (List.mem_append_right _ h)) 18 (by decide) (List.mem_of_getElem? (i := 1) rfl) rfl (v := .ref (ad 118 0)) rfl dX7_inserts_1 ?_
  refine lv_iload_n hx hb dX7_inserts_4 rfl (lv_at hl 1 rfl) ?_
  obtain ⟨b1, h⟩ := h
  refine r_iald hx hb hE hW 118 0 ⟨rfl, by decide, by decide⟩ (n := 40) (f := ρ 18) rfl b1 (v := ρ 18 p1.toNatClampNeg) rfl dX7_inserts_5 ?_
  refine r_if_ne hx hb rfl (tgt := 18) dX7_inserts_6 (by decide) (fun c2 => ?_) (fun c2 => ?_)
  · have h := ite_f c2 h
    refine lv_aload_n hx hb dX7_inserts_18 rfl (lv_at hl 0 rfl) ?_
    refine lv_iload_n hx hb dX7_inserts_19 rfl (lv_at hl 1 rfl) ?_
    refine lv_iload_n hx hb dX7_inserts_20 rfl (lv_at hl 2 rfl) ?_
    refine k_Vi (rest := []) (As := [.int p1, .int p2]) ⟨hx, hb, hml, hown, hts⟩ hE hz hS hW (mtX7_firstPlace l z G ad σ ν ρ lo p1 p2 _ h) (cwV 2 hts gX7_inserts_X7_firstPlace rfl rfl rfl (by decide +kernel) ⟨Nat.le_of_ble_eq_true rfl, Nat.le_of_ble_eq_true rfl⟩) (r_recv hE hW 30 0 rfl (ci := 10) rfl rfl) rfl hl.1 rfl (Nat.le_of_ble_eq_true rfl) dX7_inserts_21 ⟨Nat.le_of_ble_eq_true rfl, Nat.le_of_ble_eq_true rfl⟩ (fun r3 S1 H locs hp hW hS => ?_)
    obtain ⟨rfl, h⟩ := hp
    exact tX7_inserts_24 (σ := σ) (ρ := ρ) X p1 p2 post  ρ r3 hW hS (lv_sub hl [0, 1, 2] rfl) h
  · have h := ite_t c2 h
    refine lv_aload_n hx hb dX7_inserts_9 rfl (lv_at hl 0 rfl) ?_
    refine r_get (C := RX7) (T := TX7) (N := 49) (ci := 10) (fs := fl_30 ad ν ρ 0 (σ 30 0)) hx hb hts hown hE hW 30 0 rfl rfl rfl (fun w h => List.mem_cons_of_mem _ (List.mem_append_right _ h)) 40 (by decide) (List.mem_of_getElem? (i := 2) rfl) rfl (v := .ref (ad 140 0)) rfl dX7_inserts_10 ?_
    refine lv_iload_n hx hb dX7_inserts_13 rfl (lv_at hl 2 rfl) ?_
    obtain ⟨b14, h⟩ := h
    refine r_iald hx hb hE hW 140 0 ⟨rfl, by decide, by decide⟩ (n := 20) (f := ρ 40) rfl b14 (v := ρ 40 p2.toNatClampNeg) rfl dX7_inserts_14 ?_
    refine lv_goto (tgt := 24) hx hb dX7_inserts_15 (by decide) ?_
    exact tX7_inserts_24 (σ := σ) (ρ := ρ) X p1 p2 post  ρ (ρ 40 p2.toNatClampNeg) hW hS (lv_sub hl [0, 1, 2] rfl) h
set_option maxHeartbeats 4000000 in
set_option maxRecDepth 100000 in
theorem tX7_substitutes_5 {p : Program} {l : Launch} {e : Env} {s : State} {m : MethodId} {args : Array Value} {below : List Frame} {meth : Method} {c : Code} {z : Nat} {G : Gl} {ad : Nat → Nat → Nat} {σ : SG} {ν : NU} {ρ : RH} {lo : Int64} (X : Cx p l e s m args below meth c cX7_substitutes (some .boolean) 5 RX7 wsX7_substitutes z G) (p1 : Int32) (p2 : Int32)  (post : Int32 → RH → Prop) : ∀ (n : Nat) (a3 : RH) (x3 : Int32) (x4 : Int32) {H : Heap} {locs : List Loc} {ls : Array Slot}, WP z G ad (σ, ν, a3, lo) H → va_S (Az z) s.heap H locs → lv_has ls 5 [(0, .ref (ad 30 0)), (1, .int p1), (2, .int p2), (3, .int x3), (4, .int x4)] → wX7_substitutes_5 p1 p2 post n a3 x3 x4 → W p l e ({ frames := 2, cells := 0, slots := 0, locals := 46 } : Room) s m args below meth c H locs 0 0 (MQ below (Qis z G ad (fun r S1 => ∃ t : RH, S1 = (σ, ν, t, lo) ∧ post r t)) args s 0 0 (Az z)) (F0 m 5 ls []) := by
  obtain ⟨hx, hb, hr, hml, hown, hts, hlocks, hE, hz⟩ := id X
  intro n
  induction n with
  | zero =>
    intro a3 x3 x4 H locs ls hW hS hl h
    exact absurd h id
  | succ n ih =>
    intro a3 x3 x4 H locs ls hW hS hl h
    unfold wX7_substitutes_5 at h
    refine lv_iload hx hb dX7_substitutes_5 (lv_at hl 4 rfl) ?_
    refine lv_aload_n hx hb dX7_substitutes_7 rfl (lv_at hl 0 rfl) ?_
    refine r_get (C := RX7) (T := TX7) (N := 49) (ci := 10) (fs := fl_30 ad ν a3 0 (σ 30 0)) hx hb hts hown hE hW 30 0 rfl rfl rfl (fun w h => List.mem_cons_of_mem _ (List.mem_append_right _ h)) 40 (by decide) (List.mem_of_getElem? (i := 1) rfl) rfl (v := .ref (ad 140 0)) rfl dX7_substitutes_8 ?_
    refine lv_iload_n hx hb dX7_substitutes_11 rfl (lv_at hl 2 rfl) ?_
    obtain ⟨b1, h⟩ := h
    refine r_iald hx hb hE hW 140 0 ⟨rfl, by decide, by decide⟩ (n := 20) (f := a3 40) rfl b1 (v := a3 40 p2.toNatClampNeg) rfl dX7_substitutes_12 ?_
    refine r_icmp_ge hx hb rfl rfl (tgt := 65) dX7_substitutes_13 (by decide) (fun c2 => ?_) (fun c2 => ?_)
    · have h := ite_f c2 h
      refine lv_iload_n hx hb dX7_substitutes_65 rfl (lv_at hl 3 rfl) ?_
      refine r_if_eq hx hb rfl (tgt := 81) dX7_substitutes_66 (by decide) (fun c3 => ?_) (fun c3 => ?_)
      · have h := ite_t c3 h
        refine lv_iconst (v := (0 : Int32)) hx hb dX7_substitutes_81 (by decide) ?_
        exact W.zret (v := (0 : Int32)) (ty := .boolean) hx hb hr rfl (fun t ht _ => ⟨⟨_, (σ, ν, a3, lo), rfl, ⟨_, rfl, h⟩, WP.at9 ht hW⟩, hS.F ht⟩) hS.2.2 dX7_substitutes_82 (hlocks := hlocks)
      · have h := ite_f c3 h
        refine lv_aload_n hx hb dX7_substitutes_69 rfl (lv_at hl 0 rfl) ?_
        refine lv_iload_n hx hb dX7_substitutes_70 rfl (lv_at hl 2 rfl) ?_
        refine k_Vi (rest := []) (As := [.int p2]) ⟨hx, hb, hml, hown, hts⟩ hE hz hS hW (mtX7_takes l z G ad σ ν a3 lo p2 _ h) (cwV 1 hts gX7_substitutes_X7_takes rfl rfl rfl (by decide +kernel) ⟨Nat.le_of_ble_eq_true rfl, Nat.le_of_ble_eq_true rfl⟩) (r_recv hE hW 30 0 rfl (ci := 10) rfl rfl) rfl hl.1 rfl (Nat.le_of_ble_eq_true rfl) dX7_substitutes_71 ⟨Nat.le_of_ble_eq_true rfl, Nat.le_of_ble_eq_true rfl⟩ (fun r4 S1 H locs hp hW hS => ?_)
        obtain ⟨t5, rfl, h⟩ := hp
        refine r_if_eq hx hb rfl (tgt := 81) dX7_substitutes_74 (by decide) (fun c6 => ?_) (fun c6 => ?_)
        · have h := ite_t c6 h
          refine lv_iconst (v := (0 : Int32)) hx hb dX7_substitutes_81 (by decide) ?_
          exact W.zret (v := (0 : Int32)) (ty := .boolean) hx hb hr rfl (fun t ht _ => ⟨⟨_, (σ, ν, t5, lo), rfl, ⟨_, rfl, h⟩, WP.at9 ht hW⟩, hS.F ht⟩) hS.2.2 dX7_substitutes_82 (hlocks := hlocks)
        · have h := ite_f c6 h
          refine lv_iconst (v := (1 : Int32)) hx hb dX7_substitutes_77 (by decide) ?_
          refine lv_goto (tgt := 82) hx hb dX7_substitutes_78 (by decide) ?_
          exact W.zret (v := (1 : Int32)) (ty := .boolean) hx hb hr rfl (fun t ht _ => ⟨⟨_, (σ, ν, t5, lo), rfl, ⟨_, rfl, h⟩, WP.at9 ht hW⟩, hS.F ht⟩) hS.2.2 dX7_substitutes_82 (hlocks := hlocks)
    · have h := ite_t c2 h
      refine lv_aload_n hx hb dX7_substitutes_16 rfl (lv_at hl 0 rfl) ?_
      refine lv_iload_n hx hb dX7_substitutes_17 rfl (lv_at hl 1 rfl) ?_
      refine lv_iload_n hx hb dX7_substitutes_18 rfl (lv_at hl 2 rfl) ?_
      refine lv_iload hx hb dX7_substitutes_19 (lv_at hl 4 rfl) ?_
      refine k_Vi (rest := []) (As := [.int p1, .int p2, .int x4]) ⟨hx, hb, hml, hown, hts⟩ hE hz hS hW (mtX7_isFoundAt l z G ad σ ν a3 lo p1 p2 x4 _ h) (cwV 3 hts gX7_substitutes_X7_isFoundAt rfl rfl rfl (by decide +kernel) ⟨Nat.le_of_ble_eq_true rfl, Nat.le_of_ble_eq_true rfl⟩) (r_recv hE hW 30 0 rfl (ci := 10) rfl rfl) rfl hl.1 rfl (Nat.le_of_ble_eq_true rfl) dX7_substitutes_21 ⟨Nat.le_of_ble_eq_true rfl, Nat.le_of_ble_eq_true rfl⟩ (fun r7 S1 H locs hp hW hS => ?_)
      obtain ⟨rfl, h⟩ := hp
      refine r_if_eq hx hb rfl (tgt := 48) dX7_substitutes_24 (by decide) (fun c8 => ?_) (fun c8 => ?_)
      · have h := ite_t c8 h
        refine lv_aload_n hx hb dX7_substitutes_48 rfl (lv_at hl 0 rfl) ?_
        refine lv_iload_n hx hb dX7_substitutes_49 rfl (lv_at hl 2 rfl) ?_
        refine lv_iload hx hb dX7_substitutes_50 (lv_at hl 4 rfl) ?_
        refine lv_iload hx hb dX7_substitutes_52 (lv_at hl 4 rfl) ?_
        refine lv_iconst (v := (1 : Int32)) hx hb dX7_substitutes_54 (by decide) ?_
        refine lv_iadd hx hb dX7_substitutes_55 ?_
        refine k_Vv (rest := []) (As := [.int p2, .int x4, .int (x4 + ((1 : Int32)))]) ⟨hx, hb, hml, hown, hts⟩ hE hz hS hW (mtX7_putsOld l z G ad σ ν a3 lo p2 x4 (x4 + ((1 : Int32))) _ h) (cwV 3 hts gX7_substitutes_X7_putsOld rfl rfl rfl (by decide +kernel) ⟨Nat.le_of_ble_eq_true rfl, Nat.le_of_ble_eq_true rfl⟩) (r_recv hE hW 30 0 rfl (ci := 10) rfl rfl) rfl hl.1 rfl (Nat.le_of_ble_eq_true rfl) dX7_substitutes_56 ⟨Nat.le_of_ble_eq_true rfl, Nat.le_of_ble_eq_true rfl⟩ (fun S1 H locs hp hW hS => ?_)
        obtain ⟨t9, rfl, h⟩ := hp
        refine lv_iinc (v := x4 + (1 : Int32)) (lv' := [(4, .int (x4 + (1 : Int32))), (0, .ref (ad 30 0)), (1, .int p1), (2, .int p2), (3, .int x3)]) hx hb dX7_substitutes_59 hl (k := 4) rfl rfl (by decide) rfl (fun ls hl => ?_)
        refine lv_goto (tgt := 5) hx hb dX7_substitutes_62 (by decide) ?_
        exact ih t9 x3 (x4 + (1 : Int32)) hW hS (lv_sub hl [1, 2, 3, 4, 0] rfl) h
      · have h := ite_f c8 h
        refine lv_aload_n hx hb dX7_substitutes_27 rfl (lv_at hl 0 rfl) ?_
        refine lv_iload_n hx hb dX7_substitutes_28 rfl (lv_at hl 1 rfl) ?_
        refine k_Vv (rest := []) (As := [.int p1]) ⟨hx, hb, hml, hown, hts⟩ hE hz hS hW (mtX7_putsNew l z G ad σ ν a3 lo p1 _ h) (cwV 1 hts gX7_substitutes_X7_putsNew rfl rfl rfl (by decide +kernel) ⟨Nat.le_of_ble_eq_true rfl, Nat.le_of_ble_eq_true rfl⟩) (r_recv hE hW 30 0 rfl (ci := 10) rfl rfl) rfl hl.1 rfl (Nat.le_of_ble_eq_true rfl) dX7_substitutes_29 ⟨Nat.le_of_ble_eq_true rfl, Nat.le_of_ble_eq_true rfl⟩ (fun S1 H locs hp hW hS => ?_)
        obtain ⟨t10, rfl, h⟩ := hp
        refine lv_iload hx hb dX7_substitutes_32 (lv_at hl 4 rfl) ?_
        refine lv_aload_n hx hb dX7_substitutes_34 rfl (lv_at hl 0 rfl) ?_
        refine r_get (C := RX7) (T := TX7) (N := 49) (ci := 10) (fs := fl_30 ad ν t10 0 (σ 30 0)) hx hb hts hown hE hW 30 0 rfl rfl rfl (fun w h => List.mem_cons_of_mem _ (List.mem_append_right _ h)) 18 (by decide) (List.mem_of_getElem? (i := 2) rfl) rfl (v := .ref (ad 118 0)) rfl dX7_substitutes_35 ?_
        refine lv_iload_n hx hb dX7_substitutes_38 rfl (lv_at hl 1 rfl) ?_
        obtain ⟨b11, h⟩ := h
        refine r_iald hx hb hE hW 118 0 ⟨rfl, by decide, by decide⟩ (n := 40) (f := t10 18) rfl b11 (v := t10 18 p1.toNatClampNeg) rfl dX7_substitutes_39 ?_
        refine lv_iadd hx hb dX7_substitutes_40 ?_
        refine lv_istore (lv' := [(4, .int (x4 + (t10 18 p1.toNatClampNeg))), (0, .ref (ad 30 0)), (1, .int p1), (2, .int p2), (3, .int x3)]) hx hb dX7_substitutes_41 hl (by decide) rfl (fun ls hl => ?_)
        refine lv_iconst (v := (1 : Int32)) hx hb dX7_substitutes_43 (by decide) ?_
        refine lv_istore_n (lv' := [(3, .int ((1 : Int32))), (4, .int (x4 + (t10 18 p1.toNatClampNeg))), (0, .ref (ad 30 0)), (1, .int p1), (2, .int p2)]) hx hb dX7_substitutes_44 rfl hl (by decide) rfl (fun ls hl => ?_)
        refine lv_goto (tgt := 5) hx hb dX7_substitutes_45 (by decide) ?_
        exact ih t10 ((1 : Int32)) (x4 + (t10 18 p1.toNatClampNeg)) hW hS (lv_sub hl [2, 3, 4, 0, 1] rfl) h
set_option maxHeartbeats 4000000 in
set_option maxRecDepth 100000 in
theorem mtX7_substitutes (l : Launch) (z : Nat) (G : Gl) (ad : Nat → Nat → Nat) (σ : SG) (ν : NU) (ρ : RH) (lo : Int64) (p1 : Int32) (p2 : Int32) (post : Int32 → RH → Prop) (h : wpX7_substitutes ρ p1 p2 post) : Met l yX7_substitutes wsX7_substitutes ({ frames := 2, cells := 0, slots := 0, locals := 46 } : Room) (Pcs z G ad (σ, ν, ρ, lo) [.ref (ad 30 0), .int p1, .int p2]) (Qis z G ad (fun r S1 => ∃ t : RH, S1 = (σ, ν, t, lo) ∧ post r t)) 0 0 (Az z) := by
  refine Met.ofW (cc := cX7_substitutes) (maxL := 5) (ret := (some .boolean)) (by decide) rfl ?_
  intro p e s m args below meth c s₁ B hml hv
  obtain ⟨rfl, hz, hW, hE⟩ := hv
  have hx := B.exec
  have hb := B.bytes
  have hr := B.returns
  have hts := atoms_spec (ws := wsX7_substitutes) B.pre
  have hown : s.vm.findClass RX7 = some m.cls := findClass_of_methodNamed B.named
  have hlocks := B.notSynchronized
  have X : Cx p l e s m _ below meth c cX7_substitutes (some .boolean) 5 RX7 wsX7_substitutes z G := ⟨hx, hb, hr, hml, hown, hts, hlocks, hE, hz⟩
  have hS : va_S (Az z) s.heap s.heap [] := va_S.rf
  have hl := lv_entry [.ref (ad 30 0), .int p1, .int p2] (n := 5) (Nat.le_of_ble_eq_true rfl)
  rw [lg_entry_eq]
  generalize (lg_sl [.ref (ad 30 0), .int p1, .int p2] ++ List.replicate (5 - (lg_sl [.ref (ad 30 0), .int p1, .int p2]).length) Slot.unset).toArray = ls at hl ⊢
  have hl : lv_has ls 5 [(0, .ref (ad 30 0)), (1, .int p1), (2, .int p2)] := hl
  unfold wpX7_substitutes at h
  refine lv_iconst (v := (0 : Int32)) hx hb dX7_substitutes_0 (by decide) ?_
  refine lv_istore_n (lv' := [(3, .int ((0 : Int32))), (0, .ref (ad 30 0)), (1, .int p1), (2, .int p2)]) hx hb dX7_substitutes_1 rfl hl (by decide) rfl (fun ls hl => ?_)
  refine lv_iconst (v := (0 : Int32)) hx hb dX7_substitutes_2 (by decide) ?_
  refine lv_istore (lv' := [(4, .int ((0 : Int32))), (3, .int ((0 : Int32))), (0, .ref (ad 30 0)), (1, .int p1), (2, .int p2)]) hx hb dX7_substitutes_3 hl (by decide) rfl (fun ls hl => ?_)
  obtain ⟨n12, h⟩ := h
  exact tX7_substitutes_5 (σ := σ) (ρ := ρ) X p1 p2 post  n12 ρ ((0 : Int32)) ((0 : Int32)) hW hS (lv_sub hl [2, 3, 4, 1, 0] rfl) h
set_option maxHeartbeats 4000000 in
set_option maxRecDepth 100000 in
theorem mtX7_omits (l : Launch) (z : Nat) (G : Gl) (ad : Nat → Nat → Nat) (σ : SG) (ν : NU) (ρ : RH) (lo : Int64) (p1 : Int32) (p2 : Int32) (post : Int32 → RH → Prop) (h : wpX7_omits ρ p1 p2 post) : Met l yX7_omits wsX7_omits ({ frames := 2, cells := 0, slots := 0, locals := 49 } : Room) (Pcs z G ad (σ, ν, ρ, lo) [.ref (ad 30 0), .int p1, .int p2]) (Qis z G ad (fun r S1 => ∃ t : RH, S1 = (σ, ν, t, lo) ∧ post r t)) 0 0 (Az z) := by
  refine Met.ofW (cc := cX7_omits) (maxL := 4) (ret := (some .boolean)) (by decide) rfl ?_
  intro p e s m args below meth c s₁ B hml hv
  obtain ⟨rfl, hz, hW, hE⟩ := hv
  have hx := B.exec
  have hb := B.bytes
  have hr := B.returns
  have hts := atoms_spec (ws := wsX7_omits) B.pre
  have hown : s.vm.findClass RX7 = some m.cls := findClass_of_methodNamed B.named
  have hlocks := B.notSynchronized
  have X : Cx p l e s m _ below meth c cX7_omits (some .boolean) 4 RX7 wsX7_omits z G := ⟨hx, hb, hr, hml, hown, hts, hlocks, hE, hz⟩
  have hS : va_S (Az z) s.heap s.heap [] := va_S.rf
  have hl := lv_entry [.ref (ad 30 0), .int p1, .int p2] (n := 4) (Nat.le_of_ble_eq_true rfl)
  rw [lg_entry_eq]
  generalize (lg_sl [.ref (ad 30 0), .int p1, .int p2] ++ List.replicate (4 - (lg_sl [.ref (ad 30 0), .int p1, .int p2]).length) Slot.unset).toArray = ls at hl ⊢
  have hl : lv_has ls 4 [(0, .ref (ad 30 0)), (1, .int p1), (2, .int p2)] := hl
  unfold wpX7_omits at h
  refine lv_aload_n hx hb dX7_omits_0 rfl (lv_at hl 0 rfl) ?_
  refine lv_iload_n hx hb dX7_omits_1 rfl (lv_at hl 1 rfl) ?_
  refine lv_iload_n hx hb dX7_omits_2 rfl (lv_at hl 2 rfl) ?_
  refine k_Vi (rest := []) (As := [.int p1, .int p2]) ⟨hx, hb, hml, hown, hts⟩ hE hz hS hW (mtX7_firstPlace l z G ad σ ν ρ lo p1 p2 _ h) (cwV 2 hts gX7_omits_X7_firstPlace rfl rfl rfl (by decide +kernel) ⟨Nat.le_of_ble_eq_true rfl, Nat.le_of_ble_eq_true rfl⟩) (r_recv hE hW 30 0 rfl (ci := 10) rfl rfl) rfl hl.1 rfl (Nat.le_of_ble_eq_true rfl) dX7_omits_3 ⟨Nat.le_of_ble_eq_true rfl, Nat.le_of_ble_eq_true rfl⟩ (fun r1 S1 H locs hp hW hS => ?_)
  obtain ⟨rfl, h⟩ := hp
  refine lv_istore_n (lv' := [(3, .int r1), (0, .ref (ad 30 0)), (1, .int p1), (2, .int p2)]) hx hb dX7_omits_6 rfl hl (by decide) rfl (fun ls hl => ?_)
  refine lv_iload_n hx hb dX7_omits_7 rfl (lv_at hl 0 rfl) ?_
  refine lv_iconst (v := (-1 : Int32)) hx hb dX7_omits_8 (by decide) ?_
  refine r_icmp_ne hx hb rfl (show (-1 : Int32).toInt = (-1) by decide) (tgt := 14) dX7_omits_9 (by decide) (fun c2 => ?_) (fun c2 => ?_)
  · have h := ite_f c2 h
    refine lv_aload_n hx hb dX7_omits_14 rfl (lv_at hl 1 rfl) ?_
    refine r_get (C := RX7) (T := TX7) (N := 49) (ci := 10) (fs := fl_30 ad ν ρ 0 (σ 30 0)) hx hb hts hown hE hW 30 0 rfl rfl rfl (fun w h => List.mem_cons_of_mem _ (List.mem_append_right _ h)) 40 (by decide) (List.mem_of_getElem? (i := 1) rfl) rfl (v := .ref (ad 140 0)) rfl dX7_omits_15 ?_
    refine lv_iload_n hx hb dX7_omits_18 rfl (lv_at hl 3 rfl) ?_
    refine lv_iload_n hx hb dX7_omits_19 rfl (lv_at hl 0 rfl) ?_
    obtain ⟨b3, h⟩ := h
    refine r_iastM hx hb hE hW hS 40 (k := 140) rfl ⟨rfl, by decide, by decide⟩ (n := 20) (fun _ => rfl) (fun t q => by simp [fl_30, q]) b3 dX7_omits_20 (fun t4 e5 H locs hW hS => ?_)
    have h := h t4 e5
    refine lv_iconst (v := (1 : Int32)) hx hb dX7_omits_21 (by decide) ?_
    exact W.zret (v := (1 : Int32)) (ty := .boolean) hx hb hr rfl (fun t ht _ => ⟨⟨_, (σ, ν, t4, lo), rfl, ⟨_, rfl, h⟩, WP.at9 ht hW⟩, hS.F ht⟩) hS.2.2 dX7_omits_22 (hlocks := hlocks)
  · have h := ite_t c2 h
    refine lv_iconst (v := (0 : Int32)) hx hb dX7_omits_12 (by decide) ?_
    exact W.zret (v := (0 : Int32)) (ty := .boolean) hx hb hr rfl (fun t ht _ => ⟨⟨_, (σ, ν, ρ, lo), rfl, ⟨_, rfl, h⟩, WP.at9 ht hW⟩, hS.F ht⟩) hS.2.2 dX7_omits_13 (hlocks := hlocks)
set_option maxHeartbeats 4000000 in
set_option maxRecDepth 100000 in
theorem tX7_renumbers_25 {p : Program} {l : Launch} {e : Env} {s : State} {m : MethodId} {args : Array Value} {below : List Frame} {meth : Method} {c : Code} {z : Nat} {G : Gl} {ad : Nat → Nat → Nat} {σ : SG} {ν : NU} {ρ : RH} {lo : Int64} (X : Cx p l e s m args below meth c cX7_renumbers (some .boolean) 4 RX7 wsX7_renumbers z G) (p1 : Int32) (p2 : Int32)  (post : Int32 → RH → Prop) : ∀ (a3 : RH) (y0 : Int32) {H : Heap} {locs : List Loc} {ls : Array Slot}, WP z G ad (σ, ν, a3, lo) H → va_S (Az z) s.heap H locs → lv_has ls 4 [(0, .ref (ad 30 0)), (1, .int p1), (2, .int p2)] → jX7_renumbers_25 p1 p2 post a3 y0 → W p l e ({ frames := 1, cells := 0, slots := 0, locals := 25 } : Room) s m args below meth c H locs 0 0 (MQ below (Qis z G ad (fun r S1 => ∃ t : RH, S1 = (σ, ν, t, lo) ∧ post r t)) args s 0 0 (Az z)) (F0 m 25 ls [.int y0]) := by
  obtain ⟨hx, hb, hr, hml, hown, hts, hlocks, hE, hz⟩ := id X
  intro a3 y0 H locs ls hW hS hl h
  unfold jX7_renumbers_25 at h
  refine lv_istore_n (lv' := [(3, .int y0), (0, .ref (ad 30 0)), (1, .int p1), (2, .int p2)]) hx hb dX7_renumbers_25 rfl hl (by decide) rfl (fun ls hl => ?_)
  refine lv_aload_n hx hb dX7_renumbers_26 rfl (lv_at hl 1 rfl) ?_
  refine r_get (C := RX7) (T := TX7) (N := 49) (ci := 10) (fs := fl_30 ad ν a3 0 (σ 30 0)) hx hb hts hown hE hW 30 0 rfl rfl rfl (fun w h => List.mem_cons_of_mem _ (List.mem_append_right _ h)) 38 (by decide) (List.mem_of_getElem? (i := 3) rfl) rfl (v := .ref (ad 138 0)) rfl dX7_renumbers_27 ?_
  refine lv_iload_n hx hb dX7_renumbers_30 rfl (lv_at hl 3 rfl) ?_
  refine lv_iload_n hx hb dX7_renumbers_31 rfl (lv_at hl 0 rfl) ?_
  refine r_if_eq hx hb rfl (tgt := 44) dX7_renumbers_32 (by decide) (fun c5 => ?_) (fun c5 => ?_)
  · have h := ite_t c5 h
    refine lv_aload_n hx hb dX7_renumbers_44 rfl (lv_at hl 1 rfl) ?_
    refine r_get (C := RX7) (T := TX7) (N := 49) (ci := 10) (fs := fl_30 ad ν a3 0 (σ 30 0)) hx hb hts hown hE hW 30 0 rfl rfl rfl (fun w h => List.mem_cons_of_mem _ (List.mem_append_right _ h)) 38 (by decide) (List.mem_of_getElem? (i := 3) rfl) rfl (v := .ref (ad 138 0)) rfl dX7_renumbers_45 ?_
    refine lv_iload_n hx hb dX7_renumbers_48 rfl (lv_at hl 3 rfl) ?_
    obtain ⟨b6, h⟩ := h
    refine r_iald hx hb hE hW 138 0 ⟨rfl, by decide, by decide⟩ (n := 20) (f := a3 38) rfl b6 (v := a3 38 p2.toNatClampNeg) rfl dX7_renumbers_49 ?_
    obtain ⟨b7, h⟩ := h
    refine r_iastM hx hb hE hW hS 38 (k := 138) rfl ⟨rfl, by decide, by decide⟩ (n := 20) (fun _ => rfl) (fun t q => by simp [fl_30, q]) b7 dX7_renumbers_50 (fun t8 e9 H locs hW hS => ?_)
    have h := h t8 e9
    refine lv_iload_n hx hb dX7_renumbers_51 rfl (lv_at hl 0 rfl) ?_
    obtain ⟨g10, h⟩ := h
    exact W.zret (v := y0) (ty := .boolean) hx hb hr (narrow_bo g10) (fun t ht _ => ⟨⟨_, (σ, ν, t8, lo), rfl, ⟨_, rfl, h⟩, WP.at9 ht hW⟩, hS.F ht⟩) hS.2.2 dX7_renumbers_52 (hlocks := hlocks)
  · have h := ite_f c5 h
    refine lv_aload_n hx hb dX7_renumbers_35 rfl (lv_at hl 1 rfl) ?_
    refine r_get (C := RX7) (T := TX7) (N := 49) (ci := 10) (fs := fl_30 ad ν a3 0 (σ 30 0)) hx hb hts hown hE hW 30 0 rfl rfl rfl (fun w h => List.mem_cons_of_mem _ (List.mem_append_right _ h)) 17 (by decide) (List.mem_of_getElem? (i := 2) rfl) rfl (v := .ref (ad 117 0)) rfl dX7_renumbers_36 ?_
    refine lv_iload_n hx hb dX7_renumbers_39 rfl (lv_at hl 2 rfl) ?_
    obtain ⟨b11, h⟩ := h
    refine r_iald hx hb hE hW 117 0 ⟨rfl, by decide, by decide⟩ (n := 40) (f := a3 17) rfl b11 (v := a3 17 p1.toNatClampNeg) rfl dX7_renumbers_40 ?_
    refine lv_goto (tgt := 50) hx hb dX7_renumbers_41 (by decide) ?_
    obtain ⟨b12, h⟩ := h
    refine r_iastM hx hb hE hW hS 38 (k := 138) rfl ⟨rfl, by decide, by decide⟩ (n := 20) (fun _ => rfl) (fun t q => by simp [fl_30, q]) b12 dX7_renumbers_50 (fun t13 e14 H locs hW hS => ?_)
    have h := h t13 e14
    refine lv_iload_n hx hb dX7_renumbers_51 rfl (lv_at hl 0 rfl) ?_
    obtain ⟨g15, h⟩ := h
    exact W.zret (v := y0) (ty := .boolean) hx hb hr (narrow_bo g15) (fun t ht _ => ⟨⟨_, (σ, ν, t13, lo), rfl, ⟨_, rfl, h⟩, WP.at9 ht hW⟩, hS.F ht⟩) hS.2.2 dX7_renumbers_52 (hlocks := hlocks)
set_option maxHeartbeats 4000000 in
set_option maxRecDepth 100000 in
theorem mtX7_renumbers (l : Launch) (z : Nat) (G : Gl) (ad : Nat → Nat → Nat) (σ : SG) (ν : NU) (ρ : RH) (lo : Int64) (p1 : Int32) (p2 : Int32) (post : Int32 → RH → Prop) (h : wpX7_renumbers ρ p1 p2 post) : Met l yX7_renumbers wsX7_renumbers ({ frames := 1, cells := 0, slots := 0, locals := 25 } : Room) (Pcs z G ad (σ, ν, ρ, lo) [.ref (ad 30 0), .int p1, .int p2]) (Qis z G ad (fun r S1 => ∃ t : RH, S1 = (σ, ν, t, lo) ∧ post r t)) 0 0 (Az z) := by
  refine Met.ofW (cc := cX7_renumbers) (maxL := 4) (ret := (some .boolean)) (by decide) rfl ?_
  intro p e s m args below meth c s₁ B hml hv
  obtain ⟨rfl, hz, hW, hE⟩ := hv
  have hx := B.exec
  have hb := B.bytes
  have hr := B.returns
  have hts := atoms_spec (ws := wsX7_renumbers) B.pre
  have hown : s.vm.findClass RX7 = some m.cls := findClass_of_methodNamed B.named
  have hlocks := B.notSynchronized
  have X : Cx p l e s m _ below meth c cX7_renumbers (some .boolean) 4 RX7 wsX7_renumbers z G := ⟨hx, hb, hr, hml, hown, hts, hlocks, hE, hz⟩
  have hS : va_S (Az z) s.heap s.heap [] := va_S.rf
  have hl := lv_entry [.ref (ad 30 0), .int p1, .int p2] (n := 4) (Nat.le_of_ble_eq_true rfl)
  rw [lg_entry_eq]
  generalize (lg_sl [.ref (ad 30 0), .int p1, .int p2] ++ List.replicate (4 - (lg_sl [.ref (ad 30 0), .int p1, .int p2]).length) Slot.unset).toArray = ls at hl ⊢
  have hl : lv_has ls 4 [(0, .ref (ad 30 0)), (1, .int p1), (2, .int p2)] := hl
  unfold wpX7_renumbers at h
  refine lv_aload_n hx hb dX7_renumbers_0 rfl (lv_at hl 0 rfl) ?_
  refine lv_aload_n hx hb dX7_renumbers_1 rfl (lv_at hl 0 rfl) ?_
  refine r_get (C := RX7) (T := TX7) (N := 49) (ci := 10) (fs := fl_30 ad ν ρ 0 (σ 30 0)) hx hb hts hown hE hW 30 0 rfl rfl rfl (fun w h => List.mem_cons_of_mem _ (List.mem_append_right _ h)) 39 (by decide) (List.mem_of_getElem? (i := 1) rfl) rfl (v := .ref (ad 139 0)) rfl dX7_renumbers_2 ?_
  refine lv_iload_n hx hb dX7_renumbers_5 rfl (lv_at hl 2 rfl) ?_
  obtain ⟨b1, h⟩ := h
  refine r_iald hx hb hE hW 139 0 ⟨rfl, by decide, by decide⟩ (n := 20) (f := ρ 39) rfl b1 (v := ρ 39 p2.toNatClampNeg) rfl dX7_renumbers_6 ?_
  refine lv_aload_n hx hb dX7_renumbers_7 rfl (lv_at hl 0 rfl) ?_
  refine r_get (C := RX7) (T := TX7) (N := 49) (ci := 10) (fs := fl_30 ad ν ρ 0 (σ 30 0)) hx hb hts hown hE hW 30 0 rfl rfl rfl (fun w h => List.mem_cons_of_mem _ (List.mem_append_right _ h)) 17 (by decide) (List.mem_of_getElem? (i := 2) rfl) rfl (v := .ref (ad 117 0)) rfl dX7_renumbers_8 ?_
  refine lv_iload_n hx hb dX7_renumbers_11 rfl (lv_at hl 1 rfl) ?_
  obtain ⟨b2, h⟩ := h
  refine r_iald hx hb hE hW 117 0 ⟨rfl, by decide, by decide⟩ (n := 40) (f := ρ 17) rfl b2 (v := ρ 17 p1.toNatClampNeg) rfl dX7_renumbers_12 ?_
  refine lv_iload_n hx hb dX7_renumbers_13 rfl (lv_at hl 2 rfl) ?_
  refine k_Vi (rest := []) (As := [.int (ρ 39 p2.toNatClampNeg), .int (ρ 17 p1.toNatClampNeg), .int p2]) ⟨hx, hb, hml, hown, hts⟩ hE hz hS hW (mtX7_hasLabel l z G ad σ ν ρ lo (ρ 39 p2.toNatClampNeg) (ρ 17 p1.toNatClampNeg) p2 _ h) (cwV 3 hts gX7_renumbers_X7_hasLabel rfl rfl rfl (by decide +kernel) ⟨Nat.le_of_ble_eq_true rfl, Nat.le_of_ble_eq_true rfl⟩) (r_recv hE hW 30 0 rfl (ci := 10) rfl rfl) rfl hl.1 rfl (Nat.le_of_ble_eq_true rfl) dX7_renumbers_14 ⟨Nat.le_of_ble_eq_true rfl, Nat.le_of_ble_eq_true rfl⟩ (fun r3 S1 H locs hp hW hS => ?_)
  obtain ⟨rfl, h⟩ := hp
  refine r_if_ne hx hb rfl (tgt := 24) dX7_renumbers_17 (by decide) (fun c4 => ?_) (fun c4 => ?_)
  · have h := ite_f c4 h
    refine lv_iconst (v := (0 : Int32)) hx hb dX7_renumbers_24 (by decide) ?_
    exact tX7_renumbers_25 (σ := σ) (ρ := ρ) X p1 p2 post  ρ ((0 : Int32)) hW hS (lv_sub hl [0, 1, 2] rfl) h
  · have h := ite_t c4 h
    refine lv_iconst (v := (1 : Int32)) hx hb dX7_renumbers_20 (by decide) ?_
    refine lv_goto (tgt := 25) hx hb dX7_renumbers_21 (by decide) ?_
    exact tX7_renumbers_25 (σ := σ) (ρ := ρ) X p1 p2 post  ρ ((1 : Int32)) hW hS (lv_sub hl [0, 1, 2] rfl) h
set_option maxHeartbeats 4000000 in
set_option maxRecDepth 100000 in
theorem tX7_moves_44 {p : Program} {l : Launch} {e : Env} {s : State} {m : MethodId} {args : Array Value} {below : List Frame} {meth : Method} {c : Code} {z : Nat} {G : Gl} {ad : Nat → Nat → Nat} {σ : SG} {ν : NU} {ρ : RH} {lo : Int64} (X : Cx p l e s m args below meth c cX7_moves (some .boolean) 5 RX7 wsX7_moves z G) (p1 : Int32) (p2 : Int32)  (post : Int32 → RH → Prop) : ∀ (a3 : RH) (x3 : Int32) (y0 : Int32) {H : Heap} {locs : List Loc} {ls : Array Slot}, WP z G ad (σ, ν, a3, lo) H → va_S (Az z) s.heap H locs → lv_has ls 5 [(0, .ref (ad 30 0)), (2, .int p2), (3, .int x3)] → jX7_moves_44 p1 p2 post a3 x3 y0 → W p l e ({ frames := 1, cells := 0, slots := 0, locals := 25 } : Room) s m args below meth c H locs 0 0 (MQ below (Qis z G ad (fun r S1 => ∃ t : RH, S1 = (σ, ν, t, lo) ∧ post r t)) args s 0 0 (Az z)) (F0 m 44 ls [.int y0]) := by
  obtain ⟨hx, hb, hr, hml, hown, hts, hlocks, hE, hz⟩ := id X
  intro a3 x3 y0 H locs ls hW hS hl h
  unfold jX7_moves_44 at h
  refine lv_istore (lv' := [(4, .int y0), (0, .ref (ad 30 0)), (2, .int p2), (3, .int x3)]) hx hb dX7_moves_44 hl (by decide) rfl (fun ls hl => ?_)
  refine lv_aload_n hx hb dX7_moves_46 rfl (lv_at hl 1 rfl) ?_
  refine r_get (C := RX7) (T := TX7) (N := 49) (ci := 10) (fs := fl_30 ad ν a3 0 (σ 30 0)) hx hb hts hown hE hW 30 0 rfl rfl rfl (fun w h => List.mem_cons_of_mem _ (List.mem_append_right _ h)) 39 (by decide) (List.mem_of_getElem? (i := 3) rfl) rfl (v := .ref (ad 139 0)) rfl dX7_moves_47 ?_
  refine lv_iload_n hx hb dX7_moves_50 rfl (lv_at hl 2 rfl) ?_
  refine lv_iload hx hb dX7_moves_51 (lv_at hl 0 rfl) ?_
  refine r_if_eq hx hb rfl (tgt := 60) dX7_moves_53 (by decide) (fun c4 => ?_) (fun c4 => ?_)
  · have h := ite_t c4 h
    refine lv_aload_n hx hb dX7_moves_60 rfl (lv_at hl 1 rfl) ?_
    refine r_get (C := RX7) (T := TX7) (N := 49) (ci := 10) (fs := fl_30 ad ν a3 0 (σ 30 0)) hx hb hts hown hE hW 30 0 rfl rfl rfl (fun w h => List.mem_cons_of_mem _ (List.mem_append_right _ h)) 39 (by decide) (List.mem_of_getElem? (i := 3) rfl) rfl (v := .ref (ad 139 0)) rfl dX7_moves_61 ?_
    refine lv_iload_n hx hb dX7_moves_64 rfl (lv_at hl 2 rfl) ?_
    obtain ⟨b5, h⟩ := h
    refine r_iald hx hb hE hW 139 0 ⟨rfl, by decide, by decide⟩ (n := 20) (f := a3 39) rfl b5 (v := a3 39 p2.toNatClampNeg) rfl dX7_moves_65 ?_
    obtain ⟨b6, h⟩ := h
    refine r_iastM hx hb hE hW hS 39 (k := 139) rfl ⟨rfl, by decide, by decide⟩ (n := 20) (fun _ => rfl) (fun t q => by simp [fl_30, q]) b6 dX7_moves_66 (fun t7 e8 H locs hW hS => ?_)
    have h := h t7 e8
    refine lv_iload hx hb dX7_moves_67 (lv_at hl 0 rfl) ?_
    obtain ⟨g9, h⟩ := h
    exact W.zret (v := y0) (ty := .boolean) hx hb hr (narrow_bo g9) (fun t ht _ => ⟨⟨_, (σ, ν, t7, lo), rfl, ⟨_, rfl, h⟩, WP.at9 ht hW⟩, hS.F ht⟩) hS.2.2 dX7_moves_69 (hlocks := hlocks)
  · have h := ite_f c4 h
    refine lv_iload_n hx hb dX7_moves_56 rfl (lv_at hl 3 rfl) ?_
    refine lv_goto (tgt := 66) hx hb dX7_moves_57 (by decide) ?_
    obtain ⟨b10, h⟩ := h
    refine r_iastM hx hb hE hW hS 39 (k := 139) rfl ⟨rfl, by decide, by decide⟩ (n := 20) (fun _ => rfl) (fun t q => by simp [fl_30, q]) b10 dX7_moves_66 (fun t11 e12 H locs hW hS => ?_)
    have h := h t11 e12
    refine lv_iload hx hb dX7_moves_67 (lv_at hl 0 rfl) ?_
    obtain ⟨g13, h⟩ := h
    exact W.zret (v := y0) (ty := .boolean) hx hb hr (narrow_bo g13) (fun t ht _ => ⟨⟨_, (σ, ν, t11, lo), rfl, ⟨_, rfl, h⟩, WP.at9 ht hW⟩, hS.F ht⟩) hS.2.2 dX7_moves_69 (hlocks := hlocks)
set_option maxHeartbeats 4000000 in
set_option maxRecDepth 100000 in
theorem mtX7_moves (l : Launch) (z : Nat) (G : Gl) (ad : Nat → Nat → Nat) (σ : SG) (ν : NU) (ρ : RH) (lo : Int64) (p1 : Int32) (p2 : Int32) (post : Int32 → RH → Prop) (h : wpX7_moves ρ p1 p2 post) : Met l yX7_moves wsX7_moves ({ frames := 1, cells := 0, slots := 0, locals := 25 } : Room) (Pcs z G ad (σ, ν, ρ, lo) [.ref (ad 30 0), .int p1, .int p2]) (Qis z G ad (fun r S1 => ∃ t : RH, S1 = (σ, ν, t, lo) ∧ post r t)) 0 0 (Az z) := by
  refine Met.ofW (cc := cX7_moves) (maxL := 5) (ret := (some .boolean)) (by decide) rfl ?_
  intro p e s m args below meth c s₁ B hml hv
  obtain ⟨rfl, hz, hW, hE⟩ := hv
  have hx := B.exec
  have hb := B.bytes
  have hr := B.returns
  have hts := atoms_spec (ws := wsX7_moves) B.pre
  have hown : s.vm.findClass RX7 = some m.cls := findClass_of_methodNamed B.named
  have hlocks := B.notSynchronized
  have X : Cx p l e s m _ below meth c cX7_moves (some .boolean) 5 RX7 wsX7_moves z G := ⟨hx, hb, hr, hml, hown, hts, hlocks, hE, hz⟩
  have hS : va_S (Az z) s.heap s.heap [] := va_S.rf
  have hl := lv_entry [.ref (ad 30 0), .int p1, .int p2] (n := 5) (Nat.le_of_ble_eq_true rfl)
  rw [lg_entry_eq]
  generalize (lg_sl [.ref (ad 30 0), .int p1, .int p2] ++ List.replicate (5 - (lg_sl [.ref (ad 30 0), .int p1, .int p2]).length) Slot.unset).toArray = ls at hl ⊢
  have hl : lv_has ls 5 [(0, .ref (ad 30 0)), (1, .int p1), (2, .int p2)] := hl
  unfold wpX7_moves at h
  refine lv_aload_n hx hb dX7_moves_0 rfl (lv_at hl 0 rfl) ?_
  refine r_get (C := RX7) (T := TX7) (N := 49) (ci := 10) (fs := fl_30 ad ν ρ 0 (σ 30 0)) hx hb hts hown hE hW 30 0 rfl rfl rfl (fun w h => List.mem_cons_of_mem _ (List.mem_append_right _ h)) 16 (by decide) (List.mem_of_getElem? (i := 1) rfl) rfl (v := .ref (ad 116 0)) rfl dX7_moves_1 ?_
  refine lv_iload_n hx hb dX7_moves_4 rfl (lv_at hl 1 rfl) ?_
  obtain ⟨b1, h⟩ := h
  refine r_iald hx hb hE hW 116 0 ⟨rfl, by decide, by decide⟩ (n := 40) (f := ρ 16) rfl b1 (v := ρ 16 p1.toNatClampNeg) rfl dX7_moves_5 ?_
  refine lv_istore_n (lv' := [(3, .int (ρ 16 p1.toNatClampNeg)), (0, .ref (ad 30 0)), (1, .int p1), (2, .int p2)]) hx hb dX7_moves_6 rfl hl (by decide) rfl (fun ls hl => ?_)
  refine lv_aload_n hx hb dX7_moves_7 rfl (lv_at hl 1 rfl) ?_
  refine lv_iload_n hx hb dX7_moves_8 rfl (lv_at hl 0 rfl) ?_
  refine k_Vi (rest := []) (As := [.int (ρ 16 p1.toNatClampNeg)]) ⟨hx, hb, hml, hown, hts⟩ hE hz hS hW (mtX7_isPlace l z G ad σ ν ρ lo (ρ 16 p1.toNatClampNeg) _ h) (cwV 1 hts gX7_moves_X7_isPlace rfl rfl rfl (by decide +kernel) ⟨Nat.le_of_ble_eq_true rfl, Nat.le_of_ble_eq_true rfl⟩) (r_recv hE hW 30 0 rfl (ci := 10) rfl rfl) rfl hl.1 rfl (Nat.le_of_ble_eq_true rfl) dX7_moves_9 ⟨Nat.le_of_ble_eq_true rfl, Nat.le_of_ble_eq_true rfl⟩ (fun r2 S1 H locs hp hW hS => ?_)
  obtain ⟨rfl, h⟩ := hp
  refine r_if_eq hx hb rfl (tgt := 43) dX7_moves_12 (by decide) (fun c3 => ?_) (fun c3 => ?_)
  · have h := ite_t c3 h
    refine lv_iconst (v := (0 : Int32)) hx hb dX7_moves_43 (by decide) ?_
    exact tX7_moves_44 (σ := σ) (ρ := ρ) X p1 p2 post  ρ (ρ 16 p1.toNatClampNeg) ((0 : Int32)) hW hS (lv_sub hl [1, 3, 0] rfl) h
  · have h := ite_f c3 h
    refine lv_aload_n hx hb dX7_moves_15 rfl (lv_at hl 1 rfl) ?_
    refine lv_iload_n hx hb dX7_moves_16 rfl (lv_at hl 0 rfl) ?_
    refine lv_iload_n hx hb dX7_moves_17 rfl (lv_at hl 3 rfl) ?_
    refine k_Vi (rest := []) (As := [.int (ρ 16 p1.toNatClampNeg), .int p2]) ⟨hx, hb, hml, hown, hts⟩ hE hz hS hW (mtX7_isWithin l z G ad σ ν ρ lo (ρ 16 p1.toNatClampNeg) p2 _ h) (cwV 2 hts gX7_moves_X7_isWithin rfl rfl rfl (by decide +kernel) ⟨Nat.le_of_ble_eq_true rfl, Nat.le_of_ble_eq_true rfl⟩) (r_recv hE hW 30 0 rfl (ci := 10) rfl rfl) rfl hl.1 rfl (Nat.le_of_ble_eq_true rfl) dX7_moves_18 ⟨Nat.le_of_ble_eq_true rfl, Nat.le_of_ble_eq_true rfl⟩ (fun r14 S1 H locs hp hW hS => ?_)
    obtain ⟨rfl, h⟩ := hp
    refine r_if_ne hx hb rfl (tgt := 43) dX7_moves_21 (by decide) (fun c15 => ?_) (fun c15 => ?_)
    · have h := ite_f c15 h
      refine lv_iconst (v := (0 : Int32)) hx hb dX7_moves_43 (by decide) ?_
      exact tX7_moves_44 (σ := σ) (ρ := ρ) X p1 p2 post  ρ (ρ 16 p1.toNatClampNeg) ((0 : Int32)) hW hS (lv_sub hl [1, 3, 0] rfl) h
    · have h := ite_t c15 h
      refine lv_aload_n hx hb dX7_moves_24 rfl (lv_at hl 1 rfl) ?_
      refine lv_iload_n hx hb dX7_moves_25 rfl (lv_at hl 0 rfl) ?_
      refine lv_aload_n hx hb dX7_moves_26 rfl (lv_at hl 1 rfl) ?_
      refine r_get (C := RX7) (T := TX7) (N := 49) (ci := 10) (fs := fl_30 ad ν ρ 0 (σ 30 0)) hx hb hts hown hE hW 30 0 rfl rfl rfl (fun w h => List.mem_cons_of_mem _ (List.mem_append_right _ h)) 38 (by decide) (List.mem_of_getElem? (i := 2) rfl) rfl (v := .ref (ad 138 0)) rfl dX7_moves_27 ?_
      refine lv_iload_n hx hb dX7_moves_30 rfl (lv_at hl 3 rfl) ?_
      obtain ⟨b16, h⟩ := h
      refine r_iald hx hb hE hW 138 0 ⟨rfl, by decide, by decide⟩ (n := 20) (f := ρ 38) rfl b16 (v := ρ 38 p2.toNatClampNeg) rfl dX7_moves_31 ?_
      refine lv_iload_n hx hb dX7_moves_32 rfl (lv_at hl 3 rfl) ?_
      refine k_Vi (rest := []) (As := [.int (ρ 16 p1.toNatClampNeg), .int (ρ 38 p2.toNatClampNeg), .int p2]) ⟨hx, hb, hml, hown, hts⟩ hE hz hS hW (mtX7_hasLabel l z G ad σ ν ρ lo (ρ 16 p1.toNatClampNeg) (ρ 38 p2.toNatClampNeg) p2 _ h) (cwV 3 hts gX7_moves_X7_hasLabel rfl rfl rfl (by decide +kernel) ⟨Nat.le_of_ble_eq_true rfl, Nat.le_of_ble_eq_true rfl⟩) (r_recv hE hW 30 0 rfl (ci := 10) rfl rfl) rfl hl.1 rfl (Nat.le_of_ble_eq_true rfl) dX7_moves_33 ⟨Nat.le_of_ble_eq_true rfl, Nat.le_of_ble_eq_true rfl⟩ (fun r17 S1 H locs hp hW hS => ?_)
      obtain ⟨rfl, h⟩ := hp
      refine r_if_ne hx hb rfl (tgt := 43) dX7_moves_36 (by decide) (fun c18 => ?_) (fun c18 => ?_)
      · have h := ite_f c18 h
        refine lv_iconst (v := (0 : Int32)) hx hb dX7_moves_43 (by decide) ?_
        exact tX7_moves_44 (σ := σ) (ρ := ρ) X p1 p2 post  ρ (ρ 16 p1.toNatClampNeg) ((0 : Int32)) hW hS (lv_sub hl [1, 3, 0] rfl) h
      · have h := ite_t c18 h
        refine lv_iconst (v := (1 : Int32)) hx hb dX7_moves_39 (by decide) ?_
        refine lv_goto (tgt := 44) hx hb dX7_moves_40 (by decide) ?_
        exact tX7_moves_44 (σ := σ) (ρ := ρ) X p1 p2 post  ρ (ρ 16 p1.toNatClampNeg) ((1 : Int32)) hW hS (lv_sub hl [1, 3, 0] rfl) h
set_option maxHeartbeats 4000000 in
set_option maxRecDepth 100000 in
theorem tX7_repeals_47 {p : Program} {l : Launch} {e : Env} {s : State} {m : MethodId} {args : Array Value} {below : List Frame} {meth : Method} {c : Code} {z : Nat} {G : Gl} {ad : Nat → Nat → Nat} {σ : SG} {ν : NU} {ρ : RH} {lo : Int64} (X : Cx p l e s m args below meth c cX7_repeals (some .boolean) 3 RX7 wsX7_repeals z G) (p1 : Int32)  (post : Int32 → RH → Prop) : ∀ (n : Nat) (a3 : RH) (x2 : Int32) {H : Heap} {locs : List Loc} {ls : Array Slot}, WP z G ad (σ, ν, a3, lo) H → va_S (Az z) s.heap H locs → lv_has ls 3 [(0, .ref (ad 30 0)), (2, .int x2)] → wX7_repeals_47 p1 post n a3 x2 → W p l e ({ frames := 1, cells := 0, slots := 0, locals := 23 } : Room) s m args below meth c H locs 0 0 (MQ below (Qis z G ad (fun r S1 => ∃ t : RH, S1 = (σ, ν, t, lo) ∧ post r t)) args s 0 0 (Az z)) (F0 m 47 ls []) := by
  obtain ⟨hx, hb, hr, hml, hown, hts, hlocks, hE, hz⟩ := id X
  intro n
  induction n with
  | zero =>
    intro a3 x2 H locs ls hW hS hl h
    exact absurd h id
  | succ n ih =>
    intro a3 x2 H locs ls hW hS hl h
    unfold wX7_repeals_47 at h
    refine lv_iload_n hx hb dX7_repeals_47 rfl (lv_at hl 1 rfl) ?_
    refine lv_aload_n hx hb dX7_repeals_48 rfl (lv_at hl 0 rfl) ?_
    refine r_get (C := RX7) (T := TX7) (N := 49) (ci := 10) (fs := fl_30 ad ν a3 0 (σ 30 0)) hx hb hts hown hE hW 30 0 rfl rfl rfl (fun w h => List.mem_cons_of_mem _ (List.mem_append_right _ h)) 12 (by decide) (List.mem_of_getElem? (i := 1) rfl) rfl (v := .int (a3 12 0)) rfl dX7_repeals_49 ?_
    refine r_icmp_ge hx hb rfl rfl (tgt := 90) dX7_repeals_52 (by decide) (fun c2 => ?_) (fun c2 => ?_)
    · have h := ite_f c2 h
      refine lv_iconst (v := (1 : Int32)) hx hb dX7_repeals_90 (by decide) ?_
      exact W.zret (v := (1 : Int32)) (ty := .boolean) hx hb hr rfl (fun t ht _ => ⟨⟨_, (σ, ν, a3, lo), rfl, ⟨_, rfl, h⟩, WP.at9 ht hW⟩, hS.F ht⟩) hS.2.2 dX7_repeals_91 (hlocks := hlocks)
    · have h := ite_t c2 h
      refine lv_aload_n hx hb dX7_repeals_55 rfl (lv_at hl 0 rfl) ?_
      refine r_get (C := RX7) (T := TX7) (N := 49) (ci := 10) (fs := fl_30 ad ν a3 0 (σ 30 0)) hx hb hts hown hE hW 30 0 rfl rfl rfl (fun w h => List.mem_cons_of_mem _ (List.mem_append_right _ h)) 37 (by decide) (List.mem_of_getElem? (i := 3) rfl) rfl (v := .ref (ad 137 0)) rfl dX7_repeals_56 ?_
      refine lv_iload_n hx hb dX7_repeals_59 rfl (lv_at hl 1 rfl) ?_
      refine lv_aload_n hx hb dX7_repeals_60 rfl (lv_at hl 0 rfl) ?_
      refine r_get (C := RX7) (T := TX7) (N := 49) (ci := 10) (fs := fl_30 ad ν a3 0 (σ 30 0)) hx hb hts hown hE hW 30 0 rfl rfl rfl (fun w h => List.mem_cons_of_mem _ (List.mem_append_right _ h)) 37 (by decide) (List.mem_of_getElem? (i := 3) rfl) rfl (v := .ref (ad 137 0)) rfl dX7_repeals_61 ?_
      refine lv_iload_n hx hb dX7_repeals_64 rfl (lv_at hl 1 rfl) ?_
      obtain ⟨b3, h⟩ := h
      refine r_zald hx hb hE hW 137 0 ⟨rfl, by decide, by decide⟩ (n := 20) (f := a3 37) rfl b3 (v := a3 37 x2.toNatClampNeg) rfl dX7_repeals_65 ?_
      refine r_if_eq hx hb rfl (tgt := 82) dX7_repeals_66 (by decide) (fun c4 => ?_) (fun c4 => ?_)
      · have h := ite_t c4 h
        refine lv_iconst (v := (0 : Int32)) hx hb dX7_repeals_82 (by decide) ?_
        obtain ⟨b5, h⟩ := h
        refine r_zastM hx hb hE hW hS 37 (k := 137) rfl ⟨rfl, by decide, by decide⟩ (n := 20) (fun _ => rfl) (fun t q => by simp [fl_30, q]) b5 dX7_repeals_83 (fun t6 e7 H locs hW hS => ?_)
        have h := h t6 e7
        refine lv_iinc (v := x2 + (1 : Int32)) (lv' := [(2, .int (x2 + (1 : Int32))), (0, .ref (ad 30 0))]) hx hb dX7_repeals_84 hl (k := 1) rfl rfl (by decide) rfl (fun ls hl => ?_)
        refine lv_goto (tgt := 47) hx hb dX7_repeals_87 (by decide) ?_
        exact ih t6 (x2 + (1 : Int32)) hW hS (lv_sub hl [1, 0] rfl) h
      · have h := ite_f c4 h
        refine lv_aload_n hx hb dX7_repeals_69 rfl (lv_at hl 0 rfl) ?_
        refine r_get (C := RX7) (T := TX7) (N := 49) (ci := 10) (fs := fl_30 ad ν a3 0 (σ 30 0)) hx hb hts hown hE hW 30 0 rfl rfl rfl (fun w h => List.mem_cons_of_mem _ (List.mem_append_right _ h)) 46 (by decide) (List.mem_of_getElem? (i := 2) rfl) rfl (v := .ref (ad 146 0)) rfl dX7_repeals_70 ?_
        refine lv_iload_n hx hb dX7_repeals_73 rfl (lv_at hl 1 rfl) ?_
        obtain ⟨b8, h⟩ := h
        refine r_iald hx hb hE hW 146 0 ⟨rfl, by decide, by decide⟩ (n := 64) (f := a3 46) rfl b8 (v := a3 46 x2.toNatClampNeg) rfl dX7_repeals_74 ?_
        refine r_if_ne hx hb rfl (tgt := 82) dX7_repeals_75 (by decide) (fun c9 => ?_) (fun c9 => ?_)
        · have h := ite_f c9 h
          refine lv_iconst (v := (0 : Int32)) hx hb dX7_repeals_82 (by decide) ?_
          obtain ⟨b10, h⟩ := h
          refine r_zastM hx hb hE hW hS 37 (k := 137) rfl ⟨rfl, by decide, by decide⟩ (n := 20) (fun _ => rfl) (fun t q => by simp [fl_30, q]) b10 dX7_repeals_83 (fun t11 e12 H locs hW hS => ?_)
          have h := h t11 e12
          refine lv_iinc (v := x2 + (1 : Int32)) (lv' := [(2, .int (x2 + (1 : Int32))), (0, .ref (ad 30 0))]) hx hb dX7_repeals_84 hl (k := 1) rfl rfl (by decide) rfl (fun ls hl => ?_)
          refine lv_goto (tgt := 47) hx hb dX7_repeals_87 (by decide) ?_
          exact ih t11 (x2 + (1 : Int32)) hW hS (lv_sub hl [1, 0] rfl) h
        · have h := ite_t c9 h
          refine lv_iconst (v := (1 : Int32)) hx hb dX7_repeals_78 (by decide) ?_
          refine lv_goto (tgt := 83) hx hb dX7_repeals_79 (by decide) ?_
          obtain ⟨b13, h⟩ := h
          refine r_zastM hx hb hE hW hS 37 (k := 137) rfl ⟨rfl, by decide, by decide⟩ (n := 20) (fun _ => rfl) (fun t q => by simp [fl_30, q]) b13 dX7_repeals_83 (fun t14 e15 H locs hW hS => ?_)
          have h := h t14 e15
          refine lv_iinc (v := x2 + (1 : Int32)) (lv' := [(2, .int (x2 + (1 : Int32))), (0, .ref (ad 30 0))]) hx hb dX7_repeals_84 hl (k := 1) rfl rfl (by decide) rfl (fun ls hl => ?_)
          refine lv_goto (tgt := 47) hx hb dX7_repeals_87 (by decide) ?_
          exact ih t14 (x2 + (1 : Int32)) hW hS (lv_sub hl [1, 0] rfl) h
set_option maxHeartbeats 4000000 in
set_option maxRecDepth 100000 in
theorem tX7_repeals_2 {p : Program} {l : Launch} {e : Env} {s : State} {m : MethodId} {args : Array Value} {below : List Frame} {meth : Method} {c : Code} {z : Nat} {G : Gl} {ad : Nat → Nat → Nat} {σ : SG} {ν : NU} {ρ : RH} {lo : Int64} (X : Cx p l e s m args below meth c cX7_repeals (some .boolean) 3 RX7 wsX7_repeals z G) (p1 : Int32)  (post : Int32 → RH → Prop) : ∀ (n : Nat) (a3 : RH) (x2 : Int32) {H : Heap} {locs : List Loc} {ls : Array Slot}, WP z G ad (σ, ν, a3, lo) H → va_S (Az z) s.heap H locs → lv_has ls 3 [(0, .ref (ad 30 0)), (1, .int p1), (2, .int x2)] → wX7_repeals_2 p1 post n a3 x2 → W p l e ({ frames := 1, cells := 0, slots := 0, locals := 23 } : Room) s m args below meth c H locs 0 0 (MQ below (Qis z G ad (fun r S1 => ∃ t : RH, S1 = (σ, ν, t, lo) ∧ post r t)) args s 0 0 (Az z)) (F0 m 2 ls []) := by
  obtain ⟨hx, hb, hr, hml, hown, hts, hlocks, hE, hz⟩ := id X
  intro n
  induction n with
  | zero =>
    intro a3 x2 H locs ls hW hS hl h
    exact absurd h id
  | succ n ih =>
    intro a3 x2 H locs ls hW hS hl h
    unfold wX7_repeals_2 at h
    refine lv_iload_n hx hb dX7_repeals_2 rfl (lv_at hl 2 rfl) ?_
    refine lv_aload_n hx hb dX7_repeals_3 rfl (lv_at hl 0 rfl) ?_
    refine r_get (C := RX7) (T := TX7) (N := 49) (ci := 10) (fs := fl_30 ad ν a3 0 (σ 30 0)) hx hb hts hown hE hW 30 0 rfl rfl rfl (fun w h => List.mem_cons_of_mem _ (List.mem_append_right _ h)) 12 (by decide) (List.mem_of_getElem? (i := 1) rfl) rfl (v := .int (a3 12 0)) rfl dX7_repeals_4 ?_
    refine r_icmp_ge hx hb rfl rfl (tgt := 45) dX7_repeals_7 (by decide) (fun c1 => ?_) (fun c1 => ?_)
    · have h := ite_f c1 h
      refine lv_iconst (v := (0 : Int32)) hx hb dX7_repeals_45 (by decide) ?_
      refine lv_istore_n (lv' := [(2, .int ((0 : Int32))), (0, .ref (ad 30 0)), (1, .int p1)]) hx hb dX7_repeals_46 rfl hl (by decide) rfl (fun ls hl => ?_)
      obtain ⟨n16, h⟩ := h
      exact tX7_repeals_47 (σ := σ) (ρ := ρ) X p1 post  n16 a3 ((0 : Int32)) hW hS (lv_sub hl [1, 0] rfl) h
    · have h := ite_t c1 h
      refine lv_aload_n hx hb dX7_repeals_10 rfl (lv_at hl 0 rfl) ?_
      refine r_get (C := RX7) (T := TX7) (N := 49) (ci := 10) (fs := fl_30 ad ν a3 0 (σ 30 0)) hx hb hts hown hE hW 30 0 rfl rfl rfl (fun w h => List.mem_cons_of_mem _ (List.mem_append_right _ h)) 46 (by decide) (List.mem_of_getElem? (i := 2) rfl) rfl (v := .ref (ad 146 0)) rfl dX7_repeals_11 ?_
      refine lv_iload_n hx hb dX7_repeals_14 rfl (lv_at hl 2 rfl) ?_
      refine lv_aload_n hx hb dX7_repeals_15 rfl (lv_at hl 0 rfl) ?_
      refine r_get (C := RX7) (T := TX7) (N := 49) (ci := 10) (fs := fl_30 ad ν a3 0 (σ 30 0)) hx hb hts hown hE hW 30 0 rfl rfl rfl (fun w h => List.mem_cons_of_mem _ (List.mem_append_right _ h)) 37 (by decide) (List.mem_of_getElem? (i := 3) rfl) rfl (v := .ref (ad 137 0)) rfl dX7_repeals_16 ?_
      refine lv_iload_n hx hb dX7_repeals_19 rfl (lv_at hl 2 rfl) ?_
      obtain ⟨b17, h⟩ := h
      refine r_zald hx hb hE hW 137 0 ⟨rfl, by decide, by decide⟩ (n := 20) (f := a3 37) rfl b17 (v := a3 37 x2.toNatClampNeg) rfl dX7_repeals_20 ?_
      refine r_if_eq hx hb rfl (tgt := 37) dX7_repeals_21 (by decide) (fun c18 => ?_) (fun c18 => ?_)
      · have h := ite_t c18 h
        refine lv_iconst (v := (0 : Int32)) hx hb dX7_repeals_37 (by decide) ?_
        obtain ⟨b19, h⟩ := h
        refine r_iastM hx hb hE hW hS 46 (k := 146) rfl ⟨rfl, by decide, by decide⟩ (n := 64) (fun _ => rfl) (fun t q => by simp [fl_30, q]) b19 dX7_repeals_38 (fun t20 e21 H locs hW hS => ?_)
        have h := h t20 e21
        refine lv_iinc (v := x2 + (1 : Int32)) (lv' := [(2, .int (x2 + (1 : Int32))), (0, .ref (ad 30 0)), (1, .int p1)]) hx hb dX7_repeals_39 hl (k := 2) rfl rfl (by decide) rfl (fun ls hl => ?_)
        refine lv_goto (tgt := 2) hx hb dX7_repeals_42 (by decide) ?_
        exact ih t20 (x2 + (1 : Int32)) hW hS (lv_sub hl [1, 2, 0] rfl) h
      · have h := ite_f c18 h
        refine lv_aload_n hx hb dX7_repeals_24 rfl (lv_at hl 0 rfl) ?_
        refine lv_iload_n hx hb dX7_repeals_25 rfl (lv_at hl 2 rfl) ?_
        refine lv_iload_n hx hb dX7_repeals_26 rfl (lv_at hl 1 rfl) ?_
        refine k_Vi (rest := [.int x2, .ref (ad 146 0)]) (As := [.int x2, .int p1]) ⟨hx, hb, hml, hown, hts⟩ hE hz hS hW (mtX7_isWithin l z G ad σ ν a3 lo x2 p1 _ h) (cwV 2 hts gX7_repeals_X7_isWithin rfl rfl rfl (by decide +kernel) ⟨Nat.le_of_ble_eq_true rfl, Nat.le_of_ble_eq_true rfl⟩) (r_recv hE hW 30 0 rfl (ci := 10) rfl rfl) rfl hl.1 rfl (Nat.le_of_ble_eq_true rfl) dX7_repeals_27 ⟨Nat.le_of_ble_eq_true rfl, Nat.le_of_ble_eq_true rfl⟩ (fun r22 S1 H locs hp hW hS => ?_)
        obtain ⟨rfl, h⟩ := hp
        refine r_if_eq hx hb rfl (tgt := 37) dX7_repeals_30 (by decide) (fun c23 => ?_) (fun c23 => ?_)
        · have h := ite_t c23 h
          refine lv_iconst (v := (0 : Int32)) hx hb dX7_repeals_37 (by decide) ?_
          obtain ⟨b24, h⟩ := h
          refine r_iastM hx hb hE hW hS 46 (k := 146) rfl ⟨rfl, by decide, by decide⟩ (n := 64) (fun _ => rfl) (fun t q => by simp [fl_30, q]) b24 dX7_repeals_38 (fun t25 e26 H locs hW hS => ?_)
          have h := h t25 e26
          refine lv_iinc (v := x2 + (1 : Int32)) (lv' := [(2, .int (x2 + (1 : Int32))), (0, .ref (ad 30 0)), (1, .int p1)]) hx hb dX7_repeals_39 hl (k := 2) rfl rfl (by decide) rfl (fun ls hl => ?_)
          refine lv_goto (tgt := 2) hx hb dX7_repeals_42 (by decide) ?_
          exact ih t25 (x2 + (1 : Int32)) hW hS (lv_sub hl [1, 2, 0] rfl) h
        · have h := ite_f c23 h
          refine lv_iconst (v := (1 : Int32)) hx hb dX7_repeals_33 (by decide) ?_
          refine lv_goto (tgt := 38) hx hb dX7_repeals_34 (by decide) ?_
          obtain ⟨b27, h⟩ := h
          refine r_iastM hx hb hE hW hS 46 (k := 146) rfl ⟨rfl, by decide, by decide⟩ (n := 64) (fun _ => rfl) (fun t q => by simp [fl_30, q]) b27 dX7_repeals_38 (fun t28 e29 H locs hW hS => ?_)
          have h := h t28 e29
          refine lv_iinc (v := x2 + (1 : Int32)) (lv' := [(2, .int (x2 + (1 : Int32))), (0, .ref (ad 30 0)), (1, .int p1)]) hx hb dX7_repeals_39 hl (k := 2) rfl rfl (by decide) rfl (fun ls hl => ?_)
          refine lv_goto (tgt := 2) hx hb dX7_repeals_42 (by decide) ?_
          exact ih t28 (x2 + (1 : Int32)) hW hS (lv_sub hl [1, 2, 0] rfl) h
set_option maxHeartbeats 4000000 in
set_option maxRecDepth 100000 in
theorem mtX7_repeals (l : Launch) (z : Nat) (G : Gl) (ad : Nat → Nat → Nat) (σ : SG) (ν : NU) (ρ : RH) (lo : Int64) (p1 : Int32) (post : Int32 → RH → Prop) (h : wpX7_repeals ρ p1 post) : Met l yX7_repeals wsX7_repeals ({ frames := 1, cells := 0, slots := 0, locals := 23 } : Room) (Pcs z G ad (σ, ν, ρ, lo) [.ref (ad 30 0), .int p1]) (Qis z G ad (fun r S1 => ∃ t : RH, S1 = (σ, ν, t, lo) ∧ post r t)) 0 0 (Az z) := by
  refine Met.ofW (cc := cX7_repeals) (maxL := 3) (ret := (some .boolean)) (by decide) rfl ?_
  intro p e s m args below meth c s₁ B hml hv
  obtain ⟨rfl, hz, hW, hE⟩ := hv
  have hx := B.exec
  have hb := B.bytes
  have hr := B.returns
  have hts := atoms_spec (ws := wsX7_repeals) B.pre
  have hown : s.vm.findClass RX7 = some m.cls := findClass_of_methodNamed B.named
  have hlocks := B.notSynchronized
  have X : Cx p l e s m _ below meth c cX7_repeals (some .boolean) 3 RX7 wsX7_repeals z G := ⟨hx, hb, hr, hml, hown, hts, hlocks, hE, hz⟩
  have hS : va_S (Az z) s.heap s.heap [] := va_S.rf
  have hl := lv_entry [.ref (ad 30 0), .int p1] (n := 3) (Nat.le_of_ble_eq_true rfl)
  rw [lg_entry_eq]
  generalize (lg_sl [.ref (ad 30 0), .int p1] ++ List.replicate (3 - (lg_sl [.ref (ad 30 0), .int p1]).length) Slot.unset).toArray = ls at hl ⊢
  have hl : lv_has ls 3 [(0, .ref (ad 30 0)), (1, .int p1)] := hl
  unfold wpX7_repeals at h
  refine lv_iconst (v := (0 : Int32)) hx hb dX7_repeals_0 (by decide) ?_
  refine lv_istore_n (lv' := [(2, .int ((0 : Int32))), (0, .ref (ad 30 0)), (1, .int p1)]) hx hb dX7_repeals_1 rfl hl (by decide) rfl (fun ls hl => ?_)
  obtain ⟨n30, h⟩ := h
  exact tX7_repeals_2 (σ := σ) (ρ := ρ) X p1 post  n30 ρ ((0 : Int32)) hW hS (lv_sub hl [1, 2, 0] rfl) h
