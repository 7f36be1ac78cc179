/-! the law: its walk. Written by wip/gen25/genlaw.py -/
set_option maxHeartbeats 4000000 in
set_option maxRecDepth 100000 in
theorem law_main {p : Program} {l : Launch} {e : Env} {s : State} {m : MethodId} {below : List Frame} {meth : Method} {c : Code} {b L : Nat} {xs : Nat → Int32} {z : Nat} {G : Gl} {ad : Nat → Nat → Nat} {σ : SG} {ν : NU} {ρ : RH} {lo : Int64} (X : LCX p l e s m below meth c b L xs z G) (post : Int32 → Prop) (hpost : ∀ r, post r → r = 1) (kc ks : Nat) (hB1 : kc + 264498 ≤ 600104) (hB2 : ks + 4628730 ≤ 7301314) {H : Heap} {locs : List Loc} {ls : Array Slot} (hW : WP z G ad (σ, ν, ρ, lo) H) (hS : va_S (Az z) s.heap H locs) (hl : lv_has ls 23 [(0, .ref b), (1, .ref (ad 0 0)), (2, .ref (ad 100 0)), (3, .ref (ad 101 0)), (4, .ref (ad 102 0)), (5, .ref (ad 103 0))]) (h : wpL_law L xs σ ν ρ post) : W p l e room_1 s m #[Value.ref b] below meth c H locs kc ks (lw_Z below #[Value.ref b] s) (F0 m 30 ls []) := by
  obtain ⟨hx, hb, hml, hown, hts, hE, hz, hlt, hX, hbl, hbA, hL, hr, hlocks, hze⟩ := id X
  unfold wpL_law at h
  refine lv_aload_n hx hb dL_law_30 rfl (lv_at hl 2 rfl) ?_
  refine lv_iconst (v := (4 : Int32)) hx hb dL_law_31 (by decide) ?_
  refine lv_iconst (v := (-1 : Int32)) hx hb dL_law_32 (by decide) ?_
  obtain ⟨b1, h⟩ := h
  refine r_iastM hx hb hE hW hS 0 (k := 100) rfl ⟨rfl, by decide, by decide⟩ (n := 14) (fun _ => rfl) (fun _ _ => rfl) b1 dL_law_33 (fun t2 e3 H locs hW hS => ?_)
  have h := h t2 e3
  refine lv_aload_n hx hb dL_law_34 rfl (lv_at hl 2 rfl) ?_
  refine lv_bipush (v := (12 : Int32)) hx hb dL_law_35 (by decide) ?_
  refine lv_bipush (v := (7 : Int32)) hx hb dL_law_37 (by decide) ?_
  obtain ⟨b4, h⟩ := h
  refine r_iastM hx hb hE hW hS 0 (k := 100) rfl ⟨rfl, by decide, by decide⟩ (n := 14) (fun _ => rfl) (fun _ _ => rfl) b4 dL_law_39 (fun t5 e6 H locs hW hS => ?_)
  have h := h t5 e6
  refine lv_aload_n hx hb dL_law_40 rfl (lv_at hl 2 rfl) ?_
  refine lv_bipush (v := (13 : Int32)) hx hb dL_law_41 (by decide) ?_
  refine lv_iconst (v := (-1 : Int32)) hx hb dL_law_43 (by decide) ?_
  obtain ⟨b7, h⟩ := h
  refine r_iastM hx hb hE hW hS 0 (k := 100) rfl ⟨rfl, by decide, by decide⟩ (n := 14) (fun _ => rfl) (fun _ _ => rfl) b7 dL_law_44 (fun t8 e9 H locs hW hS => ?_)
  have h := h t8 e9
  refine lv_lconst (n := 0) (v := (0 : Int64)) hx hb dL_law_45 rfl ?_
  refine lv_lstore (lv' := [(6, .long ((0 : Int64))), (0, .ref b), (1, .ref (ad 0 0)), (2, .ref (ad 100 0)), (3, .ref (ad 101 0)), (4, .ref (ad 102 0)), (5, .ref (ad 103 0))]) hx hb dL_law_46 hl (by decide) rfl (fun ls hl => ?_)
  refine lv_iconst (v := (0 : Int32)) hx hb dL_law_48 (by decide) ?_
  refine lv_istore (lv' := [(8, .int ((0 : Int32))), (6, .long ((0 : Int64))), (0, .ref b), (1, .ref (ad 0 0)), (2, .ref (ad 100 0)), (3, .ref (ad 101 0)), (4, .ref (ad 102 0)), (5, .ref (ad 103 0))]) hx hb dL_law_49 hl (by decide) rfl (fun ls hl => ?_)
  refine lv_iconst (v := (-1 : Int32)) hx hb dL_law_51 (by decide) ?_
  refine lv_istore (lv' := [(9, .int ((-1 : Int32))), (8, .int ((0 : Int32))), (6, .long ((0 : Int64))), (0, .ref b), (1, .ref (ad 0 0)), (2, .ref (ad 100 0)), (3, .ref (ad 101 0)), (4, .ref (ad 102 0)), (5, .ref (ad 103 0))]) hx hb dL_law_52 hl (by decide) rfl (fun ls hl => ?_)
  refine lv_aload_n hx hb dL_law_54 rfl (lv_at hl 4 rfl) ?_
  refine lv_aload_n hx hb dL_law_55 rfl (lv_at hl 5 rfl) ?_
  refine lv_iconst (v := (0 : Int32)) hx hb dL_law_56 (by decide) ?_
  refine kA_Si (rest := []) (As := [.ref (ad 0 0), .ref (ad 100 0), .int ((0 : Int32))]) ⟨hx, hb, hml, hown, hts⟩ hE hz hS hW (mtL_isRefused l hlt z G ad σ ν t8 lo ((0 : Int32)) _ h) (va_cwS 3 hts gL_law_L_isRefused rfl rfl rfl (by decide +kernel) ⟨Nat.le_of_ble_eq_true rfl, Nat.le_of_ble_eq_true rfl⟩) rfl hl.1 rfl (Nat.le_of_ble_eq_true rfl) dL_law_57 ⟨by show _ ≤ 600104; omega, by show _ ≤ 7301314; omega⟩ (fun r10 S1 ad13 H locs hp hW hS => ?_)
  obtain ⟨t11, vv12, rfl, q14, h⟩ := hp
  have z15 : ad13 0 0 = ad 0 0 := (q14 0 0 (by decide) rfl).2
  have z16 : ad13 100 0 = ad 100 0 := (q14 100 0 (by decide) ⟨rfl, by decide, by decide⟩).2
  have z17 : ad13 101 0 = ad 101 0 := (q14 101 0 (by decide) ⟨rfl, by decide, by decide⟩).2
  have z18 : ad13 102 0 = ad 102 0 := (q14 102 0 (by decide) ⟨rfl, by decide, by decide⟩).2
  have z19 : ad13 103 0 = ad 103 0 := (q14 103 0 (by decide) ⟨rfl, by decide, by decide⟩).2
  have hl : lv_has ls 23 [(9, .int ((-1 : Int32))), (8, .int ((0 : Int32))), (6, .long ((0 : Int64))), (0, .ref b), (1, .ref (ad13 0 0)), (2, .ref (ad13 100 0)), (3, .ref (ad13 101 0)), (4, .ref (ad13 102 0)), (5, .ref (ad13 103 0))] := by rw [z15, z16, z17, z18, z19]; exact hl
  refine r_if_eq hx hb rfl (tgt := 109) dL_law_60 (by decide) (fun c20 => ?_) (fun c20 => ?_)
  · have h := ite_t c20 h
    refine lv_iconst (v := (0 : Int32)) hx hb dL_law_109 (by decide) ?_
    refine lv_istore (lv' := [(10, .int ((0 : Int32))), (9, .int ((-1 : Int32))), (8, .int ((0 : Int32))), (6, .long ((0 : Int64))), (0, .ref b), (1, .ref (ad13 0 0)), (2, .ref (ad13 100 0)), (3, .ref (ad13 101 0)), (4, .ref (ad13 102 0)), (5, .ref (ad13 103 0))]) hx hb dL_law_110 hl (by decide) rfl (fun ls hl => ?_)
    refine lv_iconst (v := (0 : Int32)) hx hb dL_law_112 (by decide) ?_
    refine lv_istore (lv' := [(11, .int ((0 : Int32))), (10, .int ((0 : Int32))), (9, .int ((-1 : Int32))), (8, .int ((0 : Int32))), (6, .long ((0 : Int64))), (0, .ref b), (1, .ref (ad13 0 0)), (2, .ref (ad13 100 0)), (3, .ref (ad13 101 0)), (4, .ref (ad13 102 0)), (5, .ref (ad13 103 0))]) hx hb dL_law_113 hl (by decide) rfl (fun ls hl => ?_)
    obtain ⟨n406, n407, h⟩ := h
    exact tL_law_115 (σ := σ) (ρ := ρ) X post hpost  n406 _ _ (by omega) (by omega) t11 vv12 t8 ad13 ((0 : Int64)) ((0 : Int32)) ((-1 : Int32)) ((0 : Int32)) ((0 : Int32)) (Xt.tr Xt.rf q14) hW hS (lv_sub hl [5, 6, 7, 8, 9, 10, 4, 3, 2, 1, 0] rfl) h
  · have h := ite_f c20 h
    refine lv_aload_n hx hb dL_law_63 rfl (lv_at hl 4 rfl) ?_
    refine lv_aload_n hx hb dL_law_64 rfl (lv_at hl 5 rfl) ?_
    refine lv_iconst (v := (1 : Int32)) hx hb dL_law_65 (by decide) ?_
    refine kA_Si (rest := []) (As := [.ref (ad13 0 0), .ref (ad13 100 0), .int ((1 : Int32))]) ⟨hx, hb, hml, hown, hts⟩ hE hz hS hW (mtL_isRefused l hlt z G ad13 t11 vv12 t8 lo ((1 : Int32)) _ h) (va_cwS 3 hts gL_law_L_isRefused rfl rfl rfl (by decide +kernel) ⟨Nat.le_of_ble_eq_true rfl, Nat.le_of_ble_eq_true rfl⟩) rfl hl.1 rfl (Nat.le_of_ble_eq_true rfl) dL_law_66 ⟨by show _ ≤ 600104; omega, by show _ ≤ 7301314; omega⟩ (fun r408 S1 ad411 H locs hp hW hS => ?_)
    obtain ⟨t409, vv410, rfl, q412, h⟩ := hp
    have z413 : ad411 0 0 = ad13 0 0 := (q412 0 0 (by decide) rfl).2
    have z414 : ad411 100 0 = ad13 100 0 := (q412 100 0 (by decide) ⟨rfl, by decide, by decide⟩).2
    have z415 : ad411 101 0 = ad13 101 0 := (q412 101 0 (by decide) ⟨rfl, by decide, by decide⟩).2
    have z416 : ad411 102 0 = ad13 102 0 := (q412 102 0 (by decide) ⟨rfl, by decide, by decide⟩).2
    have z417 : ad411 103 0 = ad13 103 0 := (q412 103 0 (by decide) ⟨rfl, by decide, by decide⟩).2
    have hl : lv_has ls 23 [(9, .int ((-1 : Int32))), (8, .int ((0 : Int32))), (6, .long ((0 : Int64))), (0, .ref b), (1, .ref (ad411 0 0)), (2, .ref (ad411 100 0)), (3, .ref (ad411 101 0)), (4, .ref (ad411 102 0)), (5, .ref (ad411 103 0))] := by rw [z413, z414, z415, z416, z417]; exact hl
    refine r_if_eq hx hb rfl (tgt := 109) dL_law_69 (by decide) (fun c418 => ?_) (fun c418 => ?_)
    · have h := ite_t c418 h
      refine lv_iconst (v := (0 : Int32)) hx hb dL_law_109 (by decide) ?_
      refine lv_istore (lv' := [(10, .int ((0 : Int32))), (9, .int ((-1 : Int32))), (8, .int ((0 : Int32))), (6, .long ((0 : Int64))), (0, .ref b), (1, .ref (ad411 0 0)), (2, .ref (ad411 100 0)), (3, .ref (ad411 101 0)), (4, .ref (ad411 102 0)), (5, .ref (ad411 103 0))]) hx hb dL_law_110 hl (by decide) rfl (fun ls hl => ?_)
      refine lv_iconst (v := (0 : Int32)) hx hb dL_law_112 (by decide) ?_
      refine lv_istore (lv' := [(11, .int ((0 : Int32))), (10, .int ((0 : Int32))), (9, .int ((-1 : Int32))), (8, .int ((0 : Int32))), (6, .long ((0 : Int64))), (0, .ref b), (1, .ref (ad411 0 0)), (2, .ref (ad411 100 0)), (3, .ref (ad411 101 0)), (4, .ref (ad411 102 0)), (5, .ref (ad411 103 0))]) hx hb dL_law_113 hl (by decide) rfl (fun ls hl => ?_)
      obtain ⟨n419, n420, h⟩ := h
      exact tL_law_115 (σ := σ) (ρ := ρ) X post hpost  n419 _ _ (by omega) (by omega) t409 vv410 t8 ad411 ((0 : Int64)) ((0 : Int32)) ((-1 : Int32)) ((0 : Int32)) ((0 : Int32)) (Xt.tr (Xt.tr Xt.rf q14) q412) hW hS (lv_sub hl [5, 6, 7, 8, 9, 10, 4, 3, 2, 1, 0] rfl) h
    · have h := ite_f c418 h
      refine lv_aload_n hx hb dL_law_72 rfl (lv_at hl 4 rfl) ?_
      refine k_Vl (rest := []) (As := []) ⟨hx, hb, hml, hown, hts⟩ hE hz hS hW (mtX6_print l z G ad411 t409 vv410 t8 lo  _ h) (cwV 0 hts gL_law_X6_print rfl rfl rfl (by decide +kernel) ⟨Nat.le_of_ble_eq_true rfl, Nat.le_of_ble_eq_true rfl⟩) (r_recv hE hW 0 0 rfl (ci := 9) rfl rfl) rfl hl.1 rfl (Nat.le_of_ble_eq_true rfl) dL_law_73 ⟨by show _ ≤ 600104; omega, by show _ ≤ 7301314; omega⟩ (fun r421 S1 H locs hp hW hS => ?_)
      obtain ⟨rfl, h⟩ := hp
      refine lv_ldc2 (v := (11 : Int64)) hx hb hown (hts _ (List.mem_of_getElem? (i := 4) rfl)) dL_law_76 ?_
      refine W.lcmp hx hb dL_law_79 ?_
      refine r_if_ne hx hb rfl (tgt := 109) dL_law_80 (by decide) (fun c422 => ?_) (fun c422 => ?_)
      · have h := ite_f c422 h
        refine lv_iconst (v := (0 : Int32)) hx hb dL_law_109 (by decide) ?_
        refine lv_istore (lv' := [(10, .int ((0 : Int32))), (9, .int ((-1 : Int32))), (8, .int ((0 : Int32))), (6, .long ((0 : Int64))), (0, .ref b), (1, .ref (ad411 0 0)), (2, .ref (ad411 100 0)), (3, .ref (ad411 101 0)), (4, .ref (ad411 102 0)), (5, .ref (ad411 103 0))]) hx hb dL_law_110 hl (by decide) rfl (fun ls hl => ?_)
        refine lv_iconst (v := (0 : Int32)) hx hb dL_law_112 (by decide) ?_
        refine lv_istore (lv' := [(11, .int ((0 : Int32))), (10, .int ((0 : Int32))), (9, .int ((-1 : Int32))), (8, .int ((0 : Int32))), (6, .long ((0 : Int64))), (0, .ref b), (1, .ref (ad411 0 0)), (2, .ref (ad411 100 0)), (3, .ref (ad411 101 0)), (4, .ref (ad411 102 0)), (5, .ref (ad411 103 0))]) hx hb dL_law_113 hl (by decide) rfl (fun ls hl => ?_)
        obtain ⟨n423, n424, h⟩ := h
        exact tL_law_115 (σ := σ) (ρ := ρ) X post hpost  n423 _ _ (by omega) (by omega) t409 vv410 t8 ad411 ((0 : Int64)) ((0 : Int32)) ((-1 : Int32)) ((0 : Int32)) ((0 : Int32)) (Xt.tr (Xt.tr Xt.rf q14) q412) hW hS (lv_sub hl [5, 6, 7, 8, 9, 10, 4, 3, 2, 1, 0] rfl) h
      · have h := ite_t c422 h
        refine lv_aload_n hx hb dL_law_83 rfl (lv_at hl 4 rfl) ?_
        refine k_Vi (rest := []) (As := []) ⟨hx, hb, hml, hown, hts⟩ hE hz hS hW (mtX6_conflicts l z G ad411 t409 vv410 t8 lo  _ h) (cwV 0 hts gL_law_X6_conflicts rfl rfl rfl (by decide +kernel) ⟨Nat.le_of_ble_eq_true rfl, Nat.le_of_ble_eq_true rfl⟩) (r_recv hE hW 0 0 rfl (ci := 9) rfl rfl) rfl hl.1 rfl (Nat.le_of_ble_eq_true rfl) dL_law_84 ⟨by show _ ≤ 600104; omega, by show _ ≤ 7301314; omega⟩ (fun r425 S1 H locs hp hW hS => ?_)
        obtain ⟨rfl, h⟩ := hp
        refine r_if_ne hx hb rfl (tgt := 109) dL_law_87 (by decide) (fun c426 => ?_) (fun c426 => ?_)
        · have h := ite_f c426 h
          refine lv_iconst (v := (0 : Int32)) hx hb dL_law_109 (by decide) ?_
          refine lv_istore (lv' := [(10, .int ((0 : Int32))), (9, .int ((-1 : Int32))), (8, .int ((0 : Int32))), (6, .long ((0 : Int64))), (0, .ref b), (1, .ref (ad411 0 0)), (2, .ref (ad411 100 0)), (3, .ref (ad411 101 0)), (4, .ref (ad411 102 0)), (5, .ref (ad411 103 0))]) hx hb dL_law_110 hl (by decide) rfl (fun ls hl => ?_)
          refine lv_iconst (v := (0 : Int32)) hx hb dL_law_112 (by decide) ?_
          refine lv_istore (lv' := [(11, .int ((0 : Int32))), (10, .int ((0 : Int32))), (9, .int ((-1 : Int32))), (8, .int ((0 : Int32))), (6, .long ((0 : Int64))), (0, .ref b), (1, .ref (ad411 0 0)), (2, .ref (ad411 100 0)), (3, .ref (ad411 101 0)), (4, .ref (ad411 102 0)), (5, .ref (ad411 103 0))]) hx hb dL_law_113 hl (by decide) rfl (fun ls hl => ?_)
          obtain ⟨n427, n428, h⟩ := h
          exact tL_law_115 (σ := σ) (ρ := ρ) X post hpost  n427 _ _ (by omega) (by omega) t409 vv410 t8 ad411 ((0 : Int64)) ((0 : Int32)) ((-1 : Int32)) ((0 : Int32)) ((0 : Int32)) (Xt.tr (Xt.tr Xt.rf q14) q412) hW hS (lv_sub hl [5, 6, 7, 8, 9, 10, 4, 3, 2, 1, 0] rfl) h
        · have h := ite_t c426 h
          refine lv_aload_n hx hb dL_law_90 rfl (lv_at hl 4 rfl) ?_
          refine lv_iconst (v := (3 : Int32)) hx hb dL_law_91 (by decide) ?_
          refine lv_iconst (v := (-1 : Int32)) hx hb dL_law_92 (by decide) ?_
          refine lv_iconst (v := (1 : Int32)) hx hb dL_law_93 (by decide) ?_
          refine lv_iconst (v := (0 : Int32)) hx hb dL_law_94 (by decide) ?_
          refine lv_iconst (v := (0 : Int32)) hx hb dL_law_95 (by decide) ?_
          refine kWA_Si (rest := []) (As := [.ref (ad411 0 0), .int ((3 : Int32)), .int ((-1 : Int32)), .int ((1 : Int32)), .int ((0 : Int32)), .int ((0 : Int32))]) ⟨hx, hb, hml, hown, hts⟩ hE hz hS hW (mtL_does_3 l hlt z G ad411 t409 vv410 t8 lo ((-1 : Int32)) ((1 : Int32)) ((0 : Int32)) ((0 : Int32)) _ h) (vx_cwSW 6 hts gL_law_L_does rfl rfl rfl (by decide +kernel) ⟨Nat.le_of_ble_eq_true rfl, Nat.le_of_ble_eq_true rfl⟩) rfl hl.1 rfl (Nat.le_of_ble_eq_true rfl) dL_law_96 ⟨by show _ ≤ 600104; omega, by show _ ≤ 7301314; omega⟩ (fun r429 S1 ad432 H locs hp hW hS => ?_)
          obtain ⟨t430, vv431, rfl, q433, h⟩ := hp
          have z434 : ad432 0 0 = ad411 0 0 := (q433 0 0 (by decide) rfl).2
          have z435 : ad432 100 0 = ad411 100 0 := (q433 100 0 (by decide) ⟨rfl, by decide, by decide⟩).2
          have z436 : ad432 101 0 = ad411 101 0 := (q433 101 0 (by decide) ⟨rfl, by decide, by decide⟩).2
          have z437 : ad432 102 0 = ad411 102 0 := (q433 102 0 (by decide) ⟨rfl, by decide, by decide⟩).2
          have z438 : ad432 103 0 = ad411 103 0 := (q433 103 0 (by decide) ⟨rfl, by decide, by decide⟩).2
          have hl : lv_has ls 23 [(9, .int ((-1 : Int32))), (8, .int ((0 : Int32))), (6, .long ((0 : Int64))), (0, .ref b), (1, .ref (ad432 0 0)), (2, .ref (ad432 100 0)), (3, .ref (ad432 101 0)), (4, .ref (ad432 102 0)), (5, .ref (ad432 103 0))] := by rw [z434, z435, z436, z437, z438]; exact hl
          refine lv_sipush (v := (-1383 : Int32)) hx hb dL_law_99 (by decide) ?_
          refine r_icmp_ne hx hb rfl (show (-1383 : Int32).toInt = (-1383) by decide) (tgt := 109) dL_law_102 (by decide) (fun c439 => ?_) (fun c439 => ?_)
          · have h := ite_f c439 h
            refine lv_iconst (v := (0 : Int32)) hx hb dL_law_109 (by decide) ?_
            refine lv_istore (lv' := [(10, .int ((0 : Int32))), (9, .int ((-1 : Int32))), (8, .int ((0 : Int32))), (6, .long ((0 : Int64))), (0, .ref b), (1, .ref (ad432 0 0)), (2, .ref (ad432 100 0)), (3, .ref (ad432 101 0)), (4, .ref (ad432 102 0)), (5, .ref (ad432 103 0))]) hx hb dL_law_110 hl (by decide) rfl (fun ls hl => ?_)
            refine lv_iconst (v := (0 : Int32)) hx hb dL_law_112 (by decide) ?_
            refine lv_istore (lv' := [(11, .int ((0 : Int32))), (10, .int ((0 : Int32))), (9, .int ((-1 : Int32))), (8, .int ((0 : Int32))), (6, .long ((0 : Int64))), (0, .ref b), (1, .ref (ad432 0 0)), (2, .ref (ad432 100 0)), (3, .ref (ad432 101 0)), (4, .ref (ad432 102 0)), (5, .ref (ad432 103 0))]) hx hb dL_law_113 hl (by decide) rfl (fun ls hl => ?_)
            obtain ⟨n440, n441, h⟩ := h
            exact tL_law_115 (σ := σ) (ρ := ρ) X post hpost  n440 _ _ (by omega) (by omega) t430 vv431 t8 ad432 ((0 : Int64)) ((0 : Int32)) ((-1 : Int32)) ((0 : Int32)) ((0 : Int32)) (Xt.tr (Xt.tr (Xt.tr Xt.rf q14) q412) q433) hW hS (lv_sub hl [5, 6, 7, 8, 9, 10, 4, 3, 2, 1, 0] rfl) h
          · have h := ite_t c439 h
            refine lv_iconst (v := (1 : Int32)) hx hb dL_law_105 (by decide) ?_
            refine lv_goto (tgt := 110) hx hb dL_law_106 (by decide) ?_
            refine lv_istore (lv' := [(10, .int ((1 : Int32))), (9, .int ((-1 : Int32))), (8, .int ((0 : Int32))), (6, .long ((0 : Int64))), (0, .ref b), (1, .ref (ad432 0 0)), (2, .ref (ad432 100 0)), (3, .ref (ad432 101 0)), (4, .ref (ad432 102 0)), (5, .ref (ad432 103 0))]) hx hb dL_law_110 hl (by decide) rfl (fun ls hl => ?_)
            refine lv_iconst (v := (0 : Int32)) hx hb dL_law_112 (by decide) ?_
            refine lv_istore (lv' := [(11, .int ((0 : Int32))), (10, .int ((1 : Int32))), (9, .int ((-1 : Int32))), (8, .int ((0 : Int32))), (6, .long ((0 : Int64))), (0, .ref b), (1, .ref (ad432 0 0)), (2, .ref (ad432 100 0)), (3, .ref (ad432 101 0)), (4, .ref (ad432 102 0)), (5, .ref (ad432 103 0))]) hx hb dL_law_113 hl (by decide) rfl (fun ls hl => ?_)
            obtain ⟨n442, n443, h⟩ := h
            exact tL_law_115 (σ := σ) (ρ := ρ) X post hpost  n442 _ _ (by omega) (by omega) t430 vv431 t8 ad432 ((0 : Int64)) ((0 : Int32)) ((-1 : Int32)) ((1 : Int32)) ((0 : Int32)) (Xt.tr (Xt.tr (Xt.tr Xt.rf q14) q412) q433) hW hS (lv_sub hl [5, 6, 7, 8, 9, 10, 4, 3, 2, 1, 0] rfl) h
