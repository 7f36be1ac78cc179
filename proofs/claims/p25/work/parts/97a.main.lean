/-! the law: its walk. Written by wip/gen25/genlaw.py -/
set_option maxHeartbeats 4000000 in
set_option maxRecDepth 100000 in
theorem tL_law_1637 {p : Program} {l : Launch} {e : Env} {s : State} {m : MethodId} {below : List Frame} {meth : Method} {c : Code} {b L : Nat} {xs : Nat → Int32} {z : Nat} {G : Gl} {ad : Nat → Nat → Nat} {σ : SG} {ν : NU} {ρ : RH} {lo : Int64} (X : LCX p l e s m below meth c b L xs z G)  (post : Int32 → Prop) (hpost : ∀ r, post r → r = 1) : ∀ (kc ks : Nat), kc + 1500 ≤ 600104 → ks + 28184 ≤ 7301314 → ∀ (a1 : SG) (a2 : NU) (a3 : RH) (b1 : Nat → Nat → Nat) (x10 : Int32) {H : Heap} {locs : List Loc} {ls : Array Slot}, Xt ad b1 ν a2 → WP z G b1 (a1, a2, a3, lo) H → va_S (Az z) s.heap H locs → lv_has ls 23 [(1, .ref (b1 0 0)), (2, .ref (b1 100 0)), (3, .ref (b1 101 0)), (4, .ref (b1 102 0)), (5, .ref (b1 103 0)), (10, .int x10)] → jL_law_1637 L xs post a1 a2 a3 x10 → W p l e room_1 s m #[Value.ref b] below meth c H locs kc ks (lw_Z below #[Value.ref b] s) (F0 m 1637 ls []) := by
  obtain ⟨hx, hb, hml, hown, hts, hE, hz, hlt, hX, hbl, hbA, hL, hr, hlocks, hze⟩ := id X
  intro kc ks hB1 hB2 a1 a2 a3 b1 x10 H locs ls hX9 hW hS hl h
  unfold jL_law_1637 at h
  refine lv_iload hx hb dL_law_1637 (lv_at hl 5 rfl) ?_
  refine r_if_eq hx hb rfl (tgt := 1661) dL_law_1639 (by decide) (fun c23 => ?_) (fun c23 => ?_)
  · have h := ite_t c23 h
    refine lv_iconst (v := (0 : Int32)) hx hb dL_law_1661 (by decide) ?_
    exact absurd (hpost _ h) (by decide)
  · have h := ite_f c23 h
    refine lv_aload_n hx hb dL_law_1642 rfl (lv_at hl 0 rfl) ?_
    refine lv_aload_n hx hb dL_law_1643 rfl (lv_at hl 1 rfl) ?_
    refine lv_aload_n hx hb dL_law_1644 rfl (lv_at hl 2 rfl) ?_
    refine lv_aload hx hb dL_law_1645 (lv_at hl 3 rfl) ?_
    refine lv_aload hx hb dL_law_1647 (lv_at hl 4 rfl) ?_
    refine lv_bipush (v := (7 : Int32)) hx hb dL_law_1649 (by decide) ?_
    refine kA_Si (rest := []) (As := [.ref (b1 0 0), .ref (b1 100 0), .ref (b1 101 0), .ref (b1 102 0), .ref (b1 103 0), .int ((7 : Int32))]) ⟨hx, hb, hml, hown, hts⟩ hE hz hS hW (mtL_areSound l hlt z G b1 a1 a2 a3 lo ((7 : Int32)) _ h) (va_cwS 6 hts gL_law_L_areSound rfl rfl rfl (by decide +kernel) ⟨Nat.le_of_ble_eq_true rfl, Nat.le_of_ble_eq_true rfl⟩) rfl hl.1 rfl (Nat.le_of_ble_eq_true rfl) dL_law_1651 ⟨by show _ ≤ 600104; omega, by show _ ≤ 7301314; omega⟩ (fun r24 S1 ad27 H locs hp hW hS => ?_)
    obtain ⟨t25, vv26, rfl, q28, h⟩ := hp
    have z29 : ad27 0 0 = b1 0 0 := (q28 0 0 (by decide) rfl).2
    have z30 : ad27 100 0 = b1 100 0 := (q28 100 0 (by decide) ⟨rfl, by decide, by decide⟩).2
    have z31 : ad27 101 0 = b1 101 0 := (q28 101 0 (by decide) ⟨rfl, by decide, by decide⟩).2
    have z32 : ad27 102 0 = b1 102 0 := (q28 102 0 (by decide) ⟨rfl, by decide, by decide⟩).2
    have z33 : ad27 103 0 = b1 103 0 := (q28 103 0 (by decide) ⟨rfl, by decide, by decide⟩).2
    have hl : lv_has ls 23 [(1, .ref (ad27 0 0)), (2, .ref (ad27 100 0)), (3, .ref (ad27 101 0)), (4, .ref (ad27 102 0)), (5, .ref (ad27 103 0)), (10, .int x10)] := by rw [z29, z30, z31, z32, z33]; exact hl
    refine r_if_eq hx hb rfl (tgt := 1661) dL_law_1654 (by decide) (fun c34 => ?_) (fun c34 => ?_)
    · have h := ite_t c34 h
      refine lv_iconst (v := (0 : Int32)) hx hb dL_law_1661 (by decide) ?_
      exact absurd (hpost _ h) (by decide)
    · have h := ite_f c34 h
      refine lv_iconst (v := (1 : Int32)) hx hb dL_law_1657 (by decide) ?_
      refine lv_goto (tgt := 1662) hx hb dL_law_1658 (by decide) ?_
      refine va_forget (fun q hq => by have := hS.2.2 q hq; rw [← hze]; exact this) ?_
      refine W.widen (k := 600104) (n := 7301314) (by omega) (by omega) ?_
      exact lw_ret hx hb hr hlocks dL_law_1662

set_option maxHeartbeats 4000000 in
set_option maxRecDepth 100000 in
theorem tL_law_1625 {p : Program} {l : Launch} {e : Env} {s : State} {m : MethodId} {below : List Frame} {meth : Method} {c : Code} {b L : Nat} {xs : Nat → Int32} {z : Nat} {G : Gl} {ad : Nat → Nat → Nat} {σ : SG} {ν : NU} {ρ : RH} {lo : Int64} (X : LCX p l e s m below meth c b L xs z G)  (post : Int32 → Prop) (hpost : ∀ r, post r → r = 1) : ∀ (kc ks : Nat), kc + 1500 ≤ 600104 → ks + 28184 ≤ 7301314 → ∀ (a1 : SG) (a2 : NU) (a3 : RH) (b1 : Nat → Nat → Nat) (x11 : Int32) (x12 : Int32) (y0 : Int32) {H : Heap} {locs : List Loc} {ls : Array Slot}, Xt ad b1 ν a2 → WP z G b1 (a1, a2, a3, lo) H → va_S (Az z) s.heap H locs → lv_has ls 23 [(1, .ref (b1 0 0)), (2, .ref (b1 100 0)), (3, .ref (b1 101 0)), (4, .ref (b1 102 0)), (5, .ref (b1 103 0)), (11, .int x11), (12, .int x12)] → jL_law_1625 L xs post a1 a2 a3 x11 x12 y0 → W p l e room_1 s m #[Value.ref b] below meth c H locs kc ks (lw_Z below #[Value.ref b] s) (F0 m 1625 ls [.int y0]) := by
  obtain ⟨hx, hb, hml, hown, hts, hE, hz, hlt, hX, hbl, hbA, hL, hr, hlocks, hze⟩ := id X
  intro kc ks hB1 hB2 a1 a2 a3 b1 x11 x12 y0 H locs ls hX9 hW hS hl h
  unfold jL_law_1625 at h
  refine lv_istore (lv' := [(10, .int y0), (1, .ref (b1 0 0)), (2, .ref (b1 100 0)), (3, .ref (b1 101 0)), (4, .ref (b1 102 0)), (5, .ref (b1 103 0)), (11, .int x11), (12, .int x12)]) hx hb dL_law_1625 hl (by decide) rfl (fun ls hl => ?_)
  refine lv_aload_n hx hb dL_law_1627 rfl (lv_at hl 2 rfl) ?_
  refine lv_iconst (v := (2 : Int32)) hx hb dL_law_1628 (by decide) ?_
  refine lv_iload hx hb dL_law_1629 (lv_at hl 6 rfl) ?_
  obtain ⟨b56, h⟩ := h
  refine r_iastM hx hb hE hW hS 0 (k := 100) rfl ⟨rfl, by decide, by decide⟩ (n := 14) (fun _ => rfl) (fun _ _ => rfl) b56 dL_law_1631 (fun t57 e58 H locs hW hS => ?_)
  have h := h t57 e58
  refine lv_aload_n hx hb dL_law_1632 rfl (lv_at hl 2 rfl) ?_
  refine lv_iconst (v := (3 : Int32)) hx hb dL_law_1633 (by decide) ?_
  refine lv_iload hx hb dL_law_1634 (lv_at hl 7 rfl) ?_
  obtain ⟨b59, h⟩ := h
  refine r_iastM hx hb hE hW hS 0 (k := 100) rfl ⟨rfl, by decide, by decide⟩ (n := 14) (fun _ => rfl) (fun _ _ => rfl) b59 dL_law_1636 (fun t60 e61 H locs hW hS => ?_)
  have h := h t60 e61
  exact tL_law_1637 (σ := σ) (ρ := ρ) X post hpost  _ _ (by omega) (by omega) a1 a2 t60 b1 y0 hX9 hW hS (lv_sub hl [1, 2, 3, 4, 5, 0] rfl) h

set_option maxHeartbeats 4000000 in
set_option maxRecDepth 100000 in
theorem tL_law_1537 {p : Program} {l : Launch} {e : Env} {s : State} {m : MethodId} {below : List Frame} {meth : Method} {c : Code} {b L : Nat} {xs : Nat → Int32} {z : Nat} {G : Gl} {ad : Nat → Nat → Nat} {σ : SG} {ν : NU} {ρ : RH} {lo : Int64} (X : LCX p l e s m below meth c b L xs z G)  (post : Int32 → Prop) (hpost : ∀ r, post r → r = 1) : ∀ (kc ks : Nat), kc + 1511 ≤ 600104 → ks + 28359 ≤ 7301314 → ∀ (a1 : SG) (a2 : NU) (a3 : RH) (b1 : Nat → Nat → Nat) (x6 : Int64) (x8 : Int32) (x9 : Int32) (x10 : Int32) {H : Heap} {locs : List Loc} {ls : Array Slot}, Xt ad b1 ν a2 → WP z G b1 (a1, a2, a3, lo) H → va_S (Az z) s.heap H locs → lv_has ls 23 [(1, .ref (b1 0 0)), (2, .ref (b1 100 0)), (3, .ref (b1 101 0)), (4, .ref (b1 102 0)), (5, .ref (b1 103 0)), (6, .long x6), (8, .int x8), (9, .int x9), (10, .int x10)] → jL_law_1537 L xs post a1 a2 a3 x6 x8 x9 x10 → W p l e room_1 s m #[Value.ref b] below meth c H locs kc ks (lw_Z below #[Value.ref b] s) (F0 m 1537 ls []) := by
  obtain ⟨hx, hb, hml, hown, hts, hE, hz, hlt, hX, hbl, hbA, hL, hr, hlocks, hze⟩ := id X
  intro kc ks hB1 hB2 a1 a2 a3 b1 x6 x8 x9 x10 H locs ls hX9 hW hS hl h
  unfold jL_law_1537 at h
  refine lv_iload hx hb dL_law_1537 (lv_at hl 8 rfl) ?_
  refine r_if_eq hx hb rfl (tgt := 1637) dL_law_1539 (by decide) (fun c22 => ?_) (fun c22 => ?_)
  · have h := ite_t c22 h
    exact tL_law_1637 (σ := σ) (ρ := ρ) X post hpost  _ _ (by omega) (by omega) a1 a2 a3 b1 x10 hX9 hW hS (lv_sub hl [0, 1, 2, 3, 4, 8] rfl) h
  · have h := ite_f c22 h
    refine lv_iload hx hb dL_law_1542 (lv_at hl 7 rfl) ?_
    refine r_if_lt hx hb rfl (tgt := 1637) dL_law_1544 (by decide) (fun c35 => ?_) (fun c35 => ?_)
    · have h := ite_t c35 h
      exact tL_law_1637 (σ := σ) (ρ := ρ) X post hpost  _ _ (by omega) (by omega) a1 a2 a3 b1 x10 hX9 hW hS (lv_sub hl [0, 1, 2, 3, 4, 8] rfl) h
    · have h := ite_f c35 h
      refine lv_aload_n hx hb dL_law_1547 rfl (lv_at hl 1 rfl) ?_
      refine lv_iconst (v := (2 : Int32)) hx hb dL_law_1548 (by decide) ?_
      obtain ⟨b36, h⟩ := h
      refine r_iald hx hb hE hW 100 0 ⟨rfl, by decide, by decide⟩ (n := 14) (f := a3 0) rfl b36 (v := a3 0 ((2 : Int32)).toNatClampNeg) rfl dL_law_1549 ?_
      refine lv_istore (lv' := [(11, .int (a3 0 ((2 : Int32)).toNatClampNeg)), (1, .ref (b1 0 0)), (2, .ref (b1 100 0)), (3, .ref (b1 101 0)), (4, .ref (b1 102 0)), (5, .ref (b1 103 0)), (6, .long x6), (8, .int x8), (9, .int x9), (10, .int x10)]) hx hb dL_law_1550 hl (by decide) rfl (fun ls hl => ?_)
      refine lv_aload_n hx hb dL_law_1552 rfl (lv_at hl 2 rfl) ?_
      refine lv_iconst (v := (3 : Int32)) hx hb dL_law_1553 (by decide) ?_
      obtain ⟨b37, h⟩ := h
      refine r_iald hx hb hE hW 100 0 ⟨rfl, by decide, by decide⟩ (n := 14) (f := a3 0) rfl b37 (v := a3 0 ((3 : Int32)).toNatClampNeg) rfl dL_law_1554 ?_
      refine lv_istore (lv' := [(12, .int (a3 0 ((3 : Int32)).toNatClampNeg)), (11, .int (a3 0 ((2 : Int32)).toNatClampNeg)), (1, .ref (b1 0 0)), (2, .ref (b1 100 0)), (3, .ref (b1 101 0)), (4, .ref (b1 102 0)), (5, .ref (b1 103 0)), (6, .long x6), (8, .int x8), (9, .int x9), (10, .int x10)]) hx hb dL_law_1555 hl (by decide) rfl (fun ls hl => ?_)
      refine lv_aload_n hx hb dL_law_1557 rfl (lv_at hl 2 rfl) ?_
      refine lv_aload_n hx hb dL_law_1558 rfl (lv_at hl 3 rfl) ?_
      refine lv_iload hx hb dL_law_1559 (lv_at hl 9 rfl) ?_
      refine lv_sipush (v := (10000 : Int32)) hx hb dL_law_1561 (by decide) ?_
      refine lv_idiv hx hb dL_law_1564 (by decide) ?_
      refine lv_bipush (v := (100 : Int32)) hx hb dL_law_1565 (by decide) ?_
      refine lv_irem hx hb dL_law_1567 (by decide) ?_
      refine lv_iload hx hb dL_law_1568 (lv_at hl 9 rfl) ?_
      refine lv_sipush (v := (10000 : Int32)) hx hb dL_law_1570 (by decide) ?_
      refine lv_irem hx hb dL_law_1573 (by decide) ?_
      refine lv_iload hx hb dL_law_1574 (lv_at hl 9 rfl) ?_
      refine lv_ldcI (v := (1000000 : Int32)) hx hb hown (hts _ (List.mem_of_getElem? (i := 5) rfl)) dL_law_1576 ?_
      refine lv_idiv hx hb dL_law_1578 (by decide) ?_
      refine kA_Si (rest := []) (As := [.ref (b1 0 0), .ref (b1 100 0), .int ((x9 / ((10000 : Int32))) - (x9 / ((10000 : Int32))) / ((100 : Int32)) * ((100 : Int32))), .int (x9 - x9 / ((10000 : Int32)) * ((10000 : Int32))), .int (x9 / ((1000000 : Int32)))]) ⟨hx, hb, hml, hown, hts⟩ hE hz hS hW (mtL_isLooked l hlt z G b1 a1 a2 a3 lo ((x9 / ((10000 : Int32))) - (x9 / ((10000 : Int32))) / ((100 : Int32)) * ((100 : Int32))) (x9 - x9 / ((10000 : Int32)) * ((10000 : Int32))) (x9 / ((1000000 : Int32))) _ h) (va_cwS 5 hts gL_law_L_isLooked rfl rfl rfl (by decide +kernel) ⟨Nat.le_of_ble_eq_true rfl, Nat.le_of_ble_eq_true rfl⟩) rfl hl.1 rfl (Nat.le_of_ble_eq_true rfl) dL_law_1579 ⟨by show _ ≤ 600104; omega, by show _ ≤ 7301314; omega⟩ (fun r38 S1 ad42 H locs hp hW hS => ?_)
      obtain ⟨t39, vv40, rr41, rfl, q43, h⟩ := hp
      have z44 : ad42 0 0 = b1 0 0 := (q43 0 0 (by decide) rfl).2
      have z45 : ad42 100 0 = b1 100 0 := (q43 100 0 (by decide) ⟨rfl, by decide, by decide⟩).2
      have z46 : ad42 101 0 = b1 101 0 := (q43 101 0 (by decide) ⟨rfl, by decide, by decide⟩).2
      have z47 : ad42 102 0 = b1 102 0 := (q43 102 0 (by decide) ⟨rfl, by decide, by decide⟩).2
      have z48 : ad42 103 0 = b1 103 0 := (q43 103 0 (by decide) ⟨rfl, by decide, by decide⟩).2
      have hl : lv_has ls 23 [(12, .int (a3 0 ((3 : Int32)).toNatClampNeg)), (11, .int (a3 0 ((2 : Int32)).toNatClampNeg)), (1, .ref (ad42 0 0)), (2, .ref (ad42 100 0)), (3, .ref (ad42 101 0)), (4, .ref (ad42 102 0)), (5, .ref (ad42 103 0)), (6, .long x6), (8, .int x8), (9, .int x9), (10, .int x10)] := by rw [z44, z45, z46, z47, z48]; exact hl
      refine lv_istore (lv' := [(10, .int r38), (12, .int (a3 0 ((3 : Int32)).toNatClampNeg)), (11, .int (a3 0 ((2 : Int32)).toNatClampNeg)), (1, .ref (ad42 0 0)), (2, .ref (ad42 100 0)), (3, .ref (ad42 101 0)), (4, .ref (ad42 102 0)), (5, .ref (ad42 103 0)), (6, .long x6), (8, .int x8), (9, .int x9)]) hx hb dL_law_1582 hl (by decide) rfl (fun ls hl => ?_)
      refine lv_aload_n hx hb dL_law_1584 rfl (lv_at hl 4 rfl) ?_
      refine lv_iconst (v := (2 : Int32)) hx hb dL_law_1585 (by decide) ?_
      refine lv_iload hx hb dL_law_1586 (lv_at hl 9 rfl) ?_
      refine lv_sipush (v := (10000 : Int32)) hx hb dL_law_1588 (by decide) ?_
      refine lv_idiv hx hb dL_law_1591 (by decide) ?_
      obtain ⟨b49, h⟩ := h
      refine r_iastM hx hb hE hW hS 0 (k := 100) rfl ⟨rfl, by decide, by decide⟩ (n := 14) (fun _ => rfl) (fun _ _ => rfl) b49 dL_law_1592 (fun t50 e51 H locs hW hS => ?_)
      have h := h t50 e51
      refine lv_aload_n hx hb dL_law_1593 rfl (lv_at hl 4 rfl) ?_
      refine lv_iconst (v := (3 : Int32)) hx hb dL_law_1594 (by decide) ?_
      refine lv_iload hx hb dL_law_1595 (lv_at hl 9 rfl) ?_
      refine lv_bipush (v := (100 : Int32)) hx hb dL_law_1597 (by decide) ?_
      refine lv_idiv hx hb dL_law_1599 (by decide) ?_
      refine lv_bipush (v := (100 : Int32)) hx hb dL_law_1600 (by decide) ?_
      refine lv_irem hx hb dL_law_1602 (by decide) ?_
      obtain ⟨b52, h⟩ := h
      refine r_iastM hx hb hE hW hS 0 (k := 100) rfl ⟨rfl, by decide, by decide⟩ (n := 14) (fun _ => rfl) (fun _ _ => rfl) b52 dL_law_1603 (fun t53 e54 H locs hW hS => ?_)
      have h := h t53 e54
      refine lv_iload hx hb dL_law_1604 (lv_at hl 0 rfl) ?_
      refine r_if_eq hx hb rfl (tgt := 1624) dL_law_1606 (by decide) (fun c55 => ?_) (fun c55 => ?_)
      · have h := ite_t c55 h
        refine lv_iconst (v := (0 : Int32)) hx hb dL_law_1624 (by decide) ?_
        exact tL_law_1625 (σ := σ) (ρ := ρ) X post hpost  _ _ (by omega) (by omega) t39 vv40 t53 ad42 (a3 0 ((2 : Int32)).toNatClampNeg) (a3 0 ((3 : Int32)).toNatClampNeg) ((0 : Int32)) (Xt.tr hX9 q43) hW hS (lv_sub hl [3, 4, 5, 6, 7, 2, 1] rfl) h
      · have h := ite_f c55 h
        refine lv_aload_n hx hb dL_law_1609 rfl (lv_at hl 3 rfl) ?_
        refine lv_aload_n hx hb dL_law_1610 rfl (lv_at hl 4 rfl) ?_
        refine k_Sl (rest := []) (As := [.ref (ad42 0 0), .ref (ad42 100 0)]) ⟨hx, hb, hml, hown, hts⟩ hE hz hS hW (mtL_all l hlt z G ad42 t39 vv40 t53 lo  _ h) (va_cwS 2 hts gL_law_L_all rfl rfl rfl (by decide +kernel) ⟨Nat.le_of_ble_eq_true rfl, Nat.le_of_ble_eq_true rfl⟩) rfl hl.1 rfl (Nat.le_of_ble_eq_true rfl) dL_law_1611 ⟨by show _ ≤ 600104; omega, by show _ ≤ 7301314; omega⟩ (fun r62 S1 H locs hp hW hS => ?_)
        obtain ⟨rfl, h⟩ := hp
        refine lv_lload hx hb dL_law_1614 (lv_at hl 8 rfl) ?_
        refine W.lcmp hx hb dL_law_1616 ?_
        refine r_if_ne hx hb rfl (tgt := 1624) dL_law_1617 (by decide) (fun c63 => ?_) (fun c63 => ?_)
        · have h := ite_f c63 h
          refine lv_iconst (v := (0 : Int32)) hx hb dL_law_1624 (by decide) ?_
          exact tL_law_1625 (σ := σ) (ρ := ρ) X post hpost  _ _ (by omega) (by omega) t39 vv40 t53 ad42 (a3 0 ((2 : Int32)).toNatClampNeg) (a3 0 ((3 : Int32)).toNatClampNeg) ((0 : Int32)) (Xt.tr hX9 q43) hW hS (lv_sub hl [3, 4, 5, 6, 7, 2, 1] rfl) h
        · have h := ite_t c63 h
          refine lv_iconst (v := (1 : Int32)) hx hb dL_law_1620 (by decide) ?_
          refine lv_goto (tgt := 1625) hx hb dL_law_1621 (by decide) ?_
          exact tL_law_1625 (σ := σ) (ρ := ρ) X post hpost  _ _ (by omega) (by omega) t39 vv40 t53 ad42 (a3 0 ((2 : Int32)).toNatClampNeg) (a3 0 ((3 : Int32)).toNatClampNeg) ((1 : Int32)) (Xt.tr hX9 q43) hW hS (lv_sub hl [3, 4, 5, 6, 7, 2, 1] rfl) h

set_option maxHeartbeats 4000000 in
set_option maxRecDepth 100000 in
theorem tL_law_1504 {p : Program} {l : Launch} {e : Env} {s : State} {m : MethodId} {below : List Frame} {meth : Method} {c : Code} {b L : Nat} {xs : Nat → Int32} {z : Nat} {G : Gl} {ad : Nat → Nat → Nat} {σ : SG} {ν : NU} {ρ : RH} {lo : Int64} (X : LCX p l e s m below meth c b L xs z G) (κ115 : SG → NU → RH → Int64 → Int32 → Int32 → Int32 → Int32 → Prop) (post : Int32 → Prop) (hpost : ∀ r, post r → r = 1) (bc115 bs115 : Nat) (hk115 : ∀ (kc ks : Nat), kc + bc115 ≤ 600104 → ks + bs115 ≤ 7301314 → ∀ (a1 : SG) (a2 : NU) (a3 : RH) (b1 : Nat → Nat → Nat) (x6 : Int64) (x8 : Int32) (x9 : Int32) (x10 : Int32) (x11 : Int32) {H : Heap} {locs : List Loc} {ls : Array Slot}, Xt ad b1 ν a2 → WP z G b1 (a1, a2, a3, lo) H → va_S (Az z) s.heap H locs → lv_has ls 23 [(0, .ref b), (1, .ref (b1 0 0)), (2, .ref (b1 100 0)), (3, .ref (b1 101 0)), (4, .ref (b1 102 0)), (5, .ref (b1 103 0)), (6, .long x6), (8, .int x8), (9, .int x9), (10, .int x10), (11, .int x11)] → κ115 a1 a2 a3 x6 x8 x9 x10 x11 → W p l e room_1 s m #[Value.ref b] below meth c H locs kc ks (lw_Z below #[Value.ref b] s) (F0 m 115 ls [])) : ∀ (kc ks : Nat), kc + 478 + bc115 ≤ 600104 → ks + 6481 + bs115 ≤ 7301314 → kc + 0 ≤ 600104 → ks + 0 ≤ 7301314 → ∀ (a1 : SG) (a2 : NU) (a3 : RH) (b1 : Nat → Nat → Nat) (x6 : Int64) (x8 : Int32) (x9 : Int32) (x11 : Int32) (x12 : Int32) {H : Heap} {locs : List Loc} {ls : Array Slot}, Xt ad b1 ν a2 → WP z G b1 (a1, a2, a3, lo) H → va_S (Az z) s.heap H locs → lv_has ls 23 [(0, .ref b), (1, .ref (b1 0 0)), (2, .ref (b1 100 0)), (3, .ref (b1 101 0)), (4, .ref (b1 102 0)), (5, .ref (b1 103 0)), (6, .long x6), (8, .int x8), (9, .int x9), (11, .int x11), (12, .int x12)] → jL_law_1504 L xs κ115 post a1 a2 a3 x6 x8 x9 x11 x12 → W p l e room_1 s m #[Value.ref b] below meth c H locs kc ks (lw_Z below #[Value.ref b] s) (F0 m 1504 ls []) := by
  obtain ⟨hx, hb, hml, hown, hts, hE, hz, hlt, hX, hbl, hbA, hL, hr, hlocks, hze⟩ := id X
  intro kc ks hB1 hB2 hX1 hX2 a1 a2 a3 b1 x6 x8 x9 x11 x12 H locs ls hX9 hW hS hl h
  unfold jL_law_1504 at h
  refine lv_iload hx hb dL_law_1504 (lv_at hl 9 rfl) ?_
  refine lv_bipush (v := (40 : Int32)) hx hb dL_law_1506 (by decide) ?_
  refine lv_irem hx hb dL_law_1508 (by decide) ?_
  refine r_if_gt hx hb rfl (tgt := 1524) dL_law_1509 (by decide) (fun c89 => ?_) (fun c89 => ?_)
  · have h := ite_f c89 h
    refine lv_iconst (v := (1 : Int32)) hx hb dL_law_1524 (by decide) ?_
    refine lv_goto (tgt := 1529) hx hb dL_law_1525 (by decide) ?_
    refine lv_istore (lv' := [(10, .int ((1 : Int32))), (0, .ref b), (1, .ref (b1 0 0)), (2, .ref (b1 100 0)), (3, .ref (b1 101 0)), (4, .ref (b1 102 0)), (5, .ref (b1 103 0)), (6, .long x6), (8, .int x8), (9, .int x9), (11, .int x11), (12, .int x12)]) hx hb dL_law_1529 hl (by decide) rfl (fun ls hl => ?_)
    refine lv_iinc (v := x11 + (1 : Int32)) (lv' := [(11, .int (x11 + (1 : Int32))), (10, .int ((1 : Int32))), (0, .ref b), (1, .ref (b1 0 0)), (2, .ref (b1 100 0)), (3, .ref (b1 101 0)), (4, .ref (b1 102 0)), (5, .ref (b1 103 0)), (6, .long x6), (8, .int x8), (9, .int x9), (12, .int x12)]) hx hb dL_law_1531 hl (k := 10) rfl rfl (by decide) rfl (fun ls hl => ?_)
    refine lv_goto (tgt := 115) hx hb dL_law_1534 (by decide) ?_
    exact hk115 _ _ (by omega) (by omega) a1 a2 a3 b1 x6 x8 x9 ((1 : Int32)) (x11 + (1 : Int32)) hX9 hW hS (lv_sub hl [2, 3, 4, 5, 6, 7, 8, 9, 10, 1, 0] rfl) h
  · have h := ite_t c89 h
    refine lv_aload_n hx hb dL_law_1512 rfl (lv_at hl 1 rfl) ?_
    refine lv_aload_n hx hb dL_law_1513 rfl (lv_at hl 2 rfl) ?_
    refine lv_iload hx hb dL_law_1514 (lv_at hl 10 rfl) ?_
    refine lv_iconst (v := (3 : Int32)) hx hb dL_law_1516 (by decide) ?_
    refine lv_idiv hx hb dL_law_1517 (by decide) ?_
    refine kA_Si (rest := []) (As := [.ref (b1 0 0), .ref (b1 100 0), .int (x12 / ((3 : Int32)))]) ⟨hx, hb, hml, hown, hts⟩ hE hz hS hW (mtL_isRefused l hlt z G b1 a1 a2 a3 lo (x12 / ((3 : Int32))) _ h) (va_cwS 3 hts gL_law_L_isRefused rfl rfl rfl (by decide +kernel) ⟨Nat.le_of_ble_eq_true rfl, Nat.le_of_ble_eq_true rfl⟩) rfl hl.1 rfl (Nat.le_of_ble_eq_true rfl) dL_law_1518 ⟨by show _ ≤ 600104; omega, by show _ ≤ 7301314; omega⟩ (fun r90 S1 ad93 H locs hp hW hS => ?_)
    obtain ⟨t91, vv92, rfl, q94, h⟩ := hp
    have z95 : ad93 0 0 = b1 0 0 := (q94 0 0 (by decide) rfl).2
    have z96 : ad93 100 0 = b1 100 0 := (q94 100 0 (by decide) ⟨rfl, by decide, by decide⟩).2
    have z97 : ad93 101 0 = b1 101 0 := (q94 101 0 (by decide) ⟨rfl, by decide, by decide⟩).2
    have z98 : ad93 102 0 = b1 102 0 := (q94 102 0 (by decide) ⟨rfl, by decide, by decide⟩).2
    have z99 : ad93 103 0 = b1 103 0 := (q94 103 0 (by decide) ⟨rfl, by decide, by decide⟩).2
    have hl : lv_has ls 23 [(0, .ref b), (1, .ref (ad93 0 0)), (2, .ref (ad93 100 0)), (3, .ref (ad93 101 0)), (4, .ref (ad93 102 0)), (5, .ref (ad93 103 0)), (6, .long x6), (8, .int x8), (9, .int x9), (11, .int x11), (12, .int x12)] := by rw [z95, z96, z97, z98, z99]; exact hl
    refine r_if_eq hx hb rfl (tgt := 1528) dL_law_1521 (by decide) (fun c100 => ?_) (fun c100 => ?_)
    · have h := ite_t c100 h
      refine lv_iconst (v := (0 : Int32)) hx hb dL_law_1528 (by decide) ?_
      refine lv_istore (lv' := [(10, .int ((0 : Int32))), (0, .ref b), (1, .ref (ad93 0 0)), (2, .ref (ad93 100 0)), (3, .ref (ad93 101 0)), (4, .ref (ad93 102 0)), (5, .ref (ad93 103 0)), (6, .long x6), (8, .int x8), (9, .int x9), (11, .int x11), (12, .int x12)]) hx hb dL_law_1529 hl (by decide) rfl (fun ls hl => ?_)
      refine lv_iinc (v := x11 + (1 : Int32)) (lv' := [(11, .int (x11 + (1 : Int32))), (10, .int ((0 : Int32))), (0, .ref b), (1, .ref (ad93 0 0)), (2, .ref (ad93 100 0)), (3, .ref (ad93 101 0)), (4, .ref (ad93 102 0)), (5, .ref (ad93 103 0)), (6, .long x6), (8, .int x8), (9, .int x9), (12, .int x12)]) hx hb dL_law_1531 hl (k := 10) rfl rfl (by decide) rfl (fun ls hl => ?_)
      refine lv_goto (tgt := 115) hx hb dL_law_1534 (by decide) ?_
      exact hk115 _ _ (by omega) (by omega) t91 vv92 a3 ad93 x6 x8 x9 ((0 : Int32)) (x11 + (1 : Int32)) (Xt.tr hX9 q94) hW hS (lv_sub hl [2, 3, 4, 5, 6, 7, 8, 9, 10, 1, 0] rfl) h
    · have h := ite_f c100 h
      refine lv_iconst (v := (1 : Int32)) hx hb dL_law_1524 (by decide) ?_
      refine lv_goto (tgt := 1529) hx hb dL_law_1525 (by decide) ?_
      refine lv_istore (lv' := [(10, .int ((1 : Int32))), (0, .ref b), (1, .ref (ad93 0 0)), (2, .ref (ad93 100 0)), (3, .ref (ad93 101 0)), (4, .ref (ad93 102 0)), (5, .ref (ad93 103 0)), (6, .long x6), (8, .int x8), (9, .int x9), (11, .int x11), (12, .int x12)]) hx hb dL_law_1529 hl (by decide) rfl (fun ls hl => ?_)
      refine lv_iinc (v := x11 + (1 : Int32)) (lv' := [(11, .int (x11 + (1 : Int32))), (10, .int ((1 : Int32))), (0, .ref b), (1, .ref (ad93 0 0)), (2, .ref (ad93 100 0)), (3, .ref (ad93 101 0)), (4, .ref (ad93 102 0)), (5, .ref (ad93 103 0)), (6, .long x6), (8, .int x8), (9, .int x9), (12, .int x12)]) hx hb dL_law_1531 hl (k := 10) rfl rfl (by decide) rfl (fun ls hl => ?_)
      refine lv_goto (tgt := 115) hx hb dL_law_1534 (by decide) ?_
      exact hk115 _ _ (by omega) (by omega) t91 vv92 a3 ad93 x6 x8 x9 ((1 : Int32)) (x11 + (1 : Int32)) (Xt.tr hX9 q94) hW hS (lv_sub hl [2, 3, 4, 5, 6, 7, 8, 9, 10, 1, 0] rfl) h

set_option maxHeartbeats 4000000 in
set_option maxRecDepth 100000 in
theorem tL_law_1477 {p : Program} {l : Launch} {e : Env} {s : State} {m : MethodId} {below : List Frame} {meth : Method} {c : Code} {b L : Nat} {xs : Nat → Int32} {z : Nat} {G : Gl} {ad : Nat → Nat → Nat} {σ : SG} {ν : NU} {ρ : RH} {lo : Int64} (X : LCX p l e s m below meth c b L xs z G) (κ115 : SG → NU → RH → Int64 → Int32 → Int32 → Int32 → Int32 → Prop) (post : Int32 → Prop) (hpost : ∀ r, post r → r = 1) (bc115 bs115 : Nat) (hk115 : ∀ (kc ks : Nat), kc + bc115 ≤ 600104 → ks + bs115 ≤ 7301314 → ∀ (a1 : SG) (a2 : NU) (a3 : RH) (b1 : Nat → Nat → Nat) (x6 : Int64) (x8 : Int32) (x9 : Int32) (x10 : Int32) (x11 : Int32) {H : Heap} {locs : List Loc} {ls : Array Slot}, Xt ad b1 ν a2 → WP z G b1 (a1, a2, a3, lo) H → va_S (Az z) s.heap H locs → lv_has ls 23 [(0, .ref b), (1, .ref (b1 0 0)), (2, .ref (b1 100 0)), (3, .ref (b1 101 0)), (4, .ref (b1 102 0)), (5, .ref (b1 103 0)), (6, .long x6), (8, .int x8), (9, .int x9), (10, .int x10), (11, .int x11)] → κ115 a1 a2 a3 x6 x8 x9 x10 x11 → W p l e room_1 s m #[Value.ref b] below meth c H locs kc ks (lw_Z below #[Value.ref b] s) (F0 m 115 ls [])) : ∀ (kc ks : Nat), kc + 1978 + bc115 ≤ 600104 → ks + 34665 + bs115 ≤ 7301314 → kc + 1500 ≤ 600104 → ks + 28184 ≤ 7301314 → ∀ (a1 : SG) (a2 : NU) (a3 : RH) (b1 : Nat → Nat → Nat) (x6 : Int64) (x8 : Int32) (x9 : Int32) (x10 : Int32) (x11 : Int32) (x12 : Int32) (x14 : Int32) {H : Heap} {locs : List Loc} {ls : Array Slot}, Xt ad b1 ν a2 → WP z G b1 (a1, a2, a3, lo) H → va_S (Az z) s.heap H locs → lv_has ls 23 [(0, .ref b), (1, .ref (b1 0 0)), (2, .ref (b1 100 0)), (3, .ref (b1 101 0)), (4, .ref (b1 102 0)), (5, .ref (b1 103 0)), (6, .long x6), (8, .int x8), (9, .int x9), (10, .int x10), (11, .int x11), (12, .int x12), (14, .int x14)] → jL_law_1477 L xs κ115 post a1 a2 a3 x6 x8 x9 x10 x11 x12 x14 → W p l e room_1 s m #[Value.ref b] below meth c H locs kc ks (lw_Z below #[Value.ref b] s) (F0 m 1477 ls []) := by
  obtain ⟨hx, hb, hml, hown, hts, hE, hz, hlt, hX, hbl, hbA, hL, hr, hlocks, hze⟩ := id X
  intro kc ks hB1 hB2 hX1 hX2 a1 a2 a3 b1 x6 x8 x9 x10 x11 x12 x14 H locs ls hX9 hW hS hl h
  unfold jL_law_1477 at h
  refine lv_iload hx hb dL_law_1477 (lv_at hl 9 rfl) ?_
  refine r_if_eq hx hb rfl (tgt := 1528) dL_law_1479 (by decide) (fun c87 => ?_) (fun c87 => ?_)
  · have h := ite_t c87 h
    refine lv_iconst (v := (0 : Int32)) hx hb dL_law_1528 (by decide) ?_
    refine lv_istore (lv' := [(10, .int ((0 : Int32))), (0, .ref b), (1, .ref (b1 0 0)), (2, .ref (b1 100 0)), (3, .ref (b1 101 0)), (4, .ref (b1 102 0)), (5, .ref (b1 103 0)), (6, .long x6), (8, .int x8), (9, .int x9), (11, .int x11), (12, .int x12), (14, .int x14)]) hx hb dL_law_1529 hl (by decide) rfl (fun ls hl => ?_)
    refine lv_iinc (v := x11 + (1 : Int32)) (lv' := [(11, .int (x11 + (1 : Int32))), (10, .int ((0 : Int32))), (0, .ref b), (1, .ref (b1 0 0)), (2, .ref (b1 100 0)), (3, .ref (b1 101 0)), (4, .ref (b1 102 0)), (5, .ref (b1 103 0)), (6, .long x6), (8, .int x8), (9, .int x9), (12, .int x12), (14, .int x14)]) hx hb dL_law_1531 hl (k := 10) rfl rfl (by decide) rfl (fun ls hl => ?_)
    refine lv_goto (tgt := 115) hx hb dL_law_1534 (by decide) ?_
    exact hk115 _ _ (by omega) (by omega) a1 a2 a3 b1 x6 x8 x9 ((0 : Int32)) (x11 + (1 : Int32)) hX9 hW hS (lv_sub hl [2, 3, 4, 5, 6, 7, 8, 9, 10, 1, 0] rfl) h
  · have h := ite_f c87 h
    refine lv_iload hx hb dL_law_1482 (lv_at hl 10 rfl) ?_
    refine lv_iconst (v := (4 : Int32)) hx hb dL_law_1484 (by decide) ?_
    refine lv_irem hx hb dL_law_1485 (by decide) ?_
    refine r_if_gt hx hb rfl (tgt := 1504) dL_law_1486 (by decide) (fun c88 => ?_) (fun c88 => ?_)
    · have h := ite_f c88 h
      exact tL_law_1504 (σ := σ) (ρ := ρ) X κ115 post hpost bc115 bs115 hk115 _ _ (by omega) (by omega) (by omega) (by omega) a1 a2 a3 b1 x6 x8 x9 x11 x12 hX9 hW hS (lv_sub hl [0, 1, 2, 3, 4, 5, 6, 7, 8, 10, 11] rfl) h
    · have h := ite_t c88 h
      refine lv_aload_n hx hb dL_law_1489 rfl (lv_at hl 1 rfl) ?_
      refine lv_aload_n hx hb dL_law_1490 rfl (lv_at hl 2 rfl) ?_
      refine lv_aload_n hx hb dL_law_1491 rfl (lv_at hl 3 rfl) ?_
      refine lv_aload hx hb dL_law_1492 (lv_at hl 4 rfl) ?_
      refine lv_aload hx hb dL_law_1494 (lv_at hl 5 rfl) ?_
      refine lv_iload hx hb dL_law_1496 (lv_at hl 12 rfl) ?_
      refine kA_Si (rest := []) (As := [.ref (b1 0 0), .ref (b1 100 0), .ref (b1 101 0), .ref (b1 102 0), .ref (b1 103 0), .int x14]) ⟨hx, hb, hml, hown, hts⟩ hE hz hS hW (mtL_areSound l hlt z G b1 a1 a2 a3 lo x14 _ h) (va_cwS 6 hts gL_law_L_areSound rfl rfl rfl (by decide +kernel) ⟨Nat.le_of_ble_eq_true rfl, Nat.le_of_ble_eq_true rfl⟩) rfl hl.1 rfl (Nat.le_of_ble_eq_true rfl) dL_law_1498 ⟨by show _ ≤ 600104; omega, by show _ ≤ 7301314; omega⟩ (fun r101 S1 ad104 H locs hp hW hS => ?_)
      obtain ⟨t102, vv103, rfl, q105, h⟩ := hp
      have z106 : ad104 0 0 = b1 0 0 := (q105 0 0 (by decide) rfl).2
      have z107 : ad104 100 0 = b1 100 0 := (q105 100 0 (by decide) ⟨rfl, by decide, by decide⟩).2
      have z108 : ad104 101 0 = b1 101 0 := (q105 101 0 (by decide) ⟨rfl, by decide, by decide⟩).2
      have z109 : ad104 102 0 = b1 102 0 := (q105 102 0 (by decide) ⟨rfl, by decide, by decide⟩).2
      have z110 : ad104 103 0 = b1 103 0 := (q105 103 0 (by decide) ⟨rfl, by decide, by decide⟩).2
      have hl : lv_has ls 23 [(0, .ref b), (1, .ref (ad104 0 0)), (2, .ref (ad104 100 0)), (3, .ref (ad104 101 0)), (4, .ref (ad104 102 0)), (5, .ref (ad104 103 0)), (6, .long x6), (8, .int x8), (9, .int x9), (10, .int x10), (11, .int x11), (12, .int x12), (14, .int x14)] := by rw [z106, z107, z108, z109, z110]; exact hl
      refine r_if_eq hx hb rfl (tgt := 1528) dL_law_1501 (by decide) (fun c111 => ?_) (fun c111 => ?_)
      · have h := ite_t c111 h
        refine lv_iconst (v := (0 : Int32)) hx hb dL_law_1528 (by decide) ?_
        refine lv_istore (lv' := [(10, .int ((0 : Int32))), (0, .ref b), (1, .ref (ad104 0 0)), (2, .ref (ad104 100 0)), (3, .ref (ad104 101 0)), (4, .ref (ad104 102 0)), (5, .ref (ad104 103 0)), (6, .long x6), (8, .int x8), (9, .int x9), (11, .int x11), (12, .int x12), (14, .int x14)]) hx hb dL_law_1529 hl (by decide) rfl (fun ls hl => ?_)
        refine lv_iinc (v := x11 + (1 : Int32)) (lv' := [(11, .int (x11 + (1 : Int32))), (10, .int ((0 : Int32))), (0, .ref b), (1, .ref (ad104 0 0)), (2, .ref (ad104 100 0)), (3, .ref (ad104 101 0)), (4, .ref (ad104 102 0)), (5, .ref (ad104 103 0)), (6, .long x6), (8, .int x8), (9, .int x9), (12, .int x12), (14, .int x14)]) hx hb dL_law_1531 hl (k := 10) rfl rfl (by decide) rfl (fun ls hl => ?_)
        refine lv_goto (tgt := 115) hx hb dL_law_1534 (by decide) ?_
        exact hk115 _ _ (by omega) (by omega) t102 vv103 a3 ad104 x6 x8 x9 ((0 : Int32)) (x11 + (1 : Int32)) (Xt.tr hX9 q105) hW hS (lv_sub hl [2, 3, 4, 5, 6, 7, 8, 9, 10, 1, 0] rfl) h
      · have h := ite_f c111 h
        exact tL_law_1504 (σ := σ) (ρ := ρ) X κ115 post hpost bc115 bs115 hk115 _ _ (by omega) (by omega) (by omega) (by omega) t102 vv103 a3 ad104 x6 x8 x9 x11 x12 (Xt.tr hX9 q105) hW hS (lv_sub hl [0, 1, 2, 3, 4, 5, 6, 7, 8, 10, 11] rfl) h

set_option maxHeartbeats 4000000 in
set_option maxRecDepth 100000 in
theorem tL_law_236 {p : Program} {l : Launch} {e : Env} {s : State} {m : MethodId} {below : List Frame} {meth : Method} {c : Code} {b L : Nat} {xs : Nat → Int32} {z : Nat} {G : Gl} {ad : Nat → Nat → Nat} {σ : SG} {ν : NU} {ρ : RH} {lo : Int64} (X : LCX p l e s m below meth c b L xs z G) (κ115 : SG → NU → RH → Int64 → Int32 → Int32 → Int32 → Int32 → Prop) (post : Int32 → Prop) (hpost : ∀ r, post r → r = 1) (bc115 bs115 : Nat) (hk115 : ∀ (kc ks : Nat), kc + bc115 ≤ 600104 → ks + bs115 ≤ 7301314 → ∀ (a1 : SG) (a2 : NU) (a3 : RH) (b1 : Nat → Nat → Nat) (x6 : Int64) (x8 : Int32) (x9 : Int32) (x10 : Int32) (x11 : Int32) {H : Heap} {locs : List Loc} {ls : Array Slot}, Xt ad b1 ν a2 → WP z G b1 (a1, a2, a3, lo) H → va_S (Az z) s.heap H locs → lv_has ls 23 [(0, .ref b), (1, .ref (b1 0 0)), (2, .ref (b1 100 0)), (3, .ref (b1 101 0)), (4, .ref (b1 102 0)), (5, .ref (b1 103 0)), (6, .long x6), (8, .int x8), (9, .int x9), (10, .int x10), (11, .int x11)] → κ115 a1 a2 a3 x6 x8 x9 x10 x11 → W p l e room_1 s m #[Value.ref b] below meth c H locs kc ks (lw_Z below #[Value.ref b] s) (F0 m 115 ls [])) : ∀ (kc ks : Nat), kc + 1978 + bc115 ≤ 600104 → ks + 34665 + bs115 ≤ 7301314 → kc + 1500 ≤ 600104 → ks + 28184 ≤ 7301314 → ∀ (a1 : SG) (a2 : NU) (a3 : RH) (b1 : Nat → Nat → Nat) (x6 : Int64) (x8 : Int32) (x9 : Int32) (x10 : Int32) (x11 : Int32) (x12 : Int32) (x14 : Int32) (x16 : Int32) (y0 : Nat) (y2 : Int32) {H : Heap} {locs : List Loc} {ls : Array Slot}, Xt ad b1 ν a2 → WP z G b1 (a1, a2, a3, lo) H → va_S (Az z) s.heap H locs → lv_has ls 23 [(0, .ref b), (1, .ref (b1 0 0)), (2, .ref (b1 100 0)), (3, .ref (b1 101 0)), (4, .ref (b1 102 0)), (5, .ref (b1 103 0)), (6, .long x6), (8, .int x8), (9, .int x9), (10, .int x10), (11, .int x11), (12, .int x12), (14, .int x14), (16, .int x16)] → jL_law_236 L xs κ115 post a1 a2 a3 x6 x8 x9 x10 x11 x12 x14 x16 y0 y2 → W p l e room_1 s m #[Value.ref b] below meth c H locs kc ks (lw_Z below #[Value.ref b] s) (F0 m 236 ls [.int y2, .int ((4 : Int32)), .ref (b1 100 0)]) := by
  obtain ⟨hx, hb, hml, hown, hts, hE, hz, hlt, hX, hbl, hbA, hL, hr, hlocks, hze⟩ := id X
  intro kc ks hB1 hB2 hX1 hX2 a1 a2 a3 b1 x6 x8 x9 x10 x11 x12 x14 x16 y0 y2 H locs ls hX9 hW hS hl h
  unfold jL_law_236 at h
  obtain ⟨b79, h⟩ := h
  refine r_iastM hx hb hE hW hS 0 (k := 100) rfl ⟨rfl, by decide, by decide⟩ (n := 14) (fun _ => rfl) (fun _ _ => rfl) b79 dL_law_236 (fun t80 e81 H locs hW hS => ?_)
  have h := h t80 e81
  refine lv_aload_n hx hb dL_law_237 rfl (lv_at hl 2 rfl) ?_
  refine lv_iconst (v := (1 : Int32)) hx hb dL_law_238 (by decide) ?_
  refine lv_dup2_11 hx hb dL_law_239 rfl rfl ?_
  obtain ⟨b82, h⟩ := h
  refine r_iald hx hb hE hW 100 0 ⟨rfl, by decide, by decide⟩ (n := 14) (f := t80 0) rfl b82 (v := t80 0 ((1 : Int32)).toNatClampNeg) rfl dL_law_240 ?_
  refine lv_iload hx hb dL_law_241 (lv_at hl 13 rfl) ?_
  refine r_if_ge hx hb rfl (tgt := 250) dL_law_243 (by decide) (fun c83 => ?_) (fun c83 => ?_)
  · have h := ite_f c83 h
    refine lv_iconst (v := (1 : Int32)) hx hb dL_law_250 (by decide) ?_
    refine lv_iadd hx hb dL_law_251 ?_
    obtain ⟨b84, h⟩ := h
    refine r_iastM hx hb hE hW hS 0 (k := 100) rfl ⟨rfl, by decide, by decide⟩ (n := 14) (fun _ => rfl) (fun _ _ => rfl) b84 dL_law_252 (fun t85 e86 H locs hW hS => ?_)
    have h := h t85 e86
    refine lv_goto (tgt := 1477) hx hb dL_law_253 (by decide) ?_
    exact tL_law_1477 (σ := σ) (ρ := ρ) X κ115 post hpost bc115 bs115 hk115 _ _ (by omega) (by omega) (by omega) (by omega) a1 a2 t85 b1 x6 x8 x9 x10 x11 x12 x14 hX9 hW hS (lv_sub hl [0, 1, 2, 3, 4, 5, 6, 7, 8, 9, 10, 11, 12] rfl) h
  · have h := ite_t c83 h
    refine lv_iconst (v := (0 : Int32)) hx hb dL_law_246 (by decide) ?_
    refine lv_goto (tgt := 251) hx hb dL_law_247 (by decide) ?_
    refine lv_iadd hx hb dL_law_251 ?_
    obtain ⟨b112, h⟩ := h
    refine r_iastM hx hb hE hW hS 0 (k := 100) rfl ⟨rfl, by decide, by decide⟩ (n := 14) (fun _ => rfl) (fun _ _ => rfl) b112 dL_law_252 (fun t113 e114 H locs hW hS => ?_)
    have h := h t113 e114
    refine lv_goto (tgt := 1477) hx hb dL_law_253 (by decide) ?_
    exact tL_law_1477 (σ := σ) (ρ := ρ) X κ115 post hpost bc115 bs115 hk115 _ _ (by omega) (by omega) (by omega) (by omega) a1 a2 t113 b1 x6 x8 x9 x10 x11 x12 x14 hX9 hW hS (lv_sub hl [0, 1, 2, 3, 4, 5, 6, 7, 8, 9, 10, 11, 12] rfl) h

set_option maxHeartbeats 4000000 in
set_option maxRecDepth 100000 in
theorem tL_law_218 {p : Program} {l : Launch} {e : Env} {s : State} {m : MethodId} {below : List Frame} {meth : Method} {c : Code} {b L : Nat} {xs : Nat → Int32} {z : Nat} {G : Gl} {ad : Nat → Nat → Nat} {σ : SG} {ν : NU} {ρ : RH} {lo : Int64} (X : LCX p l e s m below meth c b L xs z G) (κ115 : SG → NU → RH → Int64 → Int32 → Int32 → Int32 → Int32 → Prop) (post : Int32 → Prop) (hpost : ∀ r, post r → r = 1) (bc115 bs115 : Nat) (hk115 : ∀ (kc ks : Nat), kc + bc115 ≤ 600104 → ks + bs115 ≤ 7301314 → ∀ (a1 : SG) (a2 : NU) (a3 : RH) (b1 : Nat → Nat → Nat) (x6 : Int64) (x8 : Int32) (x9 : Int32) (x10 : Int32) (x11 : Int32) {H : Heap} {locs : List Loc} {ls : Array Slot}, Xt ad b1 ν a2 → WP z G b1 (a1, a2, a3, lo) H → va_S (Az z) s.heap H locs → lv_has ls 23 [(0, .ref b), (1, .ref (b1 0 0)), (2, .ref (b1 100 0)), (3, .ref (b1 101 0)), (4, .ref (b1 102 0)), (5, .ref (b1 103 0)), (6, .long x6), (8, .int x8), (9, .int x9), (10, .int x10), (11, .int x11)] → κ115 a1 a2 a3 x6 x8 x9 x10 x11 → W p l e room_1 s m #[Value.ref b] below meth c H locs kc ks (lw_Z below #[Value.ref b] s) (F0 m 115 ls [])) : ∀ (kc ks : Nat), kc + 1978 + bc115 ≤ 600104 → ks + 34665 + bs115 ≤ 7301314 → kc + 1500 ≤ 600104 → ks + 28184 ≤ 7301314 → ∀ (a1 : SG) (a2 : NU) (a3 : RH) (b1 : Nat → Nat → Nat) (x6 : Int64) (x8 : Int32) (x9 : Int32) (x11 : Int32) (x12 : Int32) (x14 : Int32) (x16 : Int32) (y0 : Int32) {H : Heap} {locs : List Loc} {ls : Array Slot}, Xt ad b1 ν a2 → WP z G b1 (a1, a2, a3, lo) H → va_S (Az z) s.heap H locs → lv_has ls 23 [(0, .ref b), (1, .ref (b1 0 0)), (2, .ref (b1 100 0)), (3, .ref (b1 101 0)), (4, .ref (b1 102 0)), (5, .ref (b1 103 0)), (6, .long x6), (8, .int x8), (9, .int x9), (11, .int x11), (12, .int x12), (14, .int x14), (16, .int x16)] → jL_law_218 L xs κ115 post a1 a2 a3 x6 x8 x9 x11 x12 x14 x16 y0 → W p l e room_1 s m #[Value.ref b] below meth c H locs kc ks (lw_Z below #[Value.ref b] s) (F0 m 218 ls [.int y0]) := by
  obtain ⟨hx, hb, hml, hown, hts, hE, hz, hlt, hX, hbl, hbA, hL, hr, hlocks, hze⟩ := id X
  intro kc ks hB1 hB2 hX1 hX2 a1 a2 a3 b1 x6 x8 x9 x11 x12 x14 x16 y0 H locs ls hX9 hW hS hl h
  unfold jL_law_218 at h
  refine lv_istore (lv' := [(10, .int y0), (0, .ref b), (1, .ref (b1 0 0)), (2, .ref (b1 100 0)), (3, .ref (b1 101 0)), (4, .ref (b1 102 0)), (5, .ref (b1 103 0)), (6, .long x6), (8, .int x8), (9, .int x9), (11, .int x11), (12, .int x12), (14, .int x14), (16, .int x16)]) hx hb dL_law_218 hl (by decide) rfl (fun ls hl => ?_)
  refine lv_aload_n hx hb dL_law_220 rfl (lv_at hl 3 rfl) ?_
  refine lv_iconst (v := (4 : Int32)) hx hb dL_law_221 (by decide) ?_
  refine lv_iload hx hb dL_law_222 (lv_at hl 13 rfl) ?_
  refine r_if_ge hx hb rfl (tgt := 233) dL_law_224 (by decide) (fun c77 => ?_) (fun c77 => ?_)
  · have h := ite_f c77 h
    refine lv_aload_n hx hb dL_law_233 rfl (lv_at hl 3 rfl) ?_
    refine lv_iconst (v := (0 : Int32)) hx hb dL_law_234 (by decide) ?_
    obtain ⟨b78, h⟩ := h
    refine r_iald hx hb hE hW 100 0 ⟨rfl, by decide, by decide⟩ (n := 14) (f := a3 0) rfl b78 (v := a3 0 ((0 : Int32)).toNatClampNeg) rfl dL_law_235 ?_
    exact tL_law_236 (σ := σ) (ρ := ρ) X κ115 post hpost bc115 bs115 hk115 _ _ (by omega) (by omega) (by omega) (by omega) a1 a2 a3 b1 x6 x8 x9 y0 x11 x12 x14 x16 0 (a3 0 ((0 : Int32)).toNatClampNeg) hX9 hW hS (lv_sub hl [1, 2, 3, 4, 5, 6, 7, 8, 9, 0, 10, 11, 12, 13] rfl) h
  · have h := ite_t c77 h
    refine lv_aload_n hx hb dL_law_227 rfl (lv_at hl 3 rfl) ?_
    refine lv_iconst (v := (4 : Int32)) hx hb dL_law_228 (by decide) ?_
    obtain ⟨b115, h⟩ := h
    refine r_iald hx hb hE hW 100 0 ⟨rfl, by decide, by decide⟩ (n := 14) (f := a3 0) rfl b115 (v := a3 0 ((4 : Int32)).toNatClampNeg) rfl dL_law_229 ?_
    refine lv_goto (tgt := 236) hx hb dL_law_230 (by decide) ?_
    exact tL_law_236 (σ := σ) (ρ := ρ) X κ115 post hpost bc115 bs115 hk115 _ _ (by omega) (by omega) (by omega) (by omega) a1 a2 a3 b1 x6 x8 x9 y0 x11 x12 x14 x16 0 (a3 0 ((4 : Int32)).toNatClampNeg) hX9 hW hS (lv_sub hl [1, 2, 3, 4, 5, 6, 7, 8, 9, 0, 10, 11, 12, 13] rfl) h

set_option maxHeartbeats 4000000 in
set_option maxRecDepth 100000 in
theorem tL_law_210 {p : Program} {l : Launch} {e : Env} {s : State} {m : MethodId} {below : List Frame} {meth : Method} {c : Code} {b L : Nat} {xs : Nat → Int32} {z : Nat} {G : Gl} {ad : Nat → Nat → Nat} {σ : SG} {ν : NU} {ρ : RH} {lo : Int64} (X : LCX p l e s m below meth c b L xs z G) (κ115 : SG → NU → RH → Int64 → Int32 → Int32 → Int32 → Int32 → Prop) (post : Int32 → Prop) (hpost : ∀ r, post r → r = 1) (bc115 bs115 : Nat) (hk115 : ∀ (kc ks : Nat), kc + bc115 ≤ 600104 → ks + bs115 ≤ 7301314 → ∀ (a1 : SG) (a2 : NU) (a3 : RH) (b1 : Nat → Nat → Nat) (x6 : Int64) (x8 : Int32) (x9 : Int32) (x10 : Int32) (x11 : Int32) {H : Heap} {locs : List Loc} {ls : Array Slot}, Xt ad b1 ν a2 → WP z G b1 (a1, a2, a3, lo) H → va_S (Az z) s.heap H locs → lv_has ls 23 [(0, .ref b), (1, .ref (b1 0 0)), (2, .ref (b1 100 0)), (3, .ref (b1 101 0)), (4, .ref (b1 102 0)), (5, .ref (b1 103 0)), (6, .long x6), (8, .int x8), (9, .int x9), (10, .int x10), (11, .int x11)] → κ115 a1 a2 a3 x6 x8 x9 x10 x11 → W p l e room_1 s m #[Value.ref b] below meth c H locs kc ks (lw_Z below #[Value.ref b] s) (F0 m 115 ls [])) : ∀ (kc ks : Nat), kc + 1978 + bc115 ≤ 600104 → ks + 34665 + bs115 ≤ 7301314 → kc + 1500 ≤ 600104 → ks + 28184 ≤ 7301314 → ∀ (a1 : SG) (a2 : NU) (a3 : RH) (b1 : Nat → Nat → Nat) (x6 : Int64) (x8 : Int32) (x9 : Int32) (x11 : Int32) (x12 : Int32) (x14 : Int32) (x16 : Int32) (y0 : Int32) (y1 : Int32) {H : Heap} {locs : List Loc} {ls : Array Slot}, Xt ad b1 ν a2 → WP z G b1 (a1, a2, a3, lo) H → va_S (Az z) s.heap H locs → lv_has ls 23 [(0, .ref b), (1, .ref (b1 0 0)), (2, .ref (b1 100 0)), (3, .ref (b1 101 0)), (4, .ref (b1 102 0)), (5, .ref (b1 103 0)), (6, .long x6), (8, .int x8), (9, .int x9), (11, .int x11), (12, .int x12), (14, .int x14), (16, .int x16)] → jL_law_210 L xs κ115 post a1 a2 a3 x6 x8 x9 x11 x12 x14 x16 y0 y1 → W p l e room_1 s m #[Value.ref b] below meth c H locs kc ks (lw_Z below #[Value.ref b] s) (F0 m 210 ls [.int y1, .int y0]) := by
  obtain ⟨hx, hb, hml, hown, hts, hE, hz, hlt, hX, hbl, hbA, hL, hr, hlocks, hze⟩ := id X
  intro kc ks hB1 hB2 hX1 hX2 a1 a2 a3 b1 x6 x8 x9 x11 x12 x14 x16 y0 y1 H locs ls hX9 hW hS hl h
  unfold jL_law_210 at h
  refine r_icmp_ne hx hb rfl rfl (tgt := 217) dL_law_210 (by decide) (fun c76 => ?_) (fun c76 => ?_)
  · have h := ite_f c76 h
    refine lv_iconst (v := (0 : Int32)) hx hb dL_law_217 (by decide) ?_
    exact tL_law_218 (σ := σ) (ρ := ρ) X κ115 post hpost bc115 bs115 hk115 _ _ (by omega) (by omega) (by omega) (by omega) a1 a2 a3 b1 x6 x8 x9 x11 x12 x14 x16 ((0 : Int32)) hX9 hW hS (lv_sub hl [0, 1, 2, 3, 4, 5, 6, 7, 8, 9, 10, 11, 12] rfl) h
  · have h := ite_t c76 h
    refine lv_iconst (v := (1 : Int32)) hx hb dL_law_213 (by decide) ?_
    refine lv_goto (tgt := 218) hx hb dL_law_214 (by decide) ?_
    exact tL_law_218 (σ := σ) (ρ := ρ) X κ115 post hpost bc115 bs115 hk115 _ _ (by omega) (by omega) (by omega) (by omega) a1 a2 a3 b1 x6 x8 x9 x11 x12 x14 x16 ((1 : Int32)) hX9 hW hS (lv_sub hl [0, 1, 2, 3, 4, 5, 6, 7, 8, 9, 10, 11, 12] rfl) h

set_option maxHeartbeats 4000000 in
set_option maxRecDepth 100000 in
theorem tL_law_180 {p : Program} {l : Launch} {e : Env} {s : State} {m : MethodId} {below : List Frame} {meth : Method} {c : Code} {b L : Nat} {xs : Nat → Int32} {z : Nat} {G : Gl} {ad : Nat → Nat → Nat} {σ : SG} {ν : NU} {ρ : RH} {lo : Int64} (X : LCX p l e s m below meth c b L xs z G) (κ115 : SG → NU → RH → Int64 → Int32 → Int32 → Int32 → Int32 → Prop) (post : Int32 → Prop) (hpost : ∀ r, post r → r = 1) (bc115 bs115 : Nat) (hk115 : ∀ (kc ks : Nat), kc + bc115 ≤ 600104 → ks + bs115 ≤ 7301314 → ∀ (a1 : SG) (a2 : NU) (a3 : RH) (b1 : Nat → Nat → Nat) (x6 : Int64) (x8 : Int32) (x9 : Int32) (x10 : Int32) (x11 : Int32) {H : Heap} {locs : List Loc} {ls : Array Slot}, Xt ad b1 ν a2 → WP z G b1 (a1, a2, a3, lo) H → va_S (Az z) s.heap H locs → lv_has ls 23 [(0, .ref b), (1, .ref (b1 0 0)), (2, .ref (b1 100 0)), (3, .ref (b1 101 0)), (4, .ref (b1 102 0)), (5, .ref (b1 103 0)), (6, .long x6), (8, .int x8), (9, .int x9), (10, .int x10), (11, .int x11)] → κ115 a1 a2 a3 x6 x8 x9 x10 x11 → W p l e room_1 s m #[Value.ref b] below meth c H locs kc ks (lw_Z below #[Value.ref b] s) (F0 m 115 ls [])) : ∀ (kc ks : Nat), kc + 1979 + bc115 ≤ 600104 → ks + 34671 + bs115 ≤ 7301314 → kc + 1501 ≤ 600104 → ks + 28190 ≤ 7301314 → ∀ (a1 : SG) (a2 : NU) (a3 : RH) (b1 : Nat → Nat → Nat) (x6 : Int64) (x8 : Int32) (x9 : Int32) (x11 : Int32) (x12 : Int32) (x14 : Int32) {H : Heap} {locs : List Loc} {ls : Array Slot}, Xt ad b1 ν a2 → WP z G b1 (a1, a2, a3, lo) H → va_S (Az z) s.heap H locs → lv_has ls 23 [(0, .ref b), (1, .ref (b1 0 0)), (2, .ref (b1 100 0)), (3, .ref (b1 101 0)), (4, .ref (b1 102 0)), (5, .ref (b1 103 0)), (6, .long x6), (8, .int x8), (9, .int x9), (11, .int x11), (12, .int x12), (14, .int x14)] → jL_law_180 L xs κ115 post a1 a2 a3 x6 x8 x9 x11 x12 x14 → W p l e room_1 s m #[Value.ref b] below meth c H locs kc ks (lw_Z below #[Value.ref b] s) (F0 m 180 ls []) := by
  obtain ⟨hx, hb, hml, hown, hts, hE, hz, hlt, hX, hbl, hbA, hL, hr, hlocks, hze⟩ := id X
  intro kc ks hB1 hB2 hX1 hX2 a1 a2 a3 b1 x6 x8 x9 x11 x12 x14 H locs ls hX9 hW hS hl h
  unfold jL_law_180 at h
  refine lv_aload_n hx hb dL_law_180 rfl (lv_at hl 1 rfl) ?_
  refine lv_iconst (v := (1 : Int32)) hx hb dL_law_181 (by decide) ?_
  refine lv_iconst (v := (0 : Int32)) hx hb dL_law_182 (by decide) ?_
  refine lv_iconst (v := (0 : Int32)) hx hb dL_law_183 (by decide) ?_
  refine lv_iconst (v := (0 : Int32)) hx hb dL_law_184 (by decide) ?_
  refine lv_iconst (v := (0 : Int32)) hx hb dL_law_185 (by decide) ?_
  refine kW_Si (rest := []) (As := [.ref (b1 0 0), .int ((1 : Int32)), .int ((0 : Int32)), .int ((0 : Int32)), .int ((0 : Int32)), .int ((0 : Int32))]) ⟨hx, hb, hml, hown, hts⟩ hE hz hS hW (mtL_does_1 l hlt z G b1 a1 a2 a3 lo ((0 : Int32)) ((0 : Int32)) ((0 : Int32)) ((0 : Int32)) _ h) (vx_cwSW 6 hts gL_law_L_does rfl rfl rfl (by decide +kernel) ⟨Nat.le_of_ble_eq_true rfl, Nat.le_of_ble_eq_true rfl⟩) rfl hl.1 rfl (Nat.le_of_ble_eq_true rfl) dL_law_186 ⟨by show _ ≤ 600104; omega, by show _ ≤ 7301314; omega⟩ (fun r71 S1 H locs hp hW hS => ?_)
  obtain ⟨t72, rfl, h⟩ := hp
  refine lv_istore (lv' := [(16, .int r71), (0, .ref b), (1, .ref (b1 0 0)), (2, .ref (b1 100 0)), (3, .ref (b1 101 0)), (4, .ref (b1 102 0)), (5, .ref (b1 103 0)), (6, .long x6), (8, .int x8), (9, .int x9), (11, .int x11), (12, .int x12), (14, .int x14)]) hx hb dL_law_189 hl (by decide) rfl (fun ls hl => ?_)
  refine lv_iload hx hb dL_law_191 (lv_at hl 0 rfl) ?_
  refine lv_aload_n hx hb dL_law_193 rfl (lv_at hl 3 rfl) ?_
  refine lv_iconst (v := (1 : Int32)) hx hb dL_law_194 (by decide) ?_
  obtain ⟨b73, h⟩ := h
  refine r_iald hx hb hE hW 100 0 ⟨rfl, by decide, by decide⟩ (n := 14) (f := a3 0) rfl b73 (v := a3 0 ((1 : Int32)).toNatClampNeg) rfl dL_law_195 ?_
  refine lv_bipush (v := (10 : Int32)) hx hb dL_law_196 (by decide) ?_
  refine r_icmp_ne hx hb rfl (show (10 : Int32).toInt = 10 by decide) (tgt := 207) dL_law_198 (by decide) (fun c74 => ?_) (fun c74 => ?_)
  · have h := ite_f c74 h
    refine lv_aload_n hx hb dL_law_207 rfl (lv_at hl 3 rfl) ?_
    refine lv_iconst (v := (1 : Int32)) hx hb dL_law_208 (by decide) ?_
    obtain ⟨b75, h⟩ := h
    refine r_iald hx hb hE hW 100 0 ⟨rfl, by decide, by decide⟩ (n := 14) (f := a3 0) rfl b75 (v := a3 0 ((1 : Int32)).toNatClampNeg) rfl dL_law_209 ?_
    exact tL_law_210 (σ := σ) (ρ := ρ) X κ115 post hpost bc115 bs115 hk115 _ _ (by omega) (by omega) (by omega) (by omega) t72 a2 a3 b1 x6 x8 x9 x11 x12 x14 r71 r71 (a3 0 ((1 : Int32)).toNatClampNeg) hX9 hW hS (lv_sub hl [1, 2, 3, 4, 5, 6, 7, 8, 9, 10, 11, 12, 0] rfl) h
  · have h := ite_t c74 h
    refine lv_sipush (v := (-1383 : Int32)) hx hb dL_law_201 (by decide) ?_
    refine lv_goto (tgt := 210) hx hb dL_law_204 (by decide) ?_
    exact tL_law_210 (σ := σ) (ρ := ρ) X κ115 post hpost bc115 bs115 hk115 _ _ (by omega) (by omega) (by omega) (by omega) t72 a2 a3 b1 x6 x8 x9 x11 x12 x14 r71 r71 ((-1383 : Int32)) hX9 hW hS (lv_sub hl [1, 2, 3, 4, 5, 6, 7, 8, 9, 10, 11, 12, 0] rfl) h

set_option maxHeartbeats 4000000 in
set_option maxRecDepth 100000 in
theorem tL_law_1386 {p : Program} {l : Launch} {e : Env} {s : State} {m : MethodId} {below : List Frame} {meth : Method} {c : Code} {b L : Nat} {xs : Nat → Int32} {z : Nat} {G : Gl} {ad : Nat → Nat → Nat} {σ : SG} {ν : NU} {ρ : RH} {lo : Int64} (X : LCX p l e s m below meth c b L xs z G) (κ115 : SG → NU → RH → Int64 → Int32 → Int32 → Int32 → Int32 → Prop) (post : Int32 → Prop) (hpost : ∀ r, post r → r = 1) (bc115 bs115 : Nat) (hk115 : ∀ (kc ks : Nat), kc + bc115 ≤ 600104 → ks + bs115 ≤ 7301314 → ∀ (a1 : SG) (a2 : NU) (a3 : RH) (b1 : Nat → Nat → Nat) (x6 : Int64) (x8 : Int32) (x9 : Int32) (x10 : Int32) (x11 : Int32) {H : Heap} {locs : List Loc} {ls : Array Slot}, Xt ad b1 ν a2 → WP z G b1 (a1, a2, a3, lo) H → va_S (Az z) s.heap H locs → lv_has ls 23 [(0, .ref b), (1, .ref (b1 0 0)), (2, .ref (b1 100 0)), (3, .ref (b1 101 0)), (4, .ref (b1 102 0)), (5, .ref (b1 103 0)), (6, .long x6), (8, .int x8), (9, .int x9), (10, .int x10), (11, .int x11)] → κ115 a1 a2 a3 x6 x8 x9 x10 x11 → W p l e room_1 s m #[Value.ref b] below meth c H locs kc ks (lw_Z below #[Value.ref b] s) (F0 m 115 ls [])) : ∀ (kc ks : Nat), kc + 1989 + bc115 ≤ 600104 → ks + 34840 + bs115 ≤ 7301314 → kc + 1511 ≤ 600104 → ks + 28359 ≤ 7301314 → ∀ (a1 : SG) (a2 : NU) (a3 : RH) (b1 : Nat → Nat → Nat) (x6 : Int64) (x8 : Int32) (x9 : Int32) (x11 : Int32) (x12 : Int32) (x14 : Int32) (y0 : Int32) {H : Heap} {locs : List Loc} {ls : Array Slot}, Xt ad b1 ν a2 → WP z G b1 (a1, a2, a3, lo) H → va_S (Az z) s.heap H locs → lv_has ls 23 [(0, .ref b), (1, .ref (b1 0 0)), (2, .ref (b1 100 0)), (3, .ref (b1 101 0)), (4, .ref (b1 102 0)), (5, .ref (b1 103 0)), (6, .long x6), (8, .int x8), (9, .int x9), (11, .int x11), (12, .int x12), (14, .int x14)] → jL_law_1386 L xs κ115 post a1 a2 a3 x6 x8 x9 x11 x12 x14 y0 → W p l e room_1 s m #[Value.ref b] below meth c H locs kc ks (lw_Z below #[Value.ref b] s) (F0 m 1386 ls [.int y0]) := by
  obtain ⟨hx, hb, hml, hown, hts, hE, hz, hlt, hX, hbl, hbA, hL, hr, hlocks, hze⟩ := id X
  intro kc ks hB1 hB2 hX1 hX2 a1 a2 a3 b1 x6 x8 x9 x11 x12 x14 y0 H locs ls hX9 hW hS hl h
  unfold jL_law_1386 at h
  refine lv_istore (lv' := [(16, .int y0), (0, .ref b), (1, .ref (b1 0 0)), (2, .ref (b1 100 0)), (3, .ref (b1 101 0)), (4, .ref (b1 102 0)), (5, .ref (b1 103 0)), (6, .long x6), (8, .int x8), (9, .int x9), (11, .int x11), (12, .int x12), (14, .int x14)]) hx hb dL_law_1386 hl (by decide) rfl (fun ls hl => ?_)
  refine lv_aload_n hx hb dL_law_1388 rfl (lv_at hl 2 rfl) ?_
  refine lv_aload_n hx hb dL_law_1389 rfl (lv_at hl 3 rfl) ?_
  refine lv_iload hx hb dL_law_1390 (lv_at hl 12 rfl) ?_
  refine lv_sipush (v := (300 : Int32)) hx hb dL_law_1392 (by decide) ?_
  refine lv_idiv hx hb dL_law_1395 (by decide) ?_
  refine lv_bipush (v := (100 : Int32)) hx hb dL_law_1396 (by decide) ?_
  refine lv_irem hx hb dL_law_1398 (by decide) ?_
  refine lv_iload hx hb dL_law_1399 (lv_at hl 0 rfl) ?_
  refine lv_iload hx hb dL_law_1401 (lv_at hl 12 rfl) ?_
  refine lv_sipush (v := (30000 : Int32)) hx hb dL_law_1403 (by decide) ?_
  refine lv_idiv hx hb dL_law_1406 (by decide) ?_
  refine lv_iconst (v := (3 : Int32)) hx hb dL_law_1407 (by decide) ?_
  refine lv_irem hx hb dL_law_1408 (by decide) ?_
  refine kA_Si (rest := []) (As := [.ref (b1 0 0), .ref (b1 100 0), .int ((x14 / ((300 : Int32))) - (x14 / ((300 : Int32))) / ((100 : Int32)) * ((100 : Int32))), .int y0, .int ((x14 / ((30000 : Int32))) - (x14 / ((30000 : Int32))) / ((3 : Int32)) * ((3 : Int32)))]) ⟨hx, hb, hml, hown, hts⟩ hE hz hS hW (mtL_isLooked l hlt z G b1 a1 a2 a3 lo ((x14 / ((300 : Int32))) - (x14 / ((300 : Int32))) / ((100 : Int32)) * ((100 : Int32))) y0 ((x14 / ((30000 : Int32))) - (x14 / ((30000 : Int32))) / ((3 : Int32)) * ((3 : Int32))) _ h) (va_cwS 5 hts gL_law_L_isLooked rfl rfl rfl (by decide +kernel) ⟨Nat.le_of_ble_eq_true rfl, Nat.le_of_ble_eq_true rfl⟩) rfl hl.1 rfl (Nat.le_of_ble_eq_true rfl) dL_law_1409 ⟨by show _ ≤ 600104; omega, by show _ ≤ 7301314; omega⟩ (fun r127 S1 ad131 H locs hp hW hS => ?_)
  obtain ⟨t128, vv129, rr130, rfl, q132, h⟩ := hp
  have z133 : ad131 0 0 = b1 0 0 := (q132 0 0 (by decide) rfl).2
  have z134 : ad131 100 0 = b1 100 0 := (q132 100 0 (by decide) ⟨rfl, by decide, by decide⟩).2
  have z135 : ad131 101 0 = b1 101 0 := (q132 101 0 (by decide) ⟨rfl, by decide, by decide⟩).2
  have z136 : ad131 102 0 = b1 102 0 := (q132 102 0 (by decide) ⟨rfl, by decide, by decide⟩).2
  have z137 : ad131 103 0 = b1 103 0 := (q132 103 0 (by decide) ⟨rfl, by decide, by decide⟩).2
  have hl : lv_has ls 23 [(16, .int y0), (0, .ref b), (1, .ref (ad131 0 0)), (2, .ref (ad131 100 0)), (3, .ref (ad131 101 0)), (4, .ref (ad131 102 0)), (5, .ref (ad131 103 0)), (6, .long x6), (8, .int x8), (9, .int x9), (11, .int x11), (12, .int x12), (14, .int x14)] := by rw [z133, z134, z135, z136, z137]; exact hl
  refine lv_istore (lv' := [(10, .int r127), (16, .int y0), (0, .ref b), (1, .ref (ad131 0 0)), (2, .ref (ad131 100 0)), (3, .ref (ad131 101 0)), (4, .ref (ad131 102 0)), (5, .ref (ad131 103 0)), (6, .long x6), (8, .int x8), (9, .int x9), (11, .int x11), (12, .int x12), (14, .int x14)]) hx hb dL_law_1412 hl (by decide) rfl (fun ls hl => ?_)
  refine lv_iload hx hb dL_law_1414 (lv_at hl 0 rfl) ?_
  refine r_if_eq hx hb rfl (tgt := 1477) dL_law_1416 (by decide) (fun c138 => ?_) (fun c138 => ?_)
  · have h := ite_t c138 h
    exact tL_law_1477 (σ := σ) (ρ := ρ) X κ115 post hpost bc115 bs115 hk115 _ _ (by omega) (by omega) (by omega) (by omega) t128 vv129 rr130 ad131 x6 x8 x9 r127 x11 x12 x14 (Xt.tr hX9 q132) hW hS (lv_sub hl [2, 3, 4, 5, 6, 7, 8, 9, 10, 0, 11, 12, 13] rfl) h
  · have h := ite_f c138 h
    refine lv_iload hx hb dL_law_1419 (lv_at hl 1 rfl) ?_
    refine lv_aload_n hx hb dL_law_1421 rfl (lv_at hl 4 rfl) ?_
    refine lv_iconst (v := (0 : Int32)) hx hb dL_law_1422 (by decide) ?_
    obtain ⟨b139, h⟩ := h
    refine r_iald hx hb hE hW 100 0 ⟨rfl, by decide, by decide⟩ (n := 14) (f := rr130 0) rfl b139 (v := rr130 0 ((0 : Int32)).toNatClampNeg) rfl dL_law_1423 ?_
    refine r_icmp_ge hx hb rfl rfl (tgt := 1477) dL_law_1424 (by decide) (fun c140 => ?_) (fun c140 => ?_)
    · have h := ite_f c140 h
      exact tL_law_1477 (σ := σ) (ρ := ρ) X κ115 post hpost bc115 bs115 hk115 _ _ (by omega) (by omega) (by omega) (by omega) t128 vv129 rr130 ad131 x6 x8 x9 r127 x11 x12 x14 (Xt.tr hX9 q132) hW hS (lv_sub hl [2, 3, 4, 5, 6, 7, 8, 9, 10, 0, 11, 12, 13] rfl) h
    · have h := ite_t c140 h
      refine lv_iload hx hb dL_law_1427 (lv_at hl 10 rfl) ?_
      refine r_if_ge hx hb rfl (tgt := 1477) dL_law_1429 (by decide) (fun c141 => ?_) (fun c141 => ?_)
      · have h := ite_f c141 h
        exact tL_law_1477 (σ := σ) (ρ := ρ) X κ115 post hpost bc115 bs115 hk115 _ _ (by omega) (by omega) (by omega) (by omega) t128 vv129 rr130 ad131 x6 x8 x9 r127 x11 x12 x14 (Xt.tr hX9 q132) hW hS (lv_sub hl [2, 3, 4, 5, 6, 7, 8, 9, 10, 0, 11, 12, 13] rfl) h
      · have h := ite_t c141 h
        refine lv_aload_n hx hb dL_law_1432 rfl (lv_at hl 3 rfl) ?_
        refine lv_aload_n hx hb dL_law_1433 rfl (lv_at hl 4 rfl) ?_
        refine k_Sl (rest := []) (As := [.ref (ad131 0 0), .ref (ad131 100 0)]) ⟨hx, hb, hml, hown, hts⟩ hE hz hS hW (mtL_all l hlt z G ad131 t128 vv129 rr130 lo  _ h) (va_cwS 2 hts gL_law_L_all rfl rfl rfl (by decide +kernel) ⟨Nat.le_of_ble_eq_true rfl, Nat.le_of_ble_eq_true rfl⟩) rfl hl.1 rfl (Nat.le_of_ble_eq_true rfl) dL_law_1434 ⟨by show _ ≤ 600104; omega, by show _ ≤ 7301314; omega⟩ (fun r142 S1 H locs hp hW hS => ?_)
        obtain ⟨rfl, h⟩ := hp
        refine lv_lstore (lv' := [(6, .long r142), (10, .int r127), (16, .int y0), (0, .ref b), (1, .ref (ad131 0 0)), (2, .ref (ad131 100 0)), (3, .ref (ad131 101 0)), (4, .ref (ad131 102 0)), (5, .ref (ad131 103 0)), (8, .int x8), (9, .int x9), (11, .int x11), (12, .int x12), (14, .int x14)]) hx hb dL_law_1437 hl (by decide) rfl (fun ls hl => ?_)
        refine lv_sipush (v := (10000 : Int32)) hx hb dL_law_1439 (by decide) ?_
        refine lv_aload_n hx hb dL_law_1442 rfl (lv_at hl 5 rfl) ?_
        refine lv_iconst (v := (2 : Int32)) hx hb dL_law_1443 (by decide) ?_
        obtain ⟨b143, h⟩ := h
        refine r_iald hx hb hE hW 100 0 ⟨rfl, by decide, by decide⟩ (n := 14) (f := rr130 0) rfl b143 (v := rr130 0 ((2 : Int32)).toNatClampNeg) rfl dL_law_1444 ?_
        refine lv_imul hx hb dL_law_1445 ?_
        refine lv_bipush (v := (100 : Int32)) hx hb dL_law_1446 (by decide) ?_
        refine lv_aload_n hx hb dL_law_1448 rfl (lv_at hl 5 rfl) ?_
        refine lv_iconst (v := (3 : Int32)) hx hb dL_law_1449 (by decide) ?_
        obtain ⟨b144, h⟩ := h
        refine r_iald hx hb hE hW 100 0 ⟨rfl, by decide, by decide⟩ (n := 14) (f := rr130 0) rfl b144 (v := rr130 0 ((3 : Int32)).toNatClampNeg) rfl dL_law_1450 ?_
        refine lv_imul hx hb dL_law_1451 ?_
        refine lv_iadd hx hb dL_law_1452 ?_
        refine lv_istore (lv' := [(8, .int ((((10000 : Int32)) * (rr130 0 ((2 : Int32)).toNatClampNeg)) + (((100 : Int32)) * (rr130 0 ((3 : Int32)).toNatClampNeg)))), (6, .long r142), (10, .int r127), (16, .int y0), (0, .ref b), (1, .ref (ad131 0 0)), (2, .ref (ad131 100 0)), (3, .ref (ad131 101 0)), (4, .ref (ad131 102 0)), (5, .ref (ad131 103 0)), (9, .int x9), (11, .int x11), (12, .int x12), (14, .int x14)]) hx hb dL_law_1453 hl (by decide) rfl (fun ls hl => ?_)
        refine lv_aload_n hx hb dL_law_1455 rfl (lv_at hl 6 rfl) ?_
        refine lv_bipush (v := (6 : Int32)) hx hb dL_law_1456 (by decide) ?_
        obtain ⟨b145, h⟩ := h
        refine r_iald hx hb hE hW 100 0 ⟨rfl, by decide, by decide⟩ (n := 14) (f := rr130 0) rfl b145 (v := rr130 0 ((6 : Int32)).toNatClampNeg) rfl dL_law_1458 ?_
        refine lv_sipush (v := (10000 : Int32)) hx hb dL_law_1459 (by decide) ?_
        refine lv_aload_n hx hb dL_law_1462 rfl (lv_at hl 6 rfl) ?_
        refine lv_iconst (v := (5 : Int32)) hx hb dL_law_1463 (by decide) ?_
        obtain ⟨b146, h⟩ := h
        refine r_iald hx hb hE hW 100 0 ⟨rfl, by decide, by decide⟩ (n := 14) (f := rr130 0) rfl b146 (v := rr130 0 ((5 : Int32)).toNatClampNeg) rfl dL_law_1464 ?_
        refine lv_imul hx hb dL_law_1465 ?_
        refine lv_iadd hx hb dL_law_1466 ?_
        refine lv_ldcI (v := (1000000 : Int32)) hx hb hown (hts _ (List.mem_of_getElem? (i := 5) rfl)) dL_law_1467 ?_
        refine lv_aload_n hx hb dL_law_1469 rfl (lv_at hl 6 rfl) ?_
        refine lv_bipush (v := (7 : Int32)) hx hb dL_law_1470 (by decide) ?_
        obtain ⟨b147, h⟩ := h
        refine r_iald hx hb hE hW 100 0 ⟨rfl, by decide, by decide⟩ (n := 14) (f := rr130 0) rfl b147 (v := rr130 0 ((7 : Int32)).toNatClampNeg) rfl dL_law_1472 ?_
        refine lv_imul hx hb dL_law_1473 ?_
        refine lv_iadd hx hb dL_law_1474 ?_
        refine lv_istore (lv' := [(9, .int (((rr130 0 ((6 : Int32)).toNatClampNeg) + (((10000 : Int32)) * (rr130 0 ((5 : Int32)).toNatClampNeg))) + (((1000000 : Int32)) * (rr130 0 ((7 : Int32)).toNatClampNeg)))), (8, .int ((((10000 : Int32)) * (rr130 0 ((2 : Int32)).toNatClampNeg)) + (((100 : Int32)) * (rr130 0 ((3 : Int32)).toNatClampNeg)))), (6, .long r142), (10, .int r127), (16, .int y0), (0, .ref b), (1, .ref (ad131 0 0)), (2, .ref (ad131 100 0)), (3, .ref (ad131 101 0)), (4, .ref (ad131 102 0)), (5, .ref (ad131 103 0)), (11, .int x11), (12, .int x12), (14, .int x14)]) hx hb dL_law_1475 hl (by decide) rfl (fun ls hl => ?_)
        exact tL_law_1477 (σ := σ) (ρ := ρ) X κ115 post hpost bc115 bs115 hk115 _ _ (by omega) (by omega) (by omega) (by omega) t128 vv129 rr130 ad131 r142 ((((10000 : Int32)) * (rr130 0 ((2 : Int32)).toNatClampNeg)) + (((100 : Int32)) * (rr130 0 ((3 : Int32)).toNatClampNeg))) (((rr130 0 ((6 : Int32)).toNatClampNeg) + (((10000 : Int32)) * (rr130 0 ((5 : Int32)).toNatClampNeg))) + (((1000000 : Int32)) * (rr130 0 ((7 : Int32)).toNatClampNeg))) r127 x11 x12 x14 (Xt.tr hX9 q132) hW hS (lv_sub hl [5, 6, 7, 8, 9, 10, 2, 1, 0, 3, 11, 12, 13] rfl) h

set_option maxHeartbeats 4000000 in
set_option maxRecDepth 100000 in
theorem tL_law_1310 {p : Program} {l : Launch} {e : Env} {s : State} {m : MethodId} {below : List Frame} {meth : Method} {c : Code} {b L : Nat} {xs : Nat → Int32} {z : Nat} {G : Gl} {ad : Nat → Nat → Nat} {σ : SG} {ν : NU} {ρ : RH} {lo : Int64} (X : LCX p l e s m below meth c b L xs z G) (κ115 : SG → NU → RH → Int64 → Int32 → Int32 → Int32 → Int32 → Prop) (post : Int32 → Prop) (hpost : ∀ r, post r → r = 1) (bc115 bs115 : Nat) (hk115 : ∀ (kc ks : Nat), kc + bc115 ≤ 600104 → ks + bs115 ≤ 7301314 → ∀ (a1 : SG) (a2 : NU) (a3 : RH) (b1 : Nat → Nat → Nat) (x6 : Int64) (x8 : Int32) (x9 : Int32) (x10 : Int32) (x11 : Int32) {H : Heap} {locs : List Loc} {ls : Array Slot}, Xt ad b1 ν a2 → WP z G b1 (a1, a2, a3, lo) H → va_S (Az z) s.heap H locs → lv_has ls 23 [(0, .ref b), (1, .ref (b1 0 0)), (2, .ref (b1 100 0)), (3, .ref (b1 101 0)), (4, .ref (b1 102 0)), (5, .ref (b1 103 0)), (6, .long x6), (8, .int x8), (9, .int x9), (10, .int x10), (11, .int x11)] → κ115 a1 a2 a3 x6 x8 x9 x10 x11 → W p l e room_1 s m #[Value.ref b] below meth c H locs kc ks (lw_Z below #[Value.ref b] s) (F0 m 115 ls [])) : ∀ (kc ks : Nat), kc + 1989 + bc115 ≤ 600104 → ks + 34840 + bs115 ≤ 7301314 → kc + 1511 ≤ 600104 → ks + 28359 ≤ 7301314 → ∀ (a1 : SG) (a2 : NU) (a3 : RH) (b1 : Nat → Nat → Nat) (x6 : Int64) (x8 : Int32) (x9 : Int32) (x11 : Int32) (x12 : Int32) (x13 : Int32) (x14 : Int32) {H : Heap} {locs : List Loc} {ls : Array Slot}, Xt ad b1 ν a2 → WP z G b1 (a1, a2, a3, lo) H → va_S (Az z) s.heap H locs → lv_has ls 23 [(0, .ref b), (1, .ref (b1 0 0)), (2, .ref (b1 100 0)), (3, .ref (b1 101 0)), (4, .ref (b1 102 0)), (5, .ref (b1 103 0)), (6, .long x6), (8, .int x8), (9, .int x9), (11, .int x11), (12, .int x12), (13, .int x13), (14, .int x14)] → jL_law_1310 L xs κ115 post a1 a2 a3 x6 x8 x9 x11 x12 x13 x14 → W p l e room_1 s m #[Value.ref b] below meth c H locs kc ks (lw_Z below #[Value.ref b] s) (F0 m 1310 ls []) := by
  obtain ⟨hx, hb, hml, hown, hts, hE, hz, hlt, hX, hbl, hbA, hL, hr, hlocks, hze⟩ := id X
  intro kc ks hB1 hB2 hX1 hX2 a1 a2 a3 b1 x6 x8 x9 x11 x12 x13 x14 H locs ls hX9 hW hS hl h
  unfold jL_law_1310 at h
  refine lv_iload hx hb dL_law_1310 (lv_at hl 11 rfl) ?_
  refine lv_bipush (v := (28 : Int32)) hx hb dL_law_1312 (by decide) ?_
  refine r_icmp_ne hx hb rfl (show (28 : Int32).toInt = 28 by decide) (tgt := 1363) dL_law_1314 (by decide) (fun c123 => ?_) (fun c123 => ?_)
  · have h := ite_f c123 h
    refine lv_iload hx hb dL_law_1363 (lv_at hl 12 rfl) ?_
    refine lv_iconst (v := (3 : Int32)) hx hb dL_law_1365 (by decide) ?_
    refine lv_irem hx hb dL_law_1366 (by decide) ?_
    refine r_if_le hx hb rfl (tgt := 1376) dL_law_1367 (by decide) (fun c124 => ?_) (fun c124 => ?_)
    · have h := ite_t c124 h
      refine lv_iload hx hb dL_law_1376 (lv_at hl 12 rfl) ?_
      refine lv_iconst (v := (3 : Int32)) hx hb dL_law_1378 (by decide) ?_
      refine lv_idiv hx hb dL_law_1379 (by decide) ?_
      refine lv_aload_n hx hb dL_law_1380 rfl (lv_at hl 2 rfl) ?_
      refine lv_iconst (v := (0 : Int32)) hx hb dL_law_1381 (by decide) ?_
      obtain ⟨b125, h⟩ := h
      refine r_iald hx hb hE hW 100 0 ⟨rfl, by decide, by decide⟩ (n := 14) (f := a3 0) rfl b125 (v := a3 0 ((0 : Int32)).toNatClampNeg) rfl dL_law_1382 ?_
      refine lv_iconst (v := (1 : Int32)) hx hb dL_law_1383 (by decide) ?_
      refine lv_iadd hx hb dL_law_1384 ?_
      obtain ⟨g126, h⟩ := h
      refine lv_irem hx hb dL_law_1385 g126 ?_
      exact tL_law_1386 (σ := σ) (ρ := ρ) X κ115 post hpost bc115 bs115 hk115 _ _ (by omega) (by omega) (by omega) (by omega) a1 a2 a3 b1 x6 x8 x9 x11 x12 x14 ((x14 / ((3 : Int32))) - (x14 / ((3 : Int32))) / ((a3 0 ((0 : Int32)).toNatClampNeg) + ((1 : Int32))) * ((a3 0 ((0 : Int32)).toNatClampNeg) + ((1 : Int32)))) hX9 hW hS (lv_sub hl [0, 1, 2, 3, 4, 5, 6, 7, 8, 9, 10, 12] rfl) h
    · have h := ite_f c124 h
      refine lv_aload_n hx hb dL_law_1370 rfl (lv_at hl 2 rfl) ?_
      refine lv_iconst (v := (0 : Int32)) hx hb dL_law_1371 (by decide) ?_
      obtain ⟨b148, h⟩ := h
      refine r_iald hx hb hE hW 100 0 ⟨rfl, by decide, by decide⟩ (n := 14) (f := a3 0) rfl b148 (v := a3 0 ((0 : Int32)).toNatClampNeg) rfl dL_law_1372 ?_
      refine lv_goto (tgt := 1386) hx hb dL_law_1373 (by decide) ?_
      exact tL_law_1386 (σ := σ) (ρ := ρ) X κ115 post hpost bc115 bs115 hk115 _ _ (by omega) (by omega) (by omega) (by omega) a1 a2 a3 b1 x6 x8 x9 x11 x12 x14 (a3 0 ((0 : Int32)).toNatClampNeg) hX9 hW hS (lv_sub hl [0, 1, 2, 3, 4, 5, 6, 7, 8, 9, 10, 12] rfl) h
  · have h := ite_t c123 h
    refine lv_iconst (v := (1 : Int32)) hx hb dL_law_1317 (by decide) ?_
    refine lv_iload hx hb dL_law_1318 (lv_at hl 12 rfl) ?_
    refine lv_iconst (v := (5 : Int32)) hx hb dL_law_1320 (by decide) ?_
    refine lv_irem hx hb dL_law_1321 (by decide) ?_
    refine lv_iadd hx hb dL_law_1322 ?_
    refine lv_istore (lv' := [(16, .int (((1 : Int32)) + (x14 - x14 / ((5 : Int32)) * ((5 : Int32))))), (0, .ref b), (1, .ref (b1 0 0)), (2, .ref (b1 100 0)), (3, .ref (b1 101 0)), (4, .ref (b1 102 0)), (5, .ref (b1 103 0)), (6, .long x6), (8, .int x8), (9, .int x9), (11, .int x11), (12, .int x12), (13, .int x13), (14, .int x14)]) hx hb dL_law_1323 hl (by decide) rfl (fun ls hl => ?_)
    refine lv_aload_n hx hb dL_law_1325 rfl (lv_at hl 2 rfl) ?_
    refine lv_iconst (v := (0 : Int32)) hx hb dL_law_1326 (by decide) ?_
    refine lv_iload hx hb dL_law_1327 (lv_at hl 0 rfl) ?_
    refine lv_iconst (v := (0 : Int32)) hx hb dL_law_1329 (by decide) ?_
    refine lv_iconst (v := (0 : Int32)) hx hb dL_law_1330 (by decide) ?_
    refine lv_iconst (v := (0 : Int32)) hx hb dL_law_1331 (by decide) ?_
    refine kW_Si (rest := []) (As := [.ref (b1 0 0), .int ((0 : Int32)), .int (((1 : Int32)) + (x14 - x14 / ((5 : Int32)) * ((5 : Int32)))), .int ((0 : Int32)), .int ((0 : Int32)), .int ((0 : Int32))]) ⟨hx, hb, hml, hown, hts⟩ hE hz hS hW (mtL_does_0 l hlt z G b1 a1 a2 a3 lo (((1 : Int32)) + (x14 - x14 / ((5 : Int32)) * ((5 : Int32)))) ((0 : Int32)) ((0 : Int32)) ((0 : Int32)) _ h) (vx_cwSW 6 hts gL_law_L_does rfl rfl rfl (by decide +kernel) ⟨Nat.le_of_ble_eq_true rfl, Nat.le_of_ble_eq_true rfl⟩) rfl hl.1 rfl (Nat.le_of_ble_eq_true rfl) dL_law_1332 ⟨by show _ ≤ 600104; omega, by show _ ≤ 7301314; omega⟩ (fun r149 S1 H locs hp hW hS => ?_)
    obtain ⟨t150, rfl, h⟩ := hp
    refine lv_istore (lv' := [(17, .int r149), (16, .int (((1 : Int32)) + (x14 - x14 / ((5 : Int32)) * ((5 : Int32))))), (0, .ref b), (1, .ref (b1 0 0)), (2, .ref (b1 100 0)), (3, .ref (b1 101 0)), (4, .ref (b1 102 0)), (5, .ref (b1 103 0)), (6, .long x6), (8, .int x8), (9, .int x9), (11, .int x11), (12, .int x12), (13, .int x13), (14, .int x14)]) hx hb dL_law_1335 hl (by decide) rfl (fun ls hl => ?_)
    refine lv_aload_n hx hb dL_law_1337 rfl (lv_at hl 4 rfl) ?_
    refine lv_iconst (v := (0 : Int32)) hx hb dL_law_1338 (by decide) ?_
    refine lv_dup2_11 hx hb dL_law_1339 rfl rfl ?_
    obtain ⟨b151, h⟩ := h
    refine r_iald hx hb hE hW 100 0 ⟨rfl, by decide, by decide⟩ (n := 14) (f := a3 0) rfl b151 (v := a3 0 ((0 : Int32)).toNatClampNeg) rfl dL_law_1340 ?_
    refine lv_iload hx hb dL_law_1341 (lv_at hl 1 rfl) ?_
    refine lv_iadd hx hb dL_law_1343 ?_
    obtain ⟨b152, h⟩ := h
    refine r_iastM hx hb hE hW hS 0 (k := 100) rfl ⟨rfl, by decide, by decide⟩ (n := 14) (fun _ => rfl) (fun _ _ => rfl) b152 dL_law_1344 (fun t153 e154 H locs hW hS => ?_)
    have h := h t153 e154
    refine lv_iload hx hb dL_law_1345 (lv_at hl 0 rfl) ?_
    refine lv_aload_n hx hb dL_law_1347 rfl (lv_at hl 4 rfl) ?_
    refine lv_iconst (v := (0 : Int32)) hx hb dL_law_1348 (by decide) ?_
    obtain ⟨b155, h⟩ := h
    refine r_iald hx hb hE hW 100 0 ⟨rfl, by decide, by decide⟩ (n := 14) (f := t153 0) rfl b155 (v := t153 0 ((0 : Int32)).toNatClampNeg) rfl dL_law_1349 ?_
    refine r_icmp_ne hx hb rfl rfl (tgt := 1357) dL_law_1350 (by decide) (fun c156 => ?_) (fun c156 => ?_)
    · have h := ite_f c156 h
      refine lv_iconst (v := (0 : Int32)) hx hb dL_law_1357 (by decide) ?_
      refine lv_istore (lv' := [(10, .int ((0 : Int32))), (17, .int r149), (16, .int (((1 : Int32)) + (x14 - x14 / ((5 : Int32)) * ((5 : Int32))))), (0, .ref b), (1, .ref (b1 0 0)), (2, .ref (b1 100 0)), (3, .ref (b1 101 0)), (4, .ref (b1 102 0)), (5, .ref (b1 103 0)), (6, .long x6), (8, .int x8), (9, .int x9), (11, .int x11), (12, .int x12), (13, .int x13), (14, .int x14)]) hx hb dL_law_1358 hl (by decide) rfl (fun ls hl => ?_)
      refine lv_goto (tgt := 1477) hx hb dL_law_1360 (by decide) ?_
      exact tL_law_1477 (σ := σ) (ρ := ρ) X κ115 post hpost bc115 bs115 hk115 _ _ (by omega) (by omega) (by omega) (by omega) t150 a2 t153 b1 x6 x8 x9 ((0 : Int32)) x11 x12 x14 hX9 hW hS (lv_sub hl [3, 4, 5, 6, 7, 8, 9, 10, 11, 0, 12, 13, 15] rfl) h
    · have h := ite_t c156 h
      refine lv_iconst (v := (1 : Int32)) hx hb dL_law_1353 (by decide) ?_
      refine lv_goto (tgt := 1358) hx hb dL_law_1354 (by decide) ?_
      refine lv_istore (lv' := [(10, .int ((1 : Int32))), (17, .int r149), (16, .int (((1 : Int32)) + (x14 - x14 / ((5 : Int32)) * ((5 : Int32))))), (0, .ref b), (1, .ref (b1 0 0)), (2, .ref (b1 100 0)), (3, .ref (b1 101 0)), (4, .ref (b1 102 0)), (5, .ref (b1 103 0)), (6, .long x6), (8, .int x8), (9, .int x9), (11, .int x11), (12, .int x12), (13, .int x13), (14, .int x14)]) hx hb dL_law_1358 hl (by decide) rfl (fun ls hl => ?_)
      refine lv_goto (tgt := 1477) hx hb dL_law_1360 (by decide) ?_
      exact tL_law_1477 (σ := σ) (ρ := ρ) X κ115 post hpost bc115 bs115 hk115 _ _ (by omega) (by omega) (by omega) (by omega) t150 a2 t153 b1 x6 x8 x9 ((1 : Int32)) x11 x12 x14 hX9 hW hS (lv_sub hl [3, 4, 5, 6, 7, 8, 9, 10, 11, 0, 12, 13, 15] rfl) h

set_option maxHeartbeats 4000000 in
set_option maxRecDepth 100000 in
theorem tL_law_1294 {p : Program} {l : Launch} {e : Env} {s : State} {m : MethodId} {below : List Frame} {meth : Method} {c : Code} {b L : Nat} {xs : Nat → Int32} {z : Nat} {G : Gl} {ad : Nat → Nat → Nat} {σ : SG} {ν : NU} {ρ : RH} {lo : Int64} (X : LCX p l e s m below meth c b L xs z G) (κ115 : SG → NU → RH → Int64 → Int32 → Int32 → Int32 → Int32 → Prop) (post : Int32 → Prop) (hpost : ∀ r, post r → r = 1) (bc115 bs115 : Nat) (hk115 : ∀ (kc ks : Nat), kc + bc115 ≤ 600104 → ks + bs115 ≤ 7301314 → ∀ (a1 : SG) (a2 : NU) (a3 : RH) (b1 : Nat → Nat → Nat) (x6 : Int64) (x8 : Int32) (x9 : Int32) (x10 : Int32) (x11 : Int32) {H : Heap} {locs : List Loc} {ls : Array Slot}, Xt ad b1 ν a2 → WP z G b1 (a1, a2, a3, lo) H → va_S (Az z) s.heap H locs → lv_has ls 23 [(0, .ref b), (1, .ref (b1 0 0)), (2, .ref (b1 100 0)), (3, .ref (b1 101 0)), (4, .ref (b1 102 0)), (5, .ref (b1 103 0)), (6, .long x6), (8, .int x8), (9, .int x9), (10, .int x10), (11, .int x11)] → κ115 a1 a2 a3 x6 x8 x9 x10 x11 → W p l e room_1 s m #[Value.ref b] below meth c H locs kc ks (lw_Z below #[Value.ref b] s) (F0 m 115 ls [])) : ∀ (kc ks : Nat), kc + 1978 + bc115 ≤ 600104 → ks + 34665 + bs115 ≤ 7301314 → kc + 1500 ≤ 600104 → ks + 28184 ≤ 7301314 → ∀ (a1 : SG) (a2 : NU) (a3 : RH) (b1 : Nat → Nat → Nat) (x6 : Int64) (x8 : Int32) (x9 : Int32) (x11 : Int32) (x12 : Int32) (x14 : Int32) (y0 : Int32) {H : Heap} {locs : List Loc} {ls : Array Slot}, Xt ad b1 ν a2 → WP z G b1 (a1, a2, a3, lo) H → va_S (Az z) s.heap H locs → lv_has ls 23 [(0, .ref b), (1, .ref (b1 0 0)), (2, .ref (b1 100 0)), (3, .ref (b1 101 0)), (4, .ref (b1 102 0)), (5, .ref (b1 103 0)), (6, .long x6), (8, .int x8), (9, .int x9), (11, .int x11), (12, .int x12), (14, .int x14)] → jL_law_1294 L xs κ115 post a1 a2 a3 x6 x8 x9 x11 x12 x14 y0 → W p l e room_1 s m #[Value.ref b] below meth c H locs kc ks (lw_Z below #[Value.ref b] s) (F0 m 1294 ls [.int y0]) := by
  obtain ⟨hx, hb, hml, hown, hts, hE, hz, hlt, hX, hbl, hbA, hL, hr, hlocks, hze⟩ := id X
  intro kc ks hB1 hB2 hX1 hX2 a1 a2 a3 b1 x6 x8 x9 x11 x12 x14 y0 H locs ls hX9 hW hS hl h
  unfold jL_law_1294 at h
  refine lv_sipush (v := (-1383 : Int32)) hx hb dL_law_1294 (by decide) ?_
  refine r_icmp_ne hx hb rfl (show (-1383 : Int32).toInt = (-1383) by decide) (tgt := 1304) dL_law_1297 (by decide) (fun c182 => ?_) (fun c182 => ?_)
  · have h := ite_f c182 h
    refine lv_iconst (v := (0 : Int32)) hx hb dL_law_1304 (by decide) ?_
    refine lv_istore (lv' := [(10, .int ((0 : Int32))), (0, .ref b), (1, .ref (b1 0 0)), (2, .ref (b1 100 0)), (3, .ref (b1 101 0)), (4, .ref (b1 102 0)), (5, .ref (b1 103 0)), (6, .long x6), (8, .int x8), (9, .int x9), (11, .int x11), (12, .int x12), (14, .int x14)]) hx hb dL_law_1305 hl (by decide) rfl (fun ls hl => ?_)
    refine lv_goto (tgt := 1477) hx hb dL_law_1307 (by decide) ?_
    exact tL_law_1477 (σ := σ) (ρ := ρ) X κ115 post hpost bc115 bs115 hk115 _ _ (by omega) (by omega) (by omega) (by omega) a1 a2 a3 b1 x6 x8 x9 ((0 : Int32)) x11 x12 x14 hX9 hW hS (lv_sub hl [1, 2, 3, 4, 5, 6, 7, 8, 9, 0, 10, 11, 12] rfl) h
  · have h := ite_t c182 h
    refine lv_iconst (v := (1 : Int32)) hx hb dL_law_1300 (by decide) ?_
    refine lv_goto (tgt := 1305) hx hb dL_law_1301 (by decide) ?_
    refine lv_istore (lv' := [(10, .int ((1 : Int32))), (0, .ref b), (1, .ref (b1 0 0)), (2, .ref (b1 100 0)), (3, .ref (b1 101 0)), (4, .ref (b1 102 0)), (5, .ref (b1 103 0)), (6, .long x6), (8, .int x8), (9, .int x9), (11, .int x11), (12, .int x12), (14, .int x14)]) hx hb dL_law_1305 hl (by decide) rfl (fun ls hl => ?_)
    refine lv_goto (tgt := 1477) hx hb dL_law_1307 (by decide) ?_
    exact tL_law_1477 (σ := σ) (ρ := ρ) X κ115 post hpost bc115 bs115 hk115 _ _ (by omega) (by omega) (by omega) (by omega) a1 a2 a3 b1 x6 x8 x9 ((1 : Int32)) x11 x12 x14 hX9 hW hS (lv_sub hl [1, 2, 3, 4, 5, 6, 7, 8, 9, 0, 10, 11, 12] rfl) h

set_option maxHeartbeats 4000000 in
set_option maxRecDepth 100000 in
theorem tL_law_1264 {p : Program} {l : Launch} {e : Env} {s : State} {m : MethodId} {below : List Frame} {meth : Method} {c : Code} {b L : Nat} {xs : Nat → Int32} {z : Nat} {G : Gl} {ad : Nat → Nat → Nat} {σ : SG} {ν : NU} {ρ : RH} {lo : Int64} (X : LCX p l e s m below meth c b L xs z G) (κ115 : SG → NU → RH → Int64 → Int32 → Int32 → Int32 → Int32 → Prop) (post : Int32 → Prop) (hpost : ∀ r, post r → r = 1) (bc115 bs115 : Nat) (hk115 : ∀ (kc ks : Nat), kc + bc115 ≤ 600104 → ks + bs115 ≤ 7301314 → ∀ (a1 : SG) (a2 : NU) (a3 : RH) (b1 : Nat → Nat → Nat) (x6 : Int64) (x8 : Int32) (x9 : Int32) (x10 : Int32) (x11 : Int32) {H : Heap} {locs : List Loc} {ls : Array Slot}, Xt ad b1 ν a2 → WP z G b1 (a1, a2, a3, lo) H → va_S (Az z) s.heap H locs → lv_has ls 23 [(0, .ref b), (1, .ref (b1 0 0)), (2, .ref (b1 100 0)), (3, .ref (b1 101 0)), (4, .ref (b1 102 0)), (5, .ref (b1 103 0)), (6, .long x6), (8, .int x8), (9, .int x9), (10, .int x10), (11, .int x11)] → κ115 a1 a2 a3 x6 x8 x9 x10 x11 → W p l e room_1 s m #[Value.ref b] below meth c H locs kc ks (lw_Z below #[Value.ref b] s) (F0 m 115 ls [])) : ∀ (kc ks : Nat), kc + 1989 + bc115 ≤ 600104 → ks + 34840 + bs115 ≤ 7301314 → kc + 1511 ≤ 600104 → ks + 28359 ≤ 7301314 → ∀ (a1 : SG) (a2 : NU) (a3 : RH) (b1 : Nat → Nat → Nat) (x6 : Int64) (x8 : Int32) (x9 : Int32) (x11 : Int32) (x12 : Int32) (x13 : Int32) (x14 : Int32) (x15 : Int32) {H : Heap} {locs : List Loc} {ls : Array Slot}, Xt ad b1 ν a2 → WP z G b1 (a1, a2, a3, lo) H → va_S (Az z) s.heap H locs → lv_has ls 23 [(0, .ref b), (1, .ref (b1 0 0)), (2, .ref (b1 100 0)), (3, .ref (b1 101 0)), (4, .ref (b1 102 0)), (5, .ref (b1 103 0)), (6, .long x6), (8, .int x8), (9, .int x9), (11, .int x11), (12, .int x12), (13, .int x13), (14, .int x14), (15, .int x15)] → jL_law_1264 L xs κ115 post a1 a2 a3 x6 x8 x9 x11 x12 x13 x14 x15 → W p l e room_1 s m #[Value.ref b] below meth c H locs kc ks (lw_Z below #[Value.ref b] s) (F0 m 1264 ls []) := by
  obtain ⟨hx, hb, hml, hown, hts, hE, hz, hlt, hX, hbl, hbA, hL, hr, hlocks, hze⟩ := id X
  intro kc ks hB1 hB2 hX1 hX2 a1 a2 a3 b1 x6 x8 x9 x11 x12 x13 x14 x15 H locs ls hX9 hW hS hl h
  unfold jL_law_1264 at h
  refine lv_iload hx hb dL_law_1264 (lv_at hl 11 rfl) ?_
  refine lv_bipush (v := (26 : Int32)) hx hb dL_law_1266 (by decide) ?_
  refine r_icmp_ne hx hb rfl (show (26 : Int32).toInt = 26 by decide) (tgt := 1284) dL_law_1268 (by decide) (fun c171 => ?_) (fun c171 => ?_)
  · have h := ite_f c171 h
    refine lv_aload_n hx hb dL_law_1284 rfl (lv_at hl 1 rfl) ?_
    refine lv_iconst (v := (3 : Int32)) hx hb dL_law_1285 (by decide) ?_
    refine lv_iload hx hb dL_law_1286 (lv_at hl 13 rfl) ?_
    refine lv_iconst (v := (1 : Int32)) hx hb dL_law_1288 (by decide) ?_
    refine lv_iconst (v := (2 : Int32)) hx hb dL_law_1289 (by decide) ?_
    refine lv_iconst (v := (0 : Int32)) hx hb dL_law_1290 (by decide) ?_
    refine kWA_Si (rest := []) (As := [.ref (b1 0 0), .int ((3 : Int32)), .int x15, .int ((1 : Int32)), .int ((2 : Int32)), .int ((0 : Int32))]) ⟨hx, hb, hml, hown, hts⟩ hE hz hS hW (mtL_silent_3 l hlt z G b1 a1 a2 a3 lo x15 ((1 : Int32)) ((2 : Int32)) ((0 : Int32)) _ h) (vx_cwSW 6 hts gL_law_L_silent rfl rfl rfl (by decide +kernel) ⟨Nat.le_of_ble_eq_true rfl, Nat.le_of_ble_eq_true rfl⟩) rfl hl.1 rfl (Nat.le_of_ble_eq_true rfl) dL_law_1291 ⟨by show _ ≤ 600104; omega, by show _ ≤ 7301314; omega⟩ (fun r172 S1 ad175 H locs hp hW hS => ?_)
    obtain ⟨t173, vv174, rfl, q176, h⟩ := hp
    have z177 : ad175 0 0 = b1 0 0 := (q176 0 0 (by decide) rfl).2
    have z178 : ad175 100 0 = b1 100 0 := (q176 100 0 (by decide) ⟨rfl, by decide, by decide⟩).2
    have z179 : ad175 101 0 = b1 101 0 := (q176 101 0 (by decide) ⟨rfl, by decide, by decide⟩).2
    have z180 : ad175 102 0 = b1 102 0 := (q176 102 0 (by decide) ⟨rfl, by decide, by decide⟩).2
    have z181 : ad175 103 0 = b1 103 0 := (q176 103 0 (by decide) ⟨rfl, by decide, by decide⟩).2
    have hl : lv_has ls 23 [(0, .ref b), (1, .ref (ad175 0 0)), (2, .ref (ad175 100 0)), (3, .ref (ad175 101 0)), (4, .ref (ad175 102 0)), (5, .ref (ad175 103 0)), (6, .long x6), (8, .int x8), (9, .int x9), (11, .int x11), (12, .int x12), (13, .int x13), (14, .int x14), (15, .int x15)] := by rw [z177, z178, z179, z180, z181]; exact hl
    exact tL_law_1294 (σ := σ) (ρ := ρ) X κ115 post hpost bc115 bs115 hk115 _ _ (by omega) (by omega) (by omega) (by omega) t173 vv174 a3 ad175 x6 x8 x9 x11 x12 x14 r172 (Xt.tr hX9 q176) hW hS (lv_sub hl [0, 1, 2, 3, 4, 5, 6, 7, 8, 9, 10, 12] rfl) h
  · have h := ite_t c171 h
    refine lv_aload_n hx hb dL_law_1271 rfl (lv_at hl 1 rfl) ?_
    refine lv_iconst (v := (2 : Int32)) hx hb dL_law_1272 (by decide) ?_
    refine lv_iload hx hb dL_law_1273 (lv_at hl 13 rfl) ?_
    refine lv_iconst (v := (1 : Int32)) hx hb dL_law_1275 (by decide) ?_
    refine lv_iconst (v := (0 : Int32)) hx hb dL_law_1276 (by decide) ?_
    refine lv_iconst (v := (0 : Int32)) hx hb dL_law_1277 (by decide) ?_
    refine kWA_Si (rest := []) (As := [.ref (b1 0 0), .int ((2 : Int32)), .int x15, .int ((1 : Int32)), .int ((0 : Int32)), .int ((0 : Int32))]) ⟨hx, hb, hml, hown, hts⟩ hE hz hS hW (mtL_silent_2 l hlt z G b1 a1 a2 a3 lo x15 ((1 : Int32)) ((0 : Int32)) ((0 : Int32)) _ h) (vx_cwSW 6 hts gL_law_L_silent rfl rfl rfl (by decide +kernel) ⟨Nat.le_of_ble_eq_true rfl, Nat.le_of_ble_eq_true rfl⟩) rfl hl.1 rfl (Nat.le_of_ble_eq_true rfl) dL_law_1278 ⟨by show _ ≤ 600104; omega, by show _ ≤ 7301314; omega⟩ (fun r183 S1 ad186 H locs hp hW hS => ?_)
    obtain ⟨t184, vv185, rfl, q187, h⟩ := hp
    have z188 : ad186 0 0 = b1 0 0 := (q187 0 0 (by decide) rfl).2
    have z189 : ad186 100 0 = b1 100 0 := (q187 100 0 (by decide) ⟨rfl, by decide, by decide⟩).2
    have z190 : ad186 101 0 = b1 101 0 := (q187 101 0 (by decide) ⟨rfl, by decide, by decide⟩).2
    have z191 : ad186 102 0 = b1 102 0 := (q187 102 0 (by decide) ⟨rfl, by decide, by decide⟩).2
    have z192 : ad186 103 0 = b1 103 0 := (q187 103 0 (by decide) ⟨rfl, by decide, by decide⟩).2
    have hl : lv_has ls 23 [(0, .ref b), (1, .ref (ad186 0 0)), (2, .ref (ad186 100 0)), (3, .ref (ad186 101 0)), (4, .ref (ad186 102 0)), (5, .ref (ad186 103 0)), (6, .long x6), (8, .int x8), (9, .int x9), (11, .int x11), (12, .int x12), (13, .int x13), (14, .int x14), (15, .int x15)] := by rw [z188, z189, z190, z191, z192]; exact hl
    refine lv_goto (tgt := 1294) hx hb dL_law_1281 (by decide) ?_
    exact tL_law_1294 (σ := σ) (ρ := ρ) X κ115 post hpost bc115 bs115 hk115 _ _ (by omega) (by omega) (by omega) (by omega) t184 vv185 a3 ad186 x6 x8 x9 x11 x12 x14 r183 (Xt.tr hX9 q187) hW hS (lv_sub hl [0, 1, 2, 3, 4, 5, 6, 7, 8, 9, 10, 12] rfl) h

set_option maxHeartbeats 4000000 in
set_option maxRecDepth 100000 in
theorem tL_law_1249 {p : Program} {l : Launch} {e : Env} {s : State} {m : MethodId} {below : List Frame} {meth : Method} {c : Code} {b L : Nat} {xs : Nat → Int32} {z : Nat} {G : Gl} {ad : Nat → Nat → Nat} {σ : SG} {ν : NU} {ρ : RH} {lo : Int64} (X : LCX p l e s m below meth c b L xs z G) (κ115 : SG → NU → RH → Int64 → Int32 → Int32 → Int32 → Int32 → Prop) (post : Int32 → Prop) (hpost : ∀ r, post r → r = 1) (bc115 bs115 : Nat) (hk115 : ∀ (kc ks : Nat), kc + bc115 ≤ 600104 → ks + bs115 ≤ 7301314 → ∀ (a1 : SG) (a2 : NU) (a3 : RH) (b1 : Nat → Nat → Nat) (x6 : Int64) (x8 : Int32) (x9 : Int32) (x10 : Int32) (x11 : Int32) {H : Heap} {locs : List Loc} {ls : Array Slot}, Xt ad b1 ν a2 → WP z G b1 (a1, a2, a3, lo) H → va_S (Az z) s.heap H locs → lv_has ls 23 [(0, .ref b), (1, .ref (b1 0 0)), (2, .ref (b1 100 0)), (3, .ref (b1 101 0)), (4, .ref (b1 102 0)), (5, .ref (b1 103 0)), (6, .long x6), (8, .int x8), (9, .int x9), (10, .int x10), (11, .int x11)] → κ115 a1 a2 a3 x6 x8 x9 x10 x11 → W p l e room_1 s m #[Value.ref b] below meth c H locs kc ks (lw_Z below #[Value.ref b] s) (F0 m 115 ls [])) : ∀ (kc ks : Nat), kc + 1989 + bc115 ≤ 600104 → ks + 34840 + bs115 ≤ 7301314 → kc + 1511 ≤ 600104 → ks + 28359 ≤ 7301314 → ∀ (a1 : SG) (a2 : NU) (a3 : RH) (b1 : Nat → Nat → Nat) (x6 : Int64) (x8 : Int32) (x9 : Int32) (x11 : Int32) (x12 : Int32) (x13 : Int32) (x14 : Int32) (x15 : Int32) (y0 : Int32) {H : Heap} {locs : List Loc} {ls : Array Slot}, Xt ad b1 ν a2 → WP z G b1 (a1, a2, a3, lo) H → va_S (Az z) s.heap H locs → lv_has ls 23 [(0, .ref b), (1, .ref (b1 0 0)), (2, .ref (b1 100 0)), (3, .ref (b1 101 0)), (4, .ref (b1 102 0)), (5, .ref (b1 103 0)), (6, .long x6), (8, .int x8), (9, .int x9), (11, .int x11), (12, .int x12), (13, .int x13), (14, .int x14), (15, .int x15)] → jL_law_1249 L xs κ115 post a1 a2 a3 x6 x8 x9 x11 x12 x13 x14 x15 y0 → W p l e room_1 s m #[Value.ref b] below meth c H locs kc ks (lw_Z below #[Value.ref b] s) (F0 m 1249 ls [.int y0]) := by
  obtain ⟨hx, hb, hml, hown, hts, hE, hz, hlt, hX, hbl, hbA, hL, hr, hlocks, hze⟩ := id X
  intro kc ks hB1 hB2 hX1 hX2 a1 a2 a3 b1 x6 x8 x9 x11 x12 x13 x14 x15 y0 H locs ls hX9 hW hS hl h
  unfold jL_law_1249 at h
  refine lv_istore (lv' := [(16, .int y0), (0, .ref b), (1, .ref (b1 0 0)), (2, .ref (b1 100 0)), (3, .ref (b1 101 0)), (4, .ref (b1 102 0)), (5, .ref (b1 103 0)), (6, .long x6), (8, .int x8), (9, .int x9), (11, .int x11), (12, .int x12), (13, .int x13), (14, .int x14), (15, .int x15)]) hx hb dL_law_1249 hl (by decide) rfl (fun ls hl => ?_)
  refine lv_iload hx hb dL_law_1251 (lv_at hl 0 rfl) ?_
  refine r_if_eq hx hb rfl (tgt := 1264) dL_law_1253 (by decide) (fun c170 => ?_) (fun c170 => ?_)
  · have h := ite_t c170 h
    exact tL_law_1264 (σ := σ) (ρ := ρ) X κ115 post hpost bc115 bs115 hk115 _ _ (by omega) (by omega) (by omega) (by omega) a1 a2 a3 b1 x6 x8 x9 x11 x12 x13 x14 x15 hX9 hW hS (lv_sub hl [1, 2, 3, 4, 5, 6, 7, 8, 9, 10, 11, 12, 13, 14] rfl) h
  · have h := ite_f c170 h
    refine lv_iload hx hb dL_law_1256 (lv_at hl 0 rfl) ?_
    refine lv_sipush (v := (-1383 : Int32)) hx hb dL_law_1258 (by decide) ?_
    refine r_icmp_ne hx hb rfl (show (-1383 : Int32).toInt = (-1383) by decide) (tgt := 1304) dL_law_1261 (by decide) (fun c193 => ?_) (fun c193 => ?_)
    · have h := ite_f c193 h
      refine lv_iconst (v := (0 : Int32)) hx hb dL_law_1304 (by decide) ?_
      refine lv_istore (lv' := [(10, .int ((0 : Int32))), (16, .int y0), (0, .ref b), (1, .ref (b1 0 0)), (2, .ref (b1 100 0)), (3, .ref (b1 101 0)), (4, .ref (b1 102 0)), (5, .ref (b1 103 0)), (6, .long x6), (8, .int x8), (9, .int x9), (11, .int x11), (12, .int x12), (13, .int x13), (14, .int x14), (15, .int x15)]) hx hb dL_law_1305 hl (by decide) rfl (fun ls hl => ?_)
      refine lv_goto (tgt := 1477) hx hb dL_law_1307 (by decide) ?_
      exact tL_law_1477 (σ := σ) (ρ := ρ) X κ115 post hpost bc115 bs115 hk115 _ _ (by omega) (by omega) (by omega) (by omega) a1 a2 a3 b1 x6 x8 x9 ((0 : Int32)) x11 x12 x14 hX9 hW hS (lv_sub hl [2, 3, 4, 5, 6, 7, 8, 9, 10, 0, 11, 12, 14] rfl) h
    · have h := ite_t c193 h
      exact tL_law_1264 (σ := σ) (ρ := ρ) X κ115 post hpost bc115 bs115 hk115 _ _ (by omega) (by omega) (by omega) (by omega) a1 a2 a3 b1 x6 x8 x9 x11 x12 x13 x14 x15 hX9 hW hS (lv_sub hl [1, 2, 3, 4, 5, 6, 7, 8, 9, 10, 11, 12, 13, 14] rfl) h

set_option maxHeartbeats 4000000 in
set_option maxRecDepth 100000 in
theorem tL_law_1175 {p : Program} {l : Launch} {e : Env} {s : State} {m : MethodId} {below : List Frame} {meth : Method} {c : Code} {b L : Nat} {xs : Nat → Int32} {z : Nat} {G : Gl} {ad : Nat → Nat → Nat} {σ : SG} {ν : NU} {ρ : RH} {lo : Int64} (X : LCX p l e s m below meth c b L xs z G) (κ115 : SG → NU → RH → Int64 → Int32 → Int32 → Int32 → Int32 → Prop) (post : Int32 → Prop) (hpost : ∀ r, post r → r = 1) (bc115 bs115 : Nat) (hk115 : ∀ (kc ks : Nat), kc + bc115 ≤ 600104 → ks + bs115 ≤ 7301314 → ∀ (a1 : SG) (a2 : NU) (a3 : RH) (b1 : Nat → Nat → Nat) (x6 : Int64) (x8 : Int32) (x9 : Int32) (x10 : Int32) (x11 : Int32) {H : Heap} {locs : List Loc} {ls : Array Slot}, Xt ad b1 ν a2 → WP z G b1 (a1, a2, a3, lo) H → va_S (Az z) s.heap H locs → lv_has ls 23 [(0, .ref b), (1, .ref (b1 0 0)), (2, .ref (b1 100 0)), (3, .ref (b1 101 0)), (4, .ref (b1 102 0)), (5, .ref (b1 103 0)), (6, .long x6), (8, .int x8), (9, .int x9), (10, .int x10), (11, .int x11)] → κ115 a1 a2 a3 x6 x8 x9 x10 x11 → W p l e room_1 s m #[Value.ref b] below meth c H locs kc ks (lw_Z below #[Value.ref b] s) (F0 m 115 ls [])) : ∀ (kc ks : Nat), kc + 2000 + bc115 ≤ 600104 → ks + 35015 + bs115 ≤ 7301314 → kc + 1522 ≤ 600104 → ks + 28534 ≤ 7301314 → ∀ (a1 : SG) (a2 : NU) (a3 : RH) (b1 : Nat → Nat → Nat) (x6 : Int64) (x8 : Int32) (x9 : Int32) (x11 : Int32) (x12 : Int32) (x13 : Int32) (x14 : Int32) (x15 : Int32) {H : Heap} {locs : List Loc} {ls : Array Slot}, Xt ad b1 ν a2 → WP z G b1 (a1, a2, a3, lo) H → va_S (Az z) s.heap H locs → lv_has ls 23 [(0, .ref b), (1, .ref (b1 0 0)), (2, .ref (b1 100 0)), (3, .ref (b1 101 0)), (4, .ref (b1 102 0)), (5, .ref (b1 103 0)), (6, .long x6), (8, .int x8), (9, .int x9), (11, .int x11), (12, .int x12), (13, .int x13), (14, .int x14), (15, .int x15)] → jL_law_1175 L xs κ115 post a1 a2 a3 x6 x8 x9 x11 x12 x13 x14 x15 → W p l e room_1 s m #[Value.ref b] below meth c H locs kc ks (lw_Z below #[Value.ref b] s) (F0 m 1175 ls []) := by
  obtain ⟨hx, hb, hml, hown, hts, hE, hz, hlt, hX, hbl, hbA, hL, hr, hlocks, hze⟩ := id X
  intro kc ks hB1 hB2 hX1 hX2 a1 a2 a3 b1 x6 x8 x9 x11 x12 x13 x14 x15 H locs ls hX9 hW hS hl h
  unfold jL_law_1175 at h
  refine lv_iload hx hb dL_law_1175 (lv_at hl 11 rfl) ?_
  refine lv_bipush (v := (28 : Int32)) hx hb dL_law_1177 (by decide) ?_
  refine r_icmp_ge hx hb rfl (show (28 : Int32).toInt = 28 by decide) (tgt := 1310) dL_law_1179 (by decide) (fun c122 => ?_) (fun c122 => ?_)
  · have h := ite_f c122 h
    exact tL_law_1310 (σ := σ) (ρ := ρ) X κ115 post hpost bc115 bs115 hk115 _ _ (by omega) (by omega) (by omega) (by omega) a1 a2 a3 b1 x6 x8 x9 x11 x12 x13 x14 hX9 hW hS (lv_sub hl [0, 1, 2, 3, 4, 5, 6, 7, 8, 9, 10, 11, 12] rfl) h
  · have h := ite_t c122 h
    refine lv_aload_n hx hb dL_law_1182 rfl (lv_at hl 2 rfl) ?_
    refine lv_iconst (v := (2 : Int32)) hx hb dL_law_1183 (by decide) ?_
    obtain ⟨b157, h⟩ := h
    refine r_iald hx hb hE hW 100 0 ⟨rfl, by decide, by decide⟩ (n := 14) (f := a3 0) rfl b157 (v := a3 0 ((2 : Int32)).toNatClampNeg) rfl dL_law_1184 ?_
    refine r_if_le hx hb rfl (tgt := 1310) dL_law_1185 (by decide) (fun c158 => ?_) (fun c158 => ?_)
    · have h := ite_t c158 h
      exact tL_law_1310 (σ := σ) (ρ := ρ) X κ115 post hpost bc115 bs115 hk115 _ _ (by omega) (by omega) (by omega) (by omega) a1 a2 a3 b1 x6 x8 x9 x11 x12 x13 x14 hX9 hW hS (lv_sub hl [0, 1, 2, 3, 4, 5, 6, 7, 8, 9, 10, 11, 12] rfl) h
    · have h := ite_f c158 h
      refine lv_iload hx hb dL_law_1188 (lv_at hl 11 rfl) ?_
      refine lv_bipush (v := (26 : Int32)) hx hb dL_law_1190 (by decide) ?_
      refine r_icmp_ne hx hb rfl (show (26 : Int32).toInt = 26 by decide) (tgt := 1215) dL_law_1192 (by decide) (fun c159 => ?_) (fun c159 => ?_)
      · have h := ite_f c159 h
        refine lv_aload_n hx hb dL_law_1215 rfl (lv_at hl 1 rfl) ?_
        refine lv_iconst (v := (3 : Int32)) hx hb dL_law_1216 (by decide) ?_
        refine lv_iload hx hb dL_law_1217 (lv_at hl 13 rfl) ?_
        refine lv_iload hx hb dL_law_1219 (lv_at hl 12 rfl) ?_
        refine lv_bipush (v := (64 : Int32)) hx hb dL_law_1221 (by decide) ?_
        refine lv_idiv hx hb dL_law_1223 (by decide) ?_
        refine lv_bipush (v := (90 : Int32)) hx hb dL_law_1224 (by decide) ?_
        refine lv_irem hx hb dL_law_1226 (by decide) ?_
        refine lv_iload hx hb dL_law_1227 (lv_at hl 12 rfl) ?_
        refine lv_bipush (v := (64 : Int32)) hx hb dL_law_1229 (by decide) ?_
        refine lv_idiv hx hb dL_law_1231 (by decide) ?_
        refine lv_bipush (v := (90 : Int32)) hx hb dL_law_1232 (by decide) ?_
        refine lv_irem hx hb dL_law_1234 (by decide) ?_
        refine lv_iload hx hb dL_law_1235 (lv_at hl 12 rfl) ?_
        refine lv_sipush (v := (5760 : Int32)) hx hb dL_law_1237 (by decide) ?_
        refine lv_idiv hx hb dL_law_1240 (by decide) ?_
        refine lv_bipush (v := (20 : Int32)) hx hb dL_law_1241 (by decide) ?_
        refine lv_irem hx hb dL_law_1243 (by decide) ?_
        refine lv_iadd hx hb dL_law_1244 ?_
        refine lv_iconst (v := (0 : Int32)) hx hb dL_law_1245 (by decide) ?_
        refine kWA_Si (rest := []) (As := [.ref (b1 0 0), .int ((3 : Int32)), .int x15, .int ((x14 / ((64 : Int32))) - (x14 / ((64 : Int32))) / ((90 : Int32)) * ((90 : Int32))), .int (((x14 / ((64 : Int32))) - (x14 / ((64 : Int32))) / ((90 : Int32)) * ((90 : Int32))) + ((x14 / ((5760 : Int32))) - (x14 / ((5760 : Int32))) / ((20 : Int32)) * ((20 : Int32)))), .int ((0 : Int32))]) ⟨hx, hb, hml, hown, hts⟩ hE hz hS hW (mtL_silent_3 l hlt z G b1 a1 a2 a3 lo x15 ((x14 / ((64 : Int32))) - (x14 / ((64 : Int32))) / ((90 : Int32)) * ((90 : Int32))) (((x14 / ((64 : Int32))) - (x14 / ((64 : Int32))) / ((90 : Int32)) * ((90 : Int32))) + ((x14 / ((5760 : Int32))) - (x14 / ((5760 : Int32))) / ((20 : Int32)) * ((20 : Int32)))) ((0 : Int32)) _ h) (vx_cwSW 6 hts gL_law_L_silent rfl rfl rfl (by decide +kernel) ⟨Nat.le_of_ble_eq_true rfl, Nat.le_of_ble_eq_true rfl⟩) rfl hl.1 rfl (Nat.le_of_ble_eq_true rfl) dL_law_1246 ⟨by show _ ≤ 600104; omega, by show _ ≤ 7301314; omega⟩ (fun r160 S1 ad163 H locs hp hW hS => ?_)
        obtain ⟨t161, vv162, rfl, q164, h⟩ := hp
        have z165 : ad163 0 0 = b1 0 0 := (q164 0 0 (by decide) rfl).2
        have z166 : ad163 100 0 = b1 100 0 := (q164 100 0 (by decide) ⟨rfl, by decide, by decide⟩).2
        have z167 : ad163 101 0 = b1 101 0 := (q164 101 0 (by decide) ⟨rfl, by decide, by decide⟩).2
        have z168 : ad163 102 0 = b1 102 0 := (q164 102 0 (by decide) ⟨rfl, by decide, by decide⟩).2
        have z169 : ad163 103 0 = b1 103 0 := (q164 103 0 (by decide) ⟨rfl, by decide, by decide⟩).2
        have hl : lv_has ls 23 [(0, .ref b), (1, .ref (ad163 0 0)), (2, .ref (ad163 100 0)), (3, .ref (ad163 101 0)), (4, .ref (ad163 102 0)), (5, .ref (ad163 103 0)), (6, .long x6), (8, .int x8), (9, .int x9), (11, .int x11), (12, .int x12), (13, .int x13), (14, .int x14), (15, .int x15)] := by rw [z165, z166, z167, z168, z169]; exact hl
        exact tL_law_1249 (σ := σ) (ρ := ρ) X κ115 post hpost bc115 bs115 hk115 _ _ (by omega) (by omega) (by omega) (by omega) t161 vv162 a3 ad163 x6 x8 x9 x11 x12 x13 x14 x15 r160 (Xt.tr hX9 q164) hW hS (lv_sub hl [0, 1, 2, 3, 4, 5, 6, 7, 8, 9, 10, 11, 12, 13] rfl) h
      · have h := ite_t c159 h
        refine lv_aload_n hx hb dL_law_1195 rfl (lv_at hl 1 rfl) ?_
        refine lv_iconst (v := (2 : Int32)) hx hb dL_law_1196 (by decide) ?_
        refine lv_iload hx hb dL_law_1197 (lv_at hl 13 rfl) ?_
        refine lv_iload hx hb dL_law_1199 (lv_at hl 12 rfl) ?_
        refine lv_bipush (v := (64 : Int32)) hx hb dL_law_1201 (by decide) ?_
        refine lv_idiv hx hb dL_law_1203 (by decide) ?_
        refine lv_bipush (v := (90 : Int32)) hx hb dL_law_1204 (by decide) ?_
        refine lv_irem hx hb dL_law_1206 (by decide) ?_
        refine lv_iconst (v := (0 : Int32)) hx hb dL_law_1207 (by decide) ?_
        refine lv_iconst (v := (0 : Int32)) hx hb dL_law_1208 (by decide) ?_
        refine kWA_Si (rest := []) (As := [.ref (b1 0 0), .int ((2 : Int32)), .int x15, .int ((x14 / ((64 : Int32))) - (x14 / ((64 : Int32))) / ((90 : Int32)) * ((90 : Int32))), .int ((0 : Int32)), .int ((0 : Int32))]) ⟨hx, hb, hml, hown, hts⟩ hE hz hS hW (mtL_silent_2 l hlt z G b1 a1 a2 a3 lo x15 ((x14 / ((64 : Int32))) - (x14 / ((64 : Int32))) / ((90 : Int32)) * ((90 : Int32))) ((0 : Int32)) ((0 : Int32)) _ h) (vx_cwSW 6 hts gL_law_L_silent rfl rfl rfl (by decide +kernel) ⟨Nat.le_of_ble_eq_true rfl, Nat.le_of_ble_eq_true rfl⟩) rfl hl.1 rfl (Nat.le_of_ble_eq_true rfl) dL_law_1209 ⟨by show _ ≤ 600104; omega, by show _ ≤ 7301314; omega⟩ (fun r194 S1 ad197 H locs hp hW hS => ?_)
        obtain ⟨t195, vv196, rfl, q198, h⟩ := hp
        have z199 : ad197 0 0 = b1 0 0 := (q198 0 0 (by decide) rfl).2
        have z200 : ad197 100 0 = b1 100 0 := (q198 100 0 (by decide) ⟨rfl, by decide, by decide⟩).2
        have z201 : ad197 101 0 = b1 101 0 := (q198 101 0 (by decide) ⟨rfl, by decide, by decide⟩).2
        have z202 : ad197 102 0 = b1 102 0 := (q198 102 0 (by decide) ⟨rfl, by decide, by decide⟩).2
        have z203 : ad197 103 0 = b1 103 0 := (q198 103 0 (by decide) ⟨rfl, by decide, by decide⟩).2
        have hl : lv_has ls 23 [(0, .ref b), (1, .ref (ad197 0 0)), (2, .ref (ad197 100 0)), (3, .ref (ad197 101 0)), (4, .ref (ad197 102 0)), (5, .ref (ad197 103 0)), (6, .long x6), (8, .int x8), (9, .int x9), (11, .int x11), (12, .int x12), (13, .int x13), (14, .int x14), (15, .int x15)] := by rw [z199, z200, z201, z202, z203]; exact hl
        refine lv_goto (tgt := 1249) hx hb dL_law_1212 (by decide) ?_
        exact tL_law_1249 (σ := σ) (ρ := ρ) X κ115 post hpost bc115 bs115 hk115 _ _ (by omega) (by omega) (by omega) (by omega) t195 vv196 a3 ad197 x6 x8 x9 x11 x12 x13 x14 x15 r194 (Xt.tr hX9 q198) hW hS (lv_sub hl [0, 1, 2, 3, 4, 5, 6, 7, 8, 9, 10, 11, 12, 13] rfl) h

set_option maxHeartbeats 4000000 in
set_option maxRecDepth 100000 in
theorem tL_law_1141 {p : Program} {l : Launch} {e : Env} {s : State} {m : MethodId} {below : List Frame} {meth : Method} {c : Code} {b L : Nat} {xs : Nat → Int32} {z : Nat} {G : Gl} {ad : Nat → Nat → Nat} {σ : SG} {ν : NU} {ρ : RH} {lo : Int64} (X : LCX p l e s m below meth c b L xs z G) (κ115 : SG → NU → RH → Int64 → Int32 → Int32 → Int32 → Int32 → Prop) (post : Int32 → Prop) (hpost : ∀ r, post r → r = 1) (bc115 bs115 : Nat) (hk115 : ∀ (kc ks : Nat), kc + bc115 ≤ 600104 → ks + bs115 ≤ 7301314 → ∀ (a1 : SG) (a2 : NU) (a3 : RH) (b1 : Nat → Nat → Nat) (x6 : Int64) (x8 : Int32) (x9 : Int32) (x10 : Int32) (x11 : Int32) {H : Heap} {locs : List Loc} {ls : Array Slot}, Xt ad b1 ν a2 → WP z G b1 (a1, a2, a3, lo) H → va_S (Az z) s.heap H locs → lv_has ls 23 [(0, .ref b), (1, .ref (b1 0 0)), (2, .ref (b1 100 0)), (3, .ref (b1 101 0)), (4, .ref (b1 102 0)), (5, .ref (b1 103 0)), (6, .long x6), (8, .int x8), (9, .int x9), (10, .int x10), (11, .int x11)] → κ115 a1 a2 a3 x6 x8 x9 x10 x11 → W p l e room_1 s m #[Value.ref b] below meth c H locs kc ks (lw_Z below #[Value.ref b] s) (F0 m 115 ls [])) : ∀ (kc ks : Nat), kc + 1978 + bc115 ≤ 600104 → ks + 34665 + bs115 ≤ 7301314 → kc + 1500 ≤ 600104 → ks + 28184 ≤ 7301314 → ∀ (a1 : SG) (a2 : NU) (a3 : RH) (b1 : Nat → Nat → Nat) (x6 : Int64) (x8 : Int32) (x9 : Int32) (x11 : Int32) (x12 : Int32) (x14 : Int32) (x15 : Int32) (x16 : Int32) (x17 : Int32) (y0 : Int32) {H : Heap} {locs : List Loc} {ls : Array Slot}, Xt ad b1 ν a2 → WP z G b1 (a1, a2, a3, lo) H → va_S (Az z) s.heap H locs → lv_has ls 23 [(0, .ref b), (1, .ref (b1 0 0)), (2, .ref (b1 100 0)), (3, .ref (b1 101 0)), (4, .ref (b1 102 0)), (5, .ref (b1 103 0)), (6, .long x6), (8, .int x8), (9, .int x9), (11, .int x11), (12, .int x12), (14, .int x14), (15, .int x15), (16, .int x16), (17, .int x17)] → jL_law_1141 L xs κ115 post a1 a2 a3 x6 x8 x9 x11 x12 x14 x15 x16 x17 y0 → W p l e room_1 s m #[Value.ref b] below meth c H locs kc ks (lw_Z below #[Value.ref b] s) (F0 m 1141 ls [.int y0]) := by
  obtain ⟨hx, hb, hml, hown, hts, hE, hz, hlt, hX, hbl, hbA, hL, hr, hlocks, hze⟩ := id X
  intro kc ks hB1 hB2 hX1 hX2 a1 a2 a3 b1 x6 x8 x9 x11 x12 x14 x15 x16 x17 y0 H locs ls hX9 hW hS hl h
  unfold jL_law_1141 at h
  refine lv_istore (lv' := [(10, .int y0), (0, .ref b), (1, .ref (b1 0 0)), (2, .ref (b1 100 0)), (3, .ref (b1 101 0)), (4, .ref (b1 102 0)), (5, .ref (b1 103 0)), (6, .long x6), (8, .int x8), (9, .int x9), (11, .int x11), (12, .int x12), (14, .int x14), (15, .int x15), (16, .int x16), (17, .int x17)]) hx hb dL_law_1141 hl (by decide) rfl (fun ls hl => ?_)
  refine lv_aload hx hb dL_law_1143 (lv_at hl 6 rfl) ?_
  refine lv_iload hx hb dL_law_1145 (lv_at hl 13 rfl) ?_
  refine lv_iload hx hb dL_law_1147 (lv_at hl 14 rfl) ?_
  refine r_if_eq hx hb rfl (tgt := 1166) dL_law_1149 (by decide) (fun c220 => ?_) (fun c220 => ?_)
  · have h := ite_t c220 h
    refine lv_aload hx hb dL_law_1166 (lv_at hl 6 rfl) ?_
    refine lv_iload hx hb dL_law_1168 (lv_at hl 13 rfl) ?_
    obtain ⟨b221, h⟩ := h
    refine r_iald hx hb hE hW 103 0 ⟨rfl, by decide, by decide⟩ (n := 40) (f := a3 3) rfl b221 (v := a3 3 x15.toNatClampNeg) rfl dL_law_1170 ?_
    obtain ⟨b222, h⟩ := h
    refine r_iastM hx hb hE hW hS 3 (k := 103) rfl ⟨rfl, by decide, by decide⟩ (n := 40) (fun _ => rfl) (fun _ _ => rfl) b222 dL_law_1171 (fun t223 e224 H locs hW hS => ?_)
    have h := h t223 e224
    refine lv_goto (tgt := 1477) hx hb dL_law_1172 (by decide) ?_
    exact tL_law_1477 (σ := σ) (ρ := ρ) X κ115 post hpost bc115 bs115 hk115 _ _ (by omega) (by omega) (by omega) (by omega) a1 a2 t223 b1 x6 x8 x9 y0 x11 x12 x14 hX9 hW hS (lv_sub hl [1, 2, 3, 4, 5, 6, 7, 8, 9, 0, 10, 11, 12] rfl) h
  · have h := ite_f c220 h
    refine lv_iload hx hb dL_law_1152 (lv_at hl 15 rfl) ?_
    refine lv_iconst (v := (1 : Int32)) hx hb dL_law_1154 (by decide) ?_
    refine lv_iadd hx hb dL_law_1155 ?_
    refine lv_aload_n hx hb dL_law_1156 rfl (lv_at hl 3 rfl) ?_
    refine lv_iconst (v := (0 : Int32)) hx hb dL_law_1157 (by decide) ?_
    obtain ⟨b225, h⟩ := h
    refine r_iald hx hb hE hW 100 0 ⟨rfl, by decide, by decide⟩ (n := 14) (f := a3 0) rfl b225 (v := a3 0 ((0 : Int32)).toNatClampNeg) rfl dL_law_1158 ?_
    refine lv_bipush (v := (13 : Int32)) hx hb dL_law_1159 (by decide) ?_
    refine lv_ishl hx hb dL_law_1161 ?_
    refine lv_ior hx hb dL_law_1162 ?_
    refine lv_goto (tgt := 1171) hx hb dL_law_1163 (by decide) ?_
    obtain ⟨b226, h⟩ := h
    refine r_iastM hx hb hE hW hS 3 (k := 103) rfl ⟨rfl, by decide, by decide⟩ (n := 40) (fun _ => rfl) (fun _ _ => rfl) b226 dL_law_1171 (fun t227 e228 H locs hW hS => ?_)
    have h := h t227 e228
    refine lv_goto (tgt := 1477) hx hb dL_law_1172 (by decide) ?_
    exact tL_law_1477 (σ := σ) (ρ := ρ) X κ115 post hpost bc115 bs115 hk115 _ _ (by omega) (by omega) (by omega) (by omega) a1 a2 t227 b1 x6 x8 x9 y0 x11 x12 x14 hX9 hW hS (lv_sub hl [1, 2, 3, 4, 5, 6, 7, 8, 9, 0, 10, 11, 12] rfl) h

set_option maxHeartbeats 4000000 in
set_option maxRecDepth 100000 in
theorem tL_law_1133 {p : Program} {l : Launch} {e : Env} {s : State} {m : MethodId} {below : List Frame} {meth : Method} {c : Code} {b L : Nat} {xs : Nat → Int32} {z : Nat} {G : Gl} {ad : Nat → Nat → Nat} {σ : SG} {ν : NU} {ρ : RH} {lo : Int64} (X : LCX p l e s m below meth c b L xs z G) (κ115 : SG → NU → RH → Int64 → Int32 → Int32 → Int32 → Int32 → Prop) (post : Int32 → Prop) (hpost : ∀ r, post r → r = 1) (bc115 bs115 : Nat) (hk115 : ∀ (kc ks : Nat), kc + bc115 ≤ 600104 → ks + bs115 ≤ 7301314 → ∀ (a1 : SG) (a2 : NU) (a3 : RH) (b1 : Nat → Nat → Nat) (x6 : Int64) (x8 : Int32) (x9 : Int32) (x10 : Int32) (x11 : Int32) {H : Heap} {locs : List Loc} {ls : Array Slot}, Xt ad b1 ν a2 → WP z G b1 (a1, a2, a3, lo) H → va_S (Az z) s.heap H locs → lv_has ls 23 [(0, .ref b), (1, .ref (b1 0 0)), (2, .ref (b1 100 0)), (3, .ref (b1 101 0)), (4, .ref (b1 102 0)), (5, .ref (b1 103 0)), (6, .long x6), (8, .int x8), (9, .int x9), (10, .int x10), (11, .int x11)] → κ115 a1 a2 a3 x6 x8 x9 x10 x11 → W p l e room_1 s m #[Value.ref b] below meth c H locs kc ks (lw_Z below #[Value.ref b] s) (F0 m 115 ls [])) : ∀ (kc ks : Nat), kc + 1978 + bc115 ≤ 600104 → ks + 34665 + bs115 ≤ 7301314 → kc + 1500 ≤ 600104 → ks + 28184 ≤ 7301314 → ∀ (a1 : SG) (a2 : NU) (a3 : RH) (b1 : Nat → Nat → Nat) (x6 : Int64) (x8 : Int32) (x9 : Int32) (x11 : Int32) (x12 : Int32) (x14 : Int32) (x15 : Int32) (x16 : Int32) (x17 : Int32) (y0 : Int32) (y1 : Int32) {H : Heap} {locs : List Loc} {ls : Array Slot}, Xt ad b1 ν a2 → WP z G b1 (a1, a2, a3, lo) H → va_S (Az z) s.heap H locs → lv_has ls 23 [(0, .ref b), (1, .ref (b1 0 0)), (2, .ref (b1 100 0)), (3, .ref (b1 101 0)), (4, .ref (b1 102 0)), (5, .ref (b1 103 0)), (6, .long x6), (8, .int x8), (9, .int x9), (11, .int x11), (12, .int x12), (14, .int x14), (15, .int x15), (16, .int x16), (17, .int x17)] → jL_law_1133 L xs κ115 post a1 a2 a3 x6 x8 x9 x11 x12 x14 x15 x16 x17 y0 y1 → W p l e room_1 s m #[Value.ref b] below meth c H locs kc ks (lw_Z below #[Value.ref b] s) (F0 m 1133 ls [.int y1, .int y0]) := by
  obtain ⟨hx, hb, hml, hown, hts, hE, hz, hlt, hX, hbl, hbA, hL, hr, hlocks, hze⟩ := id X
  intro kc ks hB1 hB2 hX1 hX2 a1 a2 a3 b1 x6 x8 x9 x11 x12 x14 x15 x16 x17 y0 y1 H locs ls hX9 hW hS hl h
  unfold jL_law_1133 at h
  refine r_icmp_ne hx hb rfl rfl (tgt := 1140) dL_law_1133 (by decide) (fun c219 => ?_) (fun c219 => ?_)
  · have h := ite_f c219 h
    refine lv_iconst (v := (0 : Int32)) hx hb dL_law_1140 (by decide) ?_
    exact tL_law_1141 (σ := σ) (ρ := ρ) X κ115 post hpost bc115 bs115 hk115 _ _ (by omega) (by omega) (by omega) (by omega) a1 a2 a3 b1 x6 x8 x9 x11 x12 x14 x15 x16 x17 ((0 : Int32)) hX9 hW hS (lv_sub hl [0, 1, 2, 3, 4, 5, 6, 7, 8, 9, 10, 11, 12, 13, 14] rfl) h
  · have h := ite_t c219 h
    refine lv_iconst (v := (1 : Int32)) hx hb dL_law_1136 (by decide) ?_
    refine lv_goto (tgt := 1141) hx hb dL_law_1137 (by decide) ?_
    exact tL_law_1141 (σ := σ) (ρ := ρ) X κ115 post hpost bc115 bs115 hk115 _ _ (by omega) (by omega) (by omega) (by omega) a1 a2 a3 b1 x6 x8 x9 x11 x12 x14 x15 x16 x17 ((1 : Int32)) hX9 hW hS (lv_sub hl [0, 1, 2, 3, 4, 5, 6, 7, 8, 9, 10, 11, 12, 13, 14] rfl) h

set_option maxHeartbeats 4000000 in
set_option maxRecDepth 100000 in
theorem tL_law_1098 {p : Program} {l : Launch} {e : Env} {s : State} {m : MethodId} {below : List Frame} {meth : Method} {c : Code} {b L : Nat} {xs : Nat → Int32} {z : Nat} {G : Gl} {ad : Nat → Nat → Nat} {σ : SG} {ν : NU} {ρ : RH} {lo : Int64} (X : LCX p l e s m below meth c b L xs z G) (κ115 : SG → NU → RH → Int64 → Int32 → Int32 → Int32 → Int32 → Prop) (post : Int32 → Prop) (hpost : ∀ r, post r → r = 1) (bc115 bs115 : Nat) (hk115 : ∀ (kc ks : Nat), kc + bc115 ≤ 600104 → ks + bs115 ≤ 7301314 → ∀ (a1 : SG) (a2 : NU) (a3 : RH) (b1 : Nat → Nat → Nat) (x6 : Int64) (x8 : Int32) (x9 : Int32) (x10 : Int32) (x11 : Int32) {H : Heap} {locs : List Loc} {ls : Array Slot}, Xt ad b1 ν a2 → WP z G b1 (a1, a2, a3, lo) H → va_S (Az z) s.heap H locs → lv_has ls 23 [(0, .ref b), (1, .ref (b1 0 0)), (2, .ref (b1 100 0)), (3, .ref (b1 101 0)), (4, .ref (b1 102 0)), (5, .ref (b1 103 0)), (6, .long x6), (8, .int x8), (9, .int x9), (10, .int x10), (11, .int x11)] → κ115 a1 a2 a3 x6 x8 x9 x10 x11 → W p l e room_1 s m #[Value.ref b] below meth c H locs kc ks (lw_Z below #[Value.ref b] s) (F0 m 115 ls [])) : ∀ (kc ks : Nat), kc + 1988 + bc115 ≤ 600104 → ks + 34834 + bs115 ≤ 7301314 → kc + 1510 ≤ 600104 → ks + 28353 ≤ 7301314 → ∀ (a1 : SG) (a2 : NU) (a3 : RH) (b1 : Nat → Nat → Nat) (x6 : Int64) (x8 : Int32) (x9 : Int32) (x11 : Int32) (x12 : Int32) (x14 : Int32) (x15 : Int32) (y0 : Int32) {H : Heap} {locs : List Loc} {ls : Array Slot}, Xt ad b1 ν a2 → WP z G b1 (a1, a2, a3, lo) H → va_S (Az z) s.heap H locs → lv_has ls 23 [(0, .ref b), (1, .ref (b1 0 0)), (2, .ref (b1 100 0)), (3, .ref (b1 101 0)), (4, .ref (b1 102 0)), (5, .ref (b1 103 0)), (6, .long x6), (8, .int x8), (9, .int x9), (11, .int x11), (12, .int x12), (14, .int x14), (15, .int x15)] → jL_law_1098 L xs κ115 post a1 a2 a3 x6 x8 x9 x11 x12 x14 x15 y0 → W p l e room_1 s m #[Value.ref b] below meth c H locs kc ks (lw_Z below #[Value.ref b] s) (F0 m 1098 ls [.int y0]) := by
  obtain ⟨hx, hb, hml, hown, hts, hE, hz, hlt, hX, hbl, hbA, hL, hr, hlocks, hze⟩ := id X
  intro kc ks hB1 hB2 hX1 hX2 a1 a2 a3 b1 x6 x8 x9 x11 x12 x14 x15 y0 H locs ls hX9 hW hS hl h
  unfold jL_law_1098 at h
  refine lv_istore (lv' := [(16, .int y0), (0, .ref b), (1, .ref (b1 0 0)), (2, .ref (b1 100 0)), (3, .ref (b1 101 0)), (4, .ref (b1 102 0)), (5, .ref (b1 103 0)), (6, .long x6), (8, .int x8), (9, .int x9), (11, .int x11), (12, .int x12), (14, .int x14), (15, .int x15)]) hx hb dL_law_1098 hl (by decide) rfl (fun ls hl => ?_)
  refine lv_iload hx hb dL_law_1100 (lv_at hl 12 rfl) ?_
  refine lv_bipush (v := (64 : Int32)) hx hb dL_law_1102 (by decide) ?_
  refine lv_idiv hx hb dL_law_1104 (by decide) ?_
  refine lv_bipush (v := (90 : Int32)) hx hb dL_law_1105 (by decide) ?_
  refine lv_irem hx hb dL_law_1107 (by decide) ?_
  refine lv_istore (lv' := [(17, .int ((x14 / ((64 : Int32))) - (x14 / ((64 : Int32))) / ((90 : Int32)) * ((90 : Int32)))), (16, .int y0), (0, .ref b), (1, .ref (b1 0 0)), (2, .ref (b1 100 0)), (3, .ref (b1 101 0)), (4, .ref (b1 102 0)), (5, .ref (b1 103 0)), (6, .long x6), (8, .int x8), (9, .int x9), (11, .int x11), (12, .int x12), (14, .int x14), (15, .int x15)]) hx hb dL_law_1108 hl (by decide) rfl (fun ls hl => ?_)
  refine lv_aload_n hx hb dL_law_1110 rfl (lv_at hl 3 rfl) ?_
  refine lv_iconst (v := (1 : Int32)) hx hb dL_law_1111 (by decide) ?_
  refine lv_iload hx hb dL_law_1112 (lv_at hl 14 rfl) ?_
  refine lv_iload hx hb dL_law_1114 (lv_at hl 0 rfl) ?_
  refine lv_iconst (v := (0 : Int32)) hx hb dL_law_1116 (by decide) ?_
  refine lv_iconst (v := (0 : Int32)) hx hb dL_law_1117 (by decide) ?_
  refine kWA_Si (rest := []) (As := [.ref (b1 0 0), .int ((1 : Int32)), .int x15, .int ((x14 / ((64 : Int32))) - (x14 / ((64 : Int32))) / ((90 : Int32)) * ((90 : Int32))), .int ((0 : Int32)), .int ((0 : Int32))]) ⟨hx, hb, hml, hown, hts⟩ hE hz hS hW (mtL_silent_1 l hlt z G b1 a1 a2 a3 lo x15 ((x14 / ((64 : Int32))) - (x14 / ((64 : Int32))) / ((90 : Int32)) * ((90 : Int32))) ((0 : Int32)) ((0 : Int32)) _ h) (vx_cwSW 6 hts gL_law_L_silent rfl rfl rfl (by decide +kernel) ⟨Nat.le_of_ble_eq_true rfl, Nat.le_of_ble_eq_true rfl⟩) rfl hl.1 rfl (Nat.le_of_ble_eq_true rfl) dL_law_1118 ⟨by show _ ≤ 600104; omega, by show _ ≤ 7301314; omega⟩ (fun r208 S1 ad211 H locs hp hW hS => ?_)
  obtain ⟨t209, vv210, rfl, q212, h⟩ := hp
  have z213 : ad211 0 0 = b1 0 0 := (q212 0 0 (by decide) rfl).2
  have z214 : ad211 100 0 = b1 100 0 := (q212 100 0 (by decide) ⟨rfl, by decide, by decide⟩).2
  have z215 : ad211 101 0 = b1 101 0 := (q212 101 0 (by decide) ⟨rfl, by decide, by decide⟩).2
  have z216 : ad211 102 0 = b1 102 0 := (q212 102 0 (by decide) ⟨rfl, by decide, by decide⟩).2
  have z217 : ad211 103 0 = b1 103 0 := (q212 103 0 (by decide) ⟨rfl, by decide, by decide⟩).2
  have hl : lv_has ls 23 [(17, .int ((x14 / ((64 : Int32))) - (x14 / ((64 : Int32))) / ((90 : Int32)) * ((90 : Int32)))), (16, .int y0), (0, .ref b), (1, .ref (ad211 0 0)), (2, .ref (ad211 100 0)), (3, .ref (ad211 101 0)), (4, .ref (ad211 102 0)), (5, .ref (ad211 103 0)), (6, .long x6), (8, .int x8), (9, .int x9), (11, .int x11), (12, .int x12), (14, .int x14), (15, .int x15)] := by rw [z213, z214, z215, z216, z217]; exact hl
  refine lv_iload hx hb dL_law_1121 (lv_at hl 1 rfl) ?_
  refine r_if_eq hx hb rfl (tgt := 1130) dL_law_1123 (by decide) (fun c218 => ?_) (fun c218 => ?_)
  · have h := ite_t c218 h
    refine lv_sipush (v := (-1383 : Int32)) hx hb dL_law_1130 (by decide) ?_
    exact tL_law_1133 (σ := σ) (ρ := ρ) X κ115 post hpost bc115 bs115 hk115 _ _ (by omega) (by omega) (by omega) (by omega) t209 vv210 a3 ad211 x6 x8 x9 x11 x12 x14 x15 y0 ((x14 / ((64 : Int32))) - (x14 / ((64 : Int32))) / ((90 : Int32)) * ((90 : Int32))) r208 ((-1383 : Int32)) (Xt.tr hX9 q212) hW hS (lv_sub hl [2, 3, 4, 5, 6, 7, 8, 9, 10, 11, 12, 13, 14, 1, 0] rfl) h
  · have h := ite_f c218 h
    refine lv_iconst (v := (0 : Int32)) hx hb dL_law_1126 (by decide) ?_
    refine lv_goto (tgt := 1133) hx hb dL_law_1127 (by decide) ?_
    exact tL_law_1133 (σ := σ) (ρ := ρ) X κ115 post hpost bc115 bs115 hk115 _ _ (by omega) (by omega) (by omega) (by omega) t209 vv210 a3 ad211 x6 x8 x9 x11 x12 x14 x15 y0 ((x14 / ((64 : Int32))) - (x14 / ((64 : Int32))) / ((90 : Int32)) * ((90 : Int32))) r208 ((0 : Int32)) (Xt.tr hX9 q212) hW hS (lv_sub hl [2, 3, 4, 5, 6, 7, 8, 9, 10, 11, 12, 13, 14, 1, 0] rfl) h

set_option maxHeartbeats 4000000 in
set_option maxRecDepth 100000 in
theorem tL_law_1029 {p : Program} {l : Launch} {e : Env} {s : State} {m : MethodId} {below : List Frame} {meth : Method} {c : Code} {b L : Nat} {xs : Nat → Int32} {z : Nat} {G : Gl} {ad : Nat → Nat → Nat} {σ : SG} {ν : NU} {ρ : RH} {lo : Int64} (X : LCX p l e s m below meth c b L xs z G) (κ115 : SG → NU → RH → Int64 → Int32 → Int32 → Int32 → Int32 → Prop) (post : Int32 → Prop) (hpost : ∀ r, post r → r = 1) (bc115 bs115 : Nat) (hk115 : ∀ (kc ks : Nat), kc + bc115 ≤ 600104 → ks + bs115 ≤ 7301314 → ∀ (a1 : SG) (a2 : NU) (a3 : RH) (b1 : Nat → Nat → Nat) (x6 : Int64) (x8 : Int32) (x9 : Int32) (x10 : Int32) (x11 : Int32) {H : Heap} {locs : List Loc} {ls : Array Slot}, Xt ad b1 ν a2 → WP z G b1 (a1, a2, a3, lo) H → va_S (Az z) s.heap H locs → lv_has ls 23 [(0, .ref b), (1, .ref (b1 0 0)), (2, .ref (b1 100 0)), (3, .ref (b1 101 0)), (4, .ref (b1 102 0)), (5, .ref (b1 103 0)), (6, .long x6), (8, .int x8), (9, .int x9), (10, .int x10), (11, .int x11)] → κ115 a1 a2 a3 x6 x8 x9 x10 x11 → W p l e room_1 s m #[Value.ref b] below meth c H locs kc ks (lw_Z below #[Value.ref b] s) (F0 m 115 ls [])) : ∀ (kc ks : Nat), kc + 1982 + bc115 ≤ 600104 → ks + 34687 + bs115 ≤ 7301314 → kc + 1504 ≤ 600104 → ks + 28206 ≤ 7301314 → ∀ (a1 : SG) (a2 : NU) (a3 : RH) (b1 : Nat → Nat → Nat) (x6 : Int64) (x8 : Int32) (x9 : Int32) (x11 : Int32) (x12 : Int32) (x14 : Int32) (x16 : Int32) (y0 : Nat) (y2 : Int32) {H : Heap} {locs : List Loc} {ls : Array Slot}, Xt ad b1 ν a2 → WP z G b1 (a1, a2, a3, lo) H → va_S (Az z) s.heap H locs → lv_has ls 23 [(0, .ref b), (1, .ref (b1 0 0)), (2, .ref (b1 100 0)), (3, .ref (b1 101 0)), (4, .ref (b1 102 0)), (5, .ref (b1 103 0)), (6, .long x6), (8, .int x8), (9, .int x9), (11, .int x11), (12, .int x12), (14, .int x14), (16, .int x16)] → jL_law_1029 L xs κ115 post a1 a2 a3 x6 x8 x9 x11 x12 x14 x16 y0 y2 → W p l e room_1 s m #[Value.ref b] below meth c H locs kc ks (lw_Z below #[Value.ref b] s) (F0 m 1029 ls [.int y2, .int ((13 : Int32)), .ref (b1 100 0)]) := by
  obtain ⟨hx, hb, hml, hown, hts, hE, hz, hlt, hX, hbl, hbA, hL, hr, hlocks, hze⟩ := id X
  intro kc ks hB1 hB2 hX1 hX2 a1 a2 a3 b1 x6 x8 x9 x11 x12 x14 x16 y0 y2 H locs ls hX9 hW hS hl h
  unfold jL_law_1029 at h
  obtain ⟨b244, h⟩ := h
  refine r_iastM hx hb hE hW hS 0 (k := 100) rfl ⟨rfl, by decide, by decide⟩ (n := 14) (fun _ => rfl) (fun _ _ => rfl) b244 dL_law_1029 (fun t245 e246 H locs hW hS => ?_)
  have h := h t245 e246
  refine lv_aload_n hx hb dL_law_1030 rfl (lv_at hl 1 rfl) ?_
  refine lv_iconst (v := (0 : Int32)) hx hb dL_law_1031 (by decide) ?_
  refine lv_iload hx hb dL_law_1032 (lv_at hl 12 rfl) ?_
  refine lv_aload_n hx hb dL_law_1034 rfl (lv_at hl 2 rfl) ?_
  refine lv_bipush (v := (11 : Int32)) hx hb dL_law_1035 (by decide) ?_
  obtain ⟨b247, h⟩ := h
  refine r_iald hx hb hE hW 100 0 ⟨rfl, by decide, by decide⟩ (n := 14) (f := t245 0) rfl b247 (v := t245 0 ((11 : Int32)).toNatClampNeg) rfl dL_law_1037 ?_
  refine lv_aload_n hx hb dL_law_1038 rfl (lv_at hl 2 rfl) ?_
  refine lv_bipush (v := (12 : Int32)) hx hb dL_law_1039 (by decide) ?_
  obtain ⟨b248, h⟩ := h
  refine r_iald hx hb hE hW 100 0 ⟨rfl, by decide, by decide⟩ (n := 14) (f := t245 0) rfl b248 (v := t245 0 ((12 : Int32)).toNatClampNeg) rfl dL_law_1041 ?_
  refine lv_aload_n hx hb dL_law_1042 rfl (lv_at hl 2 rfl) ?_
  refine lv_bipush (v := (13 : Int32)) hx hb dL_law_1043 (by decide) ?_
  obtain ⟨b249, h⟩ := h
  refine r_iald hx hb hE hW 100 0 ⟨rfl, by decide, by decide⟩ (n := 14) (f := t245 0) rfl b249 (v := t245 0 ((13 : Int32)).toNatClampNeg) rfl dL_law_1045 ?_
  refine kWA_Si (rest := []) (As := [.ref (b1 0 0), .int ((0 : Int32)), .int x16, .int (t245 0 ((11 : Int32)).toNatClampNeg), .int (t245 0 ((12 : Int32)).toNatClampNeg), .int (t245 0 ((13 : Int32)).toNatClampNeg)]) ⟨hx, hb, hml, hown, hts⟩ hE hz hS hW (mtL_silent_0 l hlt z G b1 a1 a2 t245 lo x16 (t245 0 ((11 : Int32)).toNatClampNeg) (t245 0 ((12 : Int32)).toNatClampNeg) (t245 0 ((13 : Int32)).toNatClampNeg) _ h) (vx_cwSW 6 hts gL_law_L_silent rfl rfl rfl (by decide +kernel) ⟨Nat.le_of_ble_eq_true rfl, Nat.le_of_ble_eq_true rfl⟩) rfl hl.1 rfl (Nat.le_of_ble_eq_true rfl) dL_law_1046 ⟨by show _ ≤ 600104; omega, by show _ ≤ 7301314; omega⟩ (fun r250 S1 ad253 H locs hp hW hS => ?_)
  obtain ⟨t251, vv252, rfl, q254, h⟩ := hp
  have z255 : ad253 0 0 = b1 0 0 := (q254 0 0 (by decide) rfl).2
  have z256 : ad253 100 0 = b1 100 0 := (q254 100 0 (by decide) ⟨rfl, by decide, by decide⟩).2
  have z257 : ad253 101 0 = b1 101 0 := (q254 101 0 (by decide) ⟨rfl, by decide, by decide⟩).2
  have z258 : ad253 102 0 = b1 102 0 := (q254 102 0 (by decide) ⟨rfl, by decide, by decide⟩).2
  have z259 : ad253 103 0 = b1 103 0 := (q254 103 0 (by decide) ⟨rfl, by decide, by decide⟩).2
  have hl : lv_has ls 23 [(0, .ref b), (1, .ref (ad253 0 0)), (2, .ref (ad253 100 0)), (3, .ref (ad253 101 0)), (4, .ref (ad253 102 0)), (5, .ref (ad253 103 0)), (6, .long x6), (8, .int x8), (9, .int x9), (11, .int x11), (12, .int x12), (14, .int x14), (16, .int x16)] := by rw [z255, z256, z257, z258, z259]; exact hl
  refine r_if_ne hx hb rfl (tgt := 1056) dL_law_1049 (by decide) (fun c260 => ?_) (fun c260 => ?_)
  · have h := ite_f c260 h
    refine lv_iconst (v := (0 : Int32)) hx hb dL_law_1056 (by decide) ?_
    refine lv_istore (lv' := [(10, .int ((0 : Int32))), (0, .ref b), (1, .ref (ad253 0 0)), (2, .ref (ad253 100 0)), (3, .ref (ad253 101 0)), (4, .ref (ad253 102 0)), (5, .ref (ad253 103 0)), (6, .long x6), (8, .int x8), (9, .int x9), (11, .int x11), (12, .int x12), (14, .int x14), (16, .int x16)]) hx hb dL_law_1057 hl (by decide) rfl (fun ls hl => ?_)
    refine lv_goto (tgt := 1477) hx hb dL_law_1059 (by decide) ?_
    exact tL_law_1477 (σ := σ) (ρ := ρ) X κ115 post hpost bc115 bs115 hk115 _ _ (by omega) (by omega) (by omega) (by omega) t251 vv252 t245 ad253 x6 x8 x9 ((0 : Int32)) x11 x12 x14 (Xt.tr hX9 q254) hW hS (lv_sub hl [1, 2, 3, 4, 5, 6, 7, 8, 9, 0, 10, 11, 12] rfl) h
  · have h := ite_t c260 h
    refine lv_iconst (v := (1 : Int32)) hx hb dL_law_1052 (by decide) ?_
    refine lv_goto (tgt := 1057) hx hb dL_law_1053 (by decide) ?_
    refine lv_istore (lv' := [(10, .int ((1 : Int32))), (0, .ref b), (1, .ref (ad253 0 0)), (2, .ref (ad253 100 0)), (3, .ref (ad253 101 0)), (4, .ref (ad253 102 0)), (5, .ref (ad253 103 0)), (6, .long x6), (8, .int x8), (9, .int x9), (11, .int x11), (12, .int x12), (14, .int x14), (16, .int x16)]) hx hb dL_law_1057 hl (by decide) rfl (fun ls hl => ?_)
    refine lv_goto (tgt := 1477) hx hb dL_law_1059 (by decide) ?_
    exact tL_law_1477 (σ := σ) (ρ := ρ) X κ115 post hpost bc115 bs115 hk115 _ _ (by omega) (by omega) (by omega) (by omega) t251 vv252 t245 ad253 x6 x8 x9 ((1 : Int32)) x11 x12 x14 (Xt.tr hX9 q254) hW hS (lv_sub hl [1, 2, 3, 4, 5, 6, 7, 8, 9, 0, 10, 11, 12] rfl) h

set_option maxHeartbeats 4000000 in
set_option maxRecDepth 100000 in
theorem tL_law_986 {p : Program} {l : Launch} {e : Env} {s : State} {m : MethodId} {below : List Frame} {meth : Method} {c : Code} {b L : Nat} {xs : Nat → Int32} {z : Nat} {G : Gl} {ad : Nat → Nat → Nat} {σ : SG} {ν : NU} {ρ : RH} {lo : Int64} (X : LCX p l e s m below meth c b L xs z G) (κ115 : SG → NU → RH → Int64 → Int32 → Int32 → Int32 → Int32 → Prop) (post : Int32 → Prop) (hpost : ∀ r, post r → r = 1) (bc115 bs115 : Nat) (hk115 : ∀ (kc ks : Nat), kc + bc115 ≤ 600104 → ks + bs115 ≤ 7301314 → ∀ (a1 : SG) (a2 : NU) (a3 : RH) (b1 : Nat → Nat → Nat) (x6 : Int64) (x8 : Int32) (x9 : Int32) (x10 : Int32) (x11 : Int32) {H : Heap} {locs : List Loc} {ls : Array Slot}, Xt ad b1 ν a2 → WP z G b1 (a1, a2, a3, lo) H → va_S (Az z) s.heap H locs → lv_has ls 23 [(0, .ref b), (1, .ref (b1 0 0)), (2, .ref (b1 100 0)), (3, .ref (b1 101 0)), (4, .ref (b1 102 0)), (5, .ref (b1 103 0)), (6, .long x6), (8, .int x8), (9, .int x9), (10, .int x10), (11, .int x11)] → κ115 a1 a2 a3 x6 x8 x9 x10 x11 → W p l e room_1 s m #[Value.ref b] below meth c H locs kc ks (lw_Z below #[Value.ref b] s) (F0 m 115 ls [])) : ∀ (kc ks : Nat), kc + 1982 + bc115 ≤ 600104 → ks + 34687 + bs115 ≤ 7301314 → kc + 1504 ≤ 600104 → ks + 28206 ≤ 7301314 → ∀ (a1 : SG) (a2 : NU) (a3 : RH) (b1 : Nat → Nat → Nat) (x6 : Int64) (x8 : Int32) (x9 : Int32) (x11 : Int32) (x12 : Int32) (x14 : Int32) (x16 : Int32) (y0 : Nat) (y2 : Int32) {H : Heap} {locs : List Loc} {ls : Array Slot}, Xt ad b1 ν a2 → WP z G b1 (a1, a2, a3, lo) H → va_S (Az z) s.heap H locs → lv_has ls 23 [(0, .ref b), (1, .ref (b1 0 0)), (2, .ref (b1 100 0)), (3, .ref (b1 101 0)), (4, .ref (b1 102 0)), (5, .ref (b1 103 0)), (6, .long x6), (8, .int x8), (9, .int x9), (11, .int x11), (12, .int x12), (14, .int x14), (16, .int x16)] → jL_law_986 L xs κ115 post a1 a2 a3 x6 x8 x9 x11 x12 x14 x16 y0 y2 → W p l e room_1 s m #[Value.ref b] below meth c H locs kc ks (lw_Z below #[Value.ref b] s) (F0 m 986 ls [.int y2, .int ((11 : Int32)), .ref (b1 100 0)]) := by
  obtain ⟨hx, hb, hml, hown, hts, hE, hz, hlt, hX, hbl, hbA, hL, hr, hlocks, hze⟩ := id X
  intro kc ks hB1 hB2 hX1 hX2 a1 a2 a3 b1 x6 x8 x9 x11 x12 x14 x16 y0 y2 H locs ls hX9 hW hS hl h
  unfold jL_law_986 at h
  obtain ⟨b237, h⟩ := h
  refine r_iastM hx hb hE hW hS 0 (k := 100) rfl ⟨rfl, by decide, by decide⟩ (n := 14) (fun _ => rfl) (fun _ _ => rfl) b237 dL_law_986 (fun t238 e239 H locs hW hS => ?_)
  have h := h t238 e239
  refine lv_aload_n hx hb dL_law_987 rfl (lv_at hl 2 rfl) ?_
  refine lv_bipush (v := (12 : Int32)) hx hb dL_law_988 (by decide) ?_
  refine lv_iconst (v := (1 : Int32)) hx hb dL_law_990 (by decide) ?_
  refine lv_iload hx hb dL_law_991 (lv_at hl 11 rfl) ?_
  refine lv_sipush (v := (480 : Int32)) hx hb dL_law_993 (by decide) ?_
  refine lv_idiv hx hb dL_law_996 (by decide) ?_
  refine lv_bipush (v := (7 : Int32)) hx hb dL_law_997 (by decide) ?_
  refine lv_irem hx hb dL_law_999 (by decide) ?_
  refine lv_iadd hx hb dL_law_1000 ?_
  obtain ⟨b240, h⟩ := h
  refine r_iastM hx hb hE hW hS 0 (k := 100) rfl ⟨rfl, by decide, by decide⟩ (n := 14) (fun _ => rfl) (fun _ _ => rfl) b240 dL_law_1001 (fun t241 e242 H locs hW hS => ?_)
  have h := h t241 e242
  refine lv_aload_n hx hb dL_law_1002 rfl (lv_at hl 2 rfl) ?_
  refine lv_bipush (v := (13 : Int32)) hx hb dL_law_1003 (by decide) ?_
  refine lv_iload hx hb dL_law_1005 (lv_at hl 11 rfl) ?_
  refine lv_sipush (v := (3360 : Int32)) hx hb dL_law_1007 (by decide) ?_
  refine lv_idiv hx hb dL_law_1010 (by decide) ?_
  refine lv_iconst (v := (4 : Int32)) hx hb dL_law_1011 (by decide) ?_
  refine lv_irem hx hb dL_law_1012 (by decide) ?_
  refine r_if_le hx hb rfl (tgt := 1020) dL_law_1013 (by decide) (fun c243 => ?_) (fun c243 => ?_)
  · have h := ite_t c243 h
    refine lv_iload hx hb dL_law_1020 (lv_at hl 11 rfl) ?_
    refine lv_sipush (v := (13440 : Int32)) hx hb dL_law_1022 (by decide) ?_
    refine lv_idiv hx hb dL_law_1025 (by decide) ?_
    refine lv_bipush (v := (90 : Int32)) hx hb dL_law_1026 (by decide) ?_
    refine lv_irem hx hb dL_law_1028 (by decide) ?_
    exact tL_law_1029 (σ := σ) (ρ := ρ) X κ115 post hpost bc115 bs115 hk115 _ _ (by omega) (by omega) (by omega) (by omega) a1 a2 t241 b1 x6 x8 x9 x11 x12 x14 x16 0 ((x14 / ((13440 : Int32))) - (x14 / ((13440 : Int32))) / ((90 : Int32)) * ((90 : Int32))) hX9 hW hS (lv_sub hl [0, 1, 2, 3, 4, 5, 6, 7, 8, 9, 10, 11, 12] rfl) h
  · have h := ite_f c243 h
    refine lv_iconst (v := (-1 : Int32)) hx hb dL_law_1016 (by decide) ?_
    refine lv_goto (tgt := 1029) hx hb dL_law_1017 (by decide) ?_
    exact tL_law_1029 (σ := σ) (ρ := ρ) X κ115 post hpost bc115 bs115 hk115 _ _ (by omega) (by omega) (by omega) (by omega) a1 a2 t241 b1 x6 x8 x9 x11 x12 x14 x16 0 ((-1 : Int32)) hX9 hW hS (lv_sub hl [0, 1, 2, 3, 4, 5, 6, 7, 8, 9, 10, 11, 12] rfl) h

set_option maxHeartbeats 4000000 in
set_option maxRecDepth 100000 in
theorem tL_law_947 {p : Program} {l : Launch} {e : Env} {s : State} {m : MethodId} {below : List Frame} {meth : Method} {c : Code} {b L : Nat} {xs : Nat → Int32} {z : Nat} {G : Gl} {ad : Nat → Nat → Nat} {σ : SG} {ν : NU} {ρ : RH} {lo : Int64} (X : LCX p l e s m below meth c b L xs z G) (κ115 : SG → NU → RH → Int64 → Int32 → Int32 → Int32 → Int32 → Prop) (post : Int32 → Prop) (hpost : ∀ r, post r → r = 1) (bc115 bs115 : Nat) (hk115 : ∀ (kc ks : Nat), kc + bc115 ≤ 600104 → ks + bs115 ≤ 7301314 → ∀ (a1 : SG) (a2 : NU) (a3 : RH) (b1 : Nat → Nat → Nat) (x6 : Int64) (x8 : Int32) (x9 : Int32) (x10 : Int32) (x11 : Int32) {H : Heap} {locs : List Loc} {ls : Array Slot}, Xt ad b1 ν a2 → WP z G b1 (a1, a2, a3, lo) H → va_S (Az z) s.heap H locs → lv_has ls 23 [(0, .ref b), (1, .ref (b1 0 0)), (2, .ref (b1 100 0)), (3, .ref (b1 101 0)), (4, .ref (b1 102 0)), (5, .ref (b1 103 0)), (6, .long x6), (8, .int x8), (9, .int x9), (10, .int x10), (11, .int x11)] → κ115 a1 a2 a3 x6 x8 x9 x10 x11 → W p l e room_1 s m #[Value.ref b] below meth c H locs kc ks (lw_Z below #[Value.ref b] s) (F0 m 115 ls [])) : ∀ (kc ks : Nat), kc + 1982 + bc115 ≤ 600104 → ks + 34687 + bs115 ≤ 7301314 → kc + 1504 ≤ 600104 → ks + 28206 ≤ 7301314 → ∀ (a1 : SG) (a2 : NU) (a3 : RH) (b1 : Nat → Nat → Nat) (x6 : Int64) (x8 : Int32) (x9 : Int32) (x11 : Int32) (x12 : Int32) (x14 : Int32) (x15 : Int32) (y0 : Int32) {H : Heap} {locs : List Loc} {ls : Array Slot}, Xt ad b1 ν a2 → WP z G b1 (a1, a2, a3, lo) H → va_S (Az z) s.heap H locs → lv_has ls 23 [(0, .ref b), (1, .ref (b1 0 0)), (2, .ref (b1 100 0)), (3, .ref (b1 101 0)), (4, .ref (b1 102 0)), (5, .ref (b1 103 0)), (6, .long x6), (8, .int x8), (9, .int x9), (11, .int x11), (12, .int x12), (14, .int x14), (15, .int x15)] → jL_law_947 L xs κ115 post a1 a2 a3 x6 x8 x9 x11 x12 x14 x15 y0 → W p l e room_1 s m #[Value.ref b] below meth c H locs kc ks (lw_Z below #[Value.ref b] s) (F0 m 947 ls [.int y0]) := by
  obtain ⟨hx, hb, hml, hown, hts, hE, hz, hlt, hX, hbl, hbA, hL, hr, hlocks, hze⟩ := id X
  intro kc ks hB1 hB2 hX1 hX2 a1 a2 a3 b1 x6 x8 x9 x11 x12 x14 x15 y0 H locs ls hX9 hW hS hl h
  unfold jL_law_947 at h
  refine lv_istore (lv' := [(16, .int y0), (0, .ref b), (1, .ref (b1 0 0)), (2, .ref (b1 100 0)), (3, .ref (b1 101 0)), (4, .ref (b1 102 0)), (5, .ref (b1 103 0)), (6, .long x6), (8, .int x8), (9, .int x9), (11, .int x11), (12, .int x12), (14, .int x14), (15, .int x15)]) hx hb dL_law_947 hl (by decide) rfl (fun ls hl => ?_)
  refine lv_aload_n hx hb dL_law_949 rfl (lv_at hl 3 rfl) ?_
  refine lv_bipush (v := (10 : Int32)) hx hb dL_law_950 (by decide) ?_
  refine lv_iload hx hb dL_law_952 (lv_at hl 0 rfl) ?_
  obtain ⟨b232, h⟩ := h
  refine r_iastM hx hb hE hW hS 0 (k := 100) rfl ⟨rfl, by decide, by decide⟩ (n := 14) (fun _ => rfl) (fun _ _ => rfl) b232 dL_law_954 (fun t233 e234 H locs hW hS => ?_)
  have h := h t233 e234
  refine lv_aload_n hx hb dL_law_955 rfl (lv_at hl 3 rfl) ?_
  refine lv_bipush (v := (11 : Int32)) hx hb dL_law_956 (by decide) ?_
  refine lv_iload hx hb dL_law_958 (lv_at hl 0 rfl) ?_
  refine lv_iconst (v := (2 : Int32)) hx hb dL_law_960 (by decide) ?_
  refine r_icmp_ne hx hb rfl (show (2 : Int32).toInt = 2 by decide) (tgt := 969) dL_law_961 (by decide) (fun c235 => ?_) (fun c235 => ?_)
  · have h := ite_f c235 h
    refine lv_iload hx hb dL_law_969 (lv_at hl 0 rfl) ?_
    refine r_if_ne hx hb rfl (tgt := 985) dL_law_971 (by decide) (fun c236 => ?_) (fun c236 => ?_)
    · have h := ite_f c236 h
      refine lv_iconst (v := (0 : Int32)) hx hb dL_law_985 (by decide) ?_
      exact tL_law_986 (σ := σ) (ρ := ρ) X κ115 post hpost bc115 bs115 hk115 _ _ (by omega) (by omega) (by omega) (by omega) a1 a2 t233 b1 x6 x8 x9 x11 x12 x14 y0 0 ((0 : Int32)) hX9 hW hS (lv_sub hl [1, 2, 3, 4, 5, 6, 7, 8, 9, 10, 11, 12, 0] rfl) h
    · have h := ite_t c236 h
      refine lv_iload hx hb dL_law_974 (lv_at hl 12 rfl) ?_
      refine lv_bipush (v := (6 : Int32)) hx hb dL_law_976 (by decide) ?_
      refine lv_idiv hx hb dL_law_978 (by decide) ?_
      refine lv_bipush (v := (80 : Int32)) hx hb dL_law_979 (by decide) ?_
      refine lv_irem hx hb dL_law_981 (by decide) ?_
      refine lv_goto (tgt := 986) hx hb dL_law_982 (by decide) ?_
      exact tL_law_986 (σ := σ) (ρ := ρ) X κ115 post hpost bc115 bs115 hk115 _ _ (by omega) (by omega) (by omega) (by omega) a1 a2 t233 b1 x6 x8 x9 x11 x12 x14 y0 0 ((x14 / ((6 : Int32))) - (x14 / ((6 : Int32))) / ((80 : Int32)) * ((80 : Int32))) hX9 hW hS (lv_sub hl [1, 2, 3, 4, 5, 6, 7, 8, 9, 10, 11, 12, 0] rfl) h
  · have h := ite_t c235 h
    refine lv_iload hx hb dL_law_964 (lv_at hl 13 rfl) ?_
    refine lv_goto (tgt := 986) hx hb dL_law_966 (by decide) ?_
    exact tL_law_986 (σ := σ) (ρ := ρ) X κ115 post hpost bc115 bs115 hk115 _ _ (by omega) (by omega) (by omega) (by omega) a1 a2 t233 b1 x6 x8 x9 x11 x12 x14 y0 0 x15 hX9 hW hS (lv_sub hl [1, 2, 3, 4, 5, 6, 7, 8, 9, 10, 11, 12, 0] rfl) h

set_option maxHeartbeats 4000000 in
set_option maxRecDepth 100000 in
theorem tL_law_896 {p : Program} {l : Launch} {e : Env} {s : State} {m : MethodId} {below : List Frame} {meth : Method} {c : Code} {b L : Nat} {xs : Nat → Int32} {z : Nat} {G : Gl} {ad : Nat → Nat → Nat} {σ : SG} {ν : NU} {ρ : RH} {lo : Int64} (X : LCX p l e s m below meth c b L xs z G) (κ115 : SG → NU → RH → Int64 → Int32 → Int32 → Int32 → Int32 → Prop) (post : Int32 → Prop) (hpost : ∀ r, post r → r = 1) (bc115 bs115 : Nat) (hk115 : ∀ (kc ks : Nat), kc + bc115 ≤ 600104 → ks + bs115 ≤ 7301314 → ∀ (a1 : SG) (a2 : NU) (a3 : RH) (b1 : Nat → Nat → Nat) (x6 : Int64) (x8 : Int32) (x9 : Int32) (x10 : Int32) (x11 : Int32) {H : Heap} {locs : List Loc} {ls : Array Slot}, Xt ad b1 ν a2 → WP z G b1 (a1, a2, a3, lo) H → va_S (Az z) s.heap H locs → lv_has ls 23 [(0, .ref b), (1, .ref (b1 0 0)), (2, .ref (b1 100 0)), (3, .ref (b1 101 0)), (4, .ref (b1 102 0)), (5, .ref (b1 103 0)), (6, .long x6), (8, .int x8), (9, .int x9), (10, .int x10), (11, .int x11)] → κ115 a1 a2 a3 x6 x8 x9 x10 x11 → W p l e room_1 s m #[Value.ref b] below meth c H locs kc ks (lw_Z below #[Value.ref b] s) (F0 m 115 ls [])) : ∀ (kc ks : Nat), kc + 1978 + bc115 ≤ 600104 → ks + 34665 + bs115 ≤ 7301314 → kc + 1500 ≤ 600104 → ks + 28184 ≤ 7301314 → ∀ (a1 : SG) (a2 : NU) (a3 : RH) (b1 : Nat → Nat → Nat) (x6 : Int64) (x8 : Int32) (x9 : Int32) (x11 : Int32) (x12 : Int32) (x14 : Int32) (x17 : Int32) (x18 : Int32) (y0 : Int32) {H : Heap} {locs : List Loc} {ls : Array Slot}, Xt ad b1 ν a2 → WP z G b1 (a1, a2, a3, lo) H → va_S (Az z) s.heap H locs → lv_has ls 23 [(0, .ref b), (1, .ref (b1 0 0)), (2, .ref (b1 100 0)), (3, .ref (b1 101 0)), (4, .ref (b1 102 0)), (5, .ref (b1 103 0)), (6, .long x6), (8, .int x8), (9, .int x9), (11, .int x11), (12, .int x12), (14, .int x14), (17, .int x17), (18, .int x18)] → jL_law_896 L xs κ115 post a1 a2 a3 x6 x8 x9 x11 x12 x14 x17 x18 y0 → W p l e room_1 s m #[Value.ref b] below meth c H locs kc ks (lw_Z below #[Value.ref b] s) (F0 m 896 ls [.int y0]) := by
  obtain ⟨hx, hb, hml, hown, hts, hE, hz, hlt, hX, hbl, hbA, hL, hr, hlocks, hze⟩ := id X
  intro kc ks hB1 hB2 hX1 hX2 a1 a2 a3 b1 x6 x8 x9 x11 x12 x14 x17 x18 y0 H locs ls hX9 hW hS hl h
  unfold jL_law_896 at h
  refine lv_istore (lv' := [(10, .int y0), (0, .ref b), (1, .ref (b1 0 0)), (2, .ref (b1 100 0)), (3, .ref (b1 101 0)), (4, .ref (b1 102 0)), (5, .ref (b1 103 0)), (6, .long x6), (8, .int x8), (9, .int x9), (11, .int x11), (12, .int x12), (14, .int x14), (17, .int x17), (18, .int x18)]) hx hb dL_law_896 hl (by decide) rfl (fun ls hl => ?_)
  refine lv_aload_n hx hb dL_law_898 rfl (lv_at hl 3 rfl) ?_
  refine lv_iload hx hb dL_law_899 (lv_at hl 13 rfl) ?_
  refine lv_dup2_11 hx hb dL_law_901 rfl rfl ?_
  obtain ⟨b273, h⟩ := h
  refine r_iald hx hb hE hW 100 0 ⟨rfl, by decide, by decide⟩ (n := 14) (f := a3 0) rfl b273 (v := a3 0 x17.toNatClampNeg) rfl dL_law_902 ?_
  refine lv_iload hx hb dL_law_903 (lv_at hl 14 rfl) ?_
  refine r_if_ge hx hb rfl (tgt := 912) dL_law_905 (by decide) (fun c274 => ?_) (fun c274 => ?_)
  · have h := ite_f c274 h
    refine lv_iconst (v := (1 : Int32)) hx hb dL_law_912 (by decide) ?_
    refine lv_iadd hx hb dL_law_913 ?_
    obtain ⟨b275, h⟩ := h
    refine r_iastM hx hb hE hW hS 0 (k := 100) rfl ⟨rfl, by decide, by decide⟩ (n := 14) (fun _ => rfl) (fun _ _ => rfl) b275 dL_law_914 (fun t276 e277 H locs hW hS => ?_)
    have h := h t276 e277
    refine lv_goto (tgt := 1477) hx hb dL_law_915 (by decide) ?_
    exact tL_law_1477 (σ := σ) (ρ := ρ) X κ115 post hpost bc115 bs115 hk115 _ _ (by omega) (by omega) (by omega) (by omega) a1 a2 t276 b1 x6 x8 x9 y0 x11 x12 x14 hX9 hW hS (lv_sub hl [1, 2, 3, 4, 5, 6, 7, 8, 9, 0, 10, 11, 12] rfl) h
  · have h := ite_t c274 h
    refine lv_iconst (v := (0 : Int32)) hx hb dL_law_908 (by decide) ?_
    refine lv_goto (tgt := 913) hx hb dL_law_909 (by decide) ?_
    refine lv_iadd hx hb dL_law_913 ?_
    obtain ⟨b278, h⟩ := h
    refine r_iastM hx hb hE hW hS 0 (k := 100) rfl ⟨rfl, by decide, by decide⟩ (n := 14) (fun _ => rfl) (fun _ _ => rfl) b278 dL_law_914 (fun t279 e280 H locs hW hS => ?_)
    have h := h t279 e280
    refine lv_goto (tgt := 1477) hx hb dL_law_915 (by decide) ?_
    exact tL_law_1477 (σ := σ) (ρ := ρ) X κ115 post hpost bc115 bs115 hk115 _ _ (by omega) (by omega) (by omega) (by omega) a1 a2 t279 b1 x6 x8 x9 y0 x11 x12 x14 hX9 hW hS (lv_sub hl [1, 2, 3, 4, 5, 6, 7, 8, 9, 0, 10, 11, 12] rfl) h

