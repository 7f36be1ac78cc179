/-! the law: its walk. Written by wip/gen25/genlaw.py -/
set_option maxHeartbeats 4000000 in
set_option maxRecDepth 100000 in
theorem tL_law_888 {p : Program} {l : Launch} {e : Env} {s : State} {m : MethodId} {below : List Frame} {meth : Method} {c : Code} {b L : Nat} {xs : Nat → Int32} {z : Nat} {G : Gl} {ad : Nat → Nat → Nat} {σ : SG} {ν : NU} {ρ : RH} {lo : Int64} (X : LCX p l e s m below meth c b L xs z G) (κ115 : SG → NU → RH → Int64 → Int32 → Int32 → Int32 → Int32 → Prop) (post : Int32 → Prop) (hpost : ∀ r, post r → r = 1) (bc115 bs115 : Nat) (hk115 : ∀ (kc ks : Nat), kc + bc115 ≤ 600104 → ks + bs115 ≤ 7301314 → ∀ (a1 : SG) (a2 : NU) (a3 : RH) (b1 : Nat → Nat → Nat) (x6 : Int64) (x8 : Int32) (x9 : Int32) (x10 : Int32) (x11 : Int32) {H : Heap} {locs : List Loc} {ls : Array Slot}, Xt ad b1 ν a2 → WP z G b1 (a1, a2, a3, lo) H → va_S (Az z) s.heap H locs → lv_has ls 23 [(0, .ref b), (1, .ref (b1 0 0)), (2, .ref (b1 100 0)), (3, .ref (b1 101 0)), (4, .ref (b1 102 0)), (5, .ref (b1 103 0)), (6, .long x6), (8, .int x8), (9, .int x9), (10, .int x10), (11, .int x11)] → κ115 a1 a2 a3 x6 x8 x9 x10 x11 → W p l e room_1 s m #[Value.ref b] below meth c H locs kc ks (lw_Z below #[Value.ref b] s) (F0 m 115 ls [])) : ∀ (kc ks : Nat), kc + 1978 + bc115 ≤ 600104 → ks + 34665 + bs115 ≤ 7301314 → kc + 1500 ≤ 600104 → ks + 28184 ≤ 7301314 → ∀ (a1 : SG) (a2 : NU) (a3 : RH) (b1 : Nat → Nat → Nat) (x6 : Int64) (x8 : Int32) (x9 : Int32) (x11 : Int32) (x12 : Int32) (x14 : Int32) (x17 : Int32) (x18 : Int32) (y0 : Int32) (y1 : Int32) {H : Heap} {locs : List Loc} {ls : Array Slot}, Xt ad b1 ν a2 → WP z G b1 (a1, a2, a3, lo) H → va_S (Az z) s.heap H locs → lv_has ls 23 [(0, .ref b), (1, .ref (b1 0 0)), (2, .ref (b1 100 0)), (3, .ref (b1 101 0)), (4, .ref (b1 102 0)), (5, .ref (b1 103 0)), (6, .long x6), (8, .int x8), (9, .int x9), (11, .int x11), (12, .int x12), (14, .int x14), (17, .int x17), (18, .int x18)] → jL_law_888 L xs κ115 post a1 a2 a3 x6 x8 x9 x11 x12 x14 x17 x18 y0 y1 → W p l e room_1 s m #[Value.ref b] below meth c H locs kc ks (lw_Z below #[Value.ref b] s) (F0 m 888 ls [.int y1, .int y0]) := by
  obtain ⟨hx, hb, hml, hown, hts, hE, hz, hlt, hX, hbl, hbA, hL, hr, hlocks, hze⟩ := id X
  intro kc ks hB1 hB2 hX1 hX2 a1 a2 a3 b1 x6 x8 x9 x11 x12 x14 x17 x18 y0 y1 H locs ls hX9 hW hS hl h
  unfold jL_law_888 at h
  refine r_icmp_ne hx hb rfl rfl (tgt := 895) dL_law_888 (by decide) (fun c272 => ?_) (fun c272 => ?_)
  · have h := ite_f c272 h
    refine lv_iconst (v := (0 : Int32)) hx hb dL_law_895 (by decide) ?_
    exact tL_law_896 (σ := σ) (ρ := ρ) X κ115 post hpost bc115 bs115 hk115 _ _ (by omega) (by omega) (by omega) (by omega) a1 a2 a3 b1 x6 x8 x9 x11 x12 x14 x17 x18 ((0 : Int32)) hX9 hW hS (lv_sub hl [0, 1, 2, 3, 4, 5, 6, 7, 8, 9, 10, 11, 12, 13] rfl) h
  · have h := ite_t c272 h
    refine lv_iconst (v := (1 : Int32)) hx hb dL_law_891 (by decide) ?_
    refine lv_goto (tgt := 896) hx hb dL_law_892 (by decide) ?_
    exact tL_law_896 (σ := σ) (ρ := ρ) X κ115 post hpost bc115 bs115 hk115 _ _ (by omega) (by omega) (by omega) (by omega) a1 a2 a3 b1 x6 x8 x9 x11 x12 x14 x17 x18 ((1 : Int32)) hX9 hW hS (lv_sub hl [0, 1, 2, 3, 4, 5, 6, 7, 8, 9, 10, 11, 12, 13] rfl) h

set_option maxHeartbeats 4000000 in
set_option maxRecDepth 100000 in
theorem tL_law_859 {p : Program} {l : Launch} {e : Env} {s : State} {m : MethodId} {below : List Frame} {meth : Method} {c : Code} {b L : Nat} {xs : Nat → Int32} {z : Nat} {G : Gl} {ad : Nat → Nat → Nat} {σ : SG} {ν : NU} {ρ : RH} {lo : Int64} (X : LCX p l e s m below meth c b L xs z G) (κ115 : SG → NU → RH → Int64 → Int32 → Int32 → Int32 → Int32 → Prop) (post : Int32 → Prop) (hpost : ∀ r, post r → r = 1) (bc115 bs115 : Nat) (hk115 : ∀ (kc ks : Nat), kc + bc115 ≤ 600104 → ks + bs115 ≤ 7301314 → ∀ (a1 : SG) (a2 : NU) (a3 : RH) (b1 : Nat → Nat → Nat) (x6 : Int64) (x8 : Int32) (x9 : Int32) (x10 : Int32) (x11 : Int32) {H : Heap} {locs : List Loc} {ls : Array Slot}, Xt ad b1 ν a2 → WP z G b1 (a1, a2, a3, lo) H → va_S (Az z) s.heap H locs → lv_has ls 23 [(0, .ref b), (1, .ref (b1 0 0)), (2, .ref (b1 100 0)), (3, .ref (b1 101 0)), (4, .ref (b1 102 0)), (5, .ref (b1 103 0)), (6, .long x6), (8, .int x8), (9, .int x9), (10, .int x10), (11, .int x11)] → κ115 a1 a2 a3 x6 x8 x9 x10 x11 → W p l e room_1 s m #[Value.ref b] below meth c H locs kc ks (lw_Z below #[Value.ref b] s) (F0 m 115 ls [])) : ∀ (kc ks : Nat), kc + 1979 + bc115 ≤ 600104 → ks + 34671 + bs115 ≤ 7301314 → kc + 1501 ≤ 600104 → ks + 28190 ≤ 7301314 → ∀ (a1 : SG) (a2 : NU) (a3 : RH) (b1 : Nat → Nat → Nat) (x6 : Int64) (x8 : Int32) (x9 : Int32) (x11 : Int32) (x12 : Int32) (x14 : Int32) (x17 : Int32) (y0 : Nat) (y2 : Int32) (y3 : Int32) {H : Heap} {locs : List Loc} {ls : Array Slot}, Xt ad b1 ν a2 → WP z G b1 (a1, a2, a3, lo) H → va_S (Az z) s.heap H locs → lv_has ls 23 [(0, .ref b), (1, .ref (b1 0 0)), (2, .ref (b1 100 0)), (3, .ref (b1 101 0)), (4, .ref (b1 102 0)), (5, .ref (b1 103 0)), (6, .long x6), (8, .int x8), (9, .int x9), (11, .int x11), (12, .int x12), (14, .int x14), (17, .int x17)] → jL_law_859 L xs κ115 post a1 a2 a3 x6 x8 x9 x11 x12 x14 x17 y0 y2 y3 → W p l e room_1 s m #[Value.ref b] below meth c H locs kc ks (lw_Z below #[Value.ref b] s) (F0 m 859 ls [.int y3, .int y2, .int ((2 : Int32)), .ref (b1 0 0)]) := by
  obtain ⟨hx, hb, hml, hown, hts, hE, hz, hlt, hX, hbl, hbA, hL, hr, hlocks, hze⟩ := id X
  intro kc ks hB1 hB2 hX1 hX2 a1 a2 a3 b1 x6 x8 x9 x11 x12 x14 x17 y0 y2 y3 H locs ls hX9 hW hS hl h
  unfold jL_law_859 at h
  refine lv_iconst (v := (0 : Int32)) hx hb dL_law_859 (by decide) ?_
  refine lv_iconst (v := (0 : Int32)) hx hb dL_law_860 (by decide) ?_
  refine kW_Si (rest := []) (As := [.ref (b1 0 0), .int ((2 : Int32)), .int y2, .int y3, .int ((0 : Int32)), .int ((0 : Int32))]) ⟨hx, hb, hml, hown, hts⟩ hE hz hS hW (mtL_does_2 l hlt z G b1 a1 a2 a3 lo y2 y3 ((0 : Int32)) ((0 : Int32)) _ h) (vx_cwSW 6 hts gL_law_L_does rfl rfl rfl (by decide +kernel) ⟨Nat.le_of_ble_eq_true rfl, Nat.le_of_ble_eq_true rfl⟩) rfl hl.1 rfl (Nat.le_of_ble_eq_true rfl) dL_law_861 ⟨by show _ ≤ 600104; omega, by show _ ≤ 7301314; omega⟩ (fun r267 S1 H locs hp hW hS => ?_)
  obtain ⟨t268, rfl, h⟩ := hp
  refine lv_istore (lv' := [(18, .int r267), (0, .ref b), (1, .ref (b1 0 0)), (2, .ref (b1 100 0)), (3, .ref (b1 101 0)), (4, .ref (b1 102 0)), (5, .ref (b1 103 0)), (6, .long x6), (8, .int x8), (9, .int x9), (11, .int x11), (12, .int x12), (14, .int x14), (17, .int x17)]) hx hb dL_law_864 hl (by decide) rfl (fun ls hl => ?_)
  refine lv_iload hx hb dL_law_866 (lv_at hl 0 rfl) ?_
  refine lv_aload_n hx hb dL_law_868 rfl (lv_at hl 3 rfl) ?_
  refine lv_iload hx hb dL_law_869 (lv_at hl 13 rfl) ?_
  obtain ⟨b269, h⟩ := h
  refine r_iald hx hb hE hW 100 0 ⟨rfl, by decide, by decide⟩ (n := 14) (f := a3 0) rfl b269 (v := a3 0 x17.toNatClampNeg) rfl dL_law_871 ?_
  refine lv_iconst (v := (4 : Int32)) hx hb dL_law_872 (by decide) ?_
  refine r_icmp_ne hx hb rfl (show (4 : Int32).toInt = 4 by decide) (tgt := 882) dL_law_873 (by decide) (fun c270 => ?_) (fun c270 => ?_)
  · have h := ite_f c270 h
    refine lv_aload_n hx hb dL_law_882 rfl (lv_at hl 3 rfl) ?_
    refine lv_iload hx hb dL_law_883 (lv_at hl 13 rfl) ?_
    obtain ⟨b271, h⟩ := h
    refine r_iald hx hb hE hW 100 0 ⟨rfl, by decide, by decide⟩ (n := 14) (f := a3 0) rfl b271 (v := a3 0 x17.toNatClampNeg) rfl dL_law_885 ?_
    refine lv_iconst (v := (1 : Int32)) hx hb dL_law_886 (by decide) ?_
    refine lv_iadd hx hb dL_law_887 ?_
    exact tL_law_888 (σ := σ) (ρ := ρ) X κ115 post hpost bc115 bs115 hk115 _ _ (by omega) (by omega) (by omega) (by omega) t268 a2 a3 b1 x6 x8 x9 x11 x12 x14 x17 r267 r267 ((a3 0 x17.toNatClampNeg) + ((1 : Int32))) hX9 hW hS (lv_sub hl [1, 2, 3, 4, 5, 6, 7, 8, 9, 10, 11, 12, 13, 0] rfl) h
  · have h := ite_t c270 h
    refine lv_sipush (v := (-1383 : Int32)) hx hb dL_law_876 (by decide) ?_
    refine lv_goto (tgt := 888) hx hb dL_law_879 (by decide) ?_
    exact tL_law_888 (σ := σ) (ρ := ρ) X κ115 post hpost bc115 bs115 hk115 _ _ (by omega) (by omega) (by omega) (by omega) t268 a2 a3 b1 x6 x8 x9 x11 x12 x14 x17 r267 r267 ((-1383 : Int32)) hX9 hW hS (lv_sub hl [1, 2, 3, 4, 5, 6, 7, 8, 9, 10, 11, 12, 13, 0] rfl) h

set_option maxHeartbeats 4000000 in
set_option maxRecDepth 100000 in
theorem tL_law_849 {p : Program} {l : Launch} {e : Env} {s : State} {m : MethodId} {below : List Frame} {meth : Method} {c : Code} {b L : Nat} {xs : Nat → Int32} {z : Nat} {G : Gl} {ad : Nat → Nat → Nat} {σ : SG} {ν : NU} {ρ : RH} {lo : Int64} (X : LCX p l e s m below meth c b L xs z G) (κ115 : SG → NU → RH → Int64 → Int32 → Int32 → Int32 → Int32 → Prop) (post : Int32 → Prop) (hpost : ∀ r, post r → r = 1) (bc115 bs115 : Nat) (hk115 : ∀ (kc ks : Nat), kc + bc115 ≤ 600104 → ks + bs115 ≤ 7301314 → ∀ (a1 : SG) (a2 : NU) (a3 : RH) (b1 : Nat → Nat → Nat) (x6 : Int64) (x8 : Int32) (x9 : Int32) (x10 : Int32) (x11 : Int32) {H : Heap} {locs : List Loc} {ls : Array Slot}, Xt ad b1 ν a2 → WP z G b1 (a1, a2, a3, lo) H → va_S (Az z) s.heap H locs → lv_has ls 23 [(0, .ref b), (1, .ref (b1 0 0)), (2, .ref (b1 100 0)), (3, .ref (b1 101 0)), (4, .ref (b1 102 0)), (5, .ref (b1 103 0)), (6, .long x6), (8, .int x8), (9, .int x9), (10, .int x10), (11, .int x11)] → κ115 a1 a2 a3 x6 x8 x9 x10 x11 → W p l e room_1 s m #[Value.ref b] below meth c H locs kc ks (lw_Z below #[Value.ref b] s) (F0 m 115 ls [])) : ∀ (kc ks : Nat), kc + 1979 + bc115 ≤ 600104 → ks + 34671 + bs115 ≤ 7301314 → kc + 1501 ≤ 600104 → ks + 28190 ≤ 7301314 → ∀ (a1 : SG) (a2 : NU) (a3 : RH) (b1 : Nat → Nat → Nat) (x6 : Int64) (x8 : Int32) (x9 : Int32) (x11 : Int32) (x12 : Int32) (x14 : Int32) (x16 : Int32) (x17 : Int32) (y0 : Nat) (y2 : Int32) {H : Heap} {locs : List Loc} {ls : Array Slot}, Xt ad b1 ν a2 → WP z G b1 (a1, a2, a3, lo) H → va_S (Az z) s.heap H locs → lv_has ls 23 [(0, .ref b), (1, .ref (b1 0 0)), (2, .ref (b1 100 0)), (3, .ref (b1 101 0)), (4, .ref (b1 102 0)), (5, .ref (b1 103 0)), (6, .long x6), (8, .int x8), (9, .int x9), (11, .int x11), (12, .int x12), (14, .int x14), (16, .int x16), (17, .int x17)] → jL_law_849 L xs κ115 post a1 a2 a3 x6 x8 x9 x11 x12 x14 x16 x17 y0 y2 → W p l e room_1 s m #[Value.ref b] below meth c H locs kc ks (lw_Z below #[Value.ref b] s) (F0 m 849 ls [.int y2, .int ((2 : Int32)), .ref (b1 0 0)]) := by
  obtain ⟨hx, hb, hml, hown, hts, hE, hz, hlt, hX, hbl, hbA, hL, hr, hlocks, hze⟩ := id X
  intro kc ks hB1 hB2 hX1 hX2 a1 a2 a3 b1 x6 x8 x9 x11 x12 x14 x16 x17 y0 y2 H locs ls hX9 hW hS hl h
  unfold jL_law_849 at h
  refine lv_iload hx hb dL_law_849 (lv_at hl 12 rfl) ?_
  refine r_if_eq hx hb rfl (tgt := 858) dL_law_851 (by decide) (fun c266 => ?_) (fun c266 => ?_)
  · have h := ite_t c266 h
    refine lv_iconst (v := (0 : Int32)) hx hb dL_law_858 (by decide) ?_
    exact tL_law_859 (σ := σ) (ρ := ρ) X κ115 post hpost bc115 bs115 hk115 _ _ (by omega) (by omega) (by omega) (by omega) a1 a2 a3 b1 x6 x8 x9 x11 x12 x14 x17 0 y2 ((0 : Int32)) hX9 hW hS (lv_sub hl [0, 1, 2, 3, 4, 5, 6, 7, 8, 9, 10, 11, 13] rfl) h
  · have h := ite_f c266 h
    refine lv_iconst (v := (1 : Int32)) hx hb dL_law_854 (by decide) ?_
    refine lv_goto (tgt := 859) hx hb dL_law_855 (by decide) ?_
    exact tL_law_859 (σ := σ) (ρ := ρ) X κ115 post hpost bc115 bs115 hk115 _ _ (by omega) (by omega) (by omega) (by omega) a1 a2 a3 b1 x6 x8 x9 x11 x12 x14 x17 0 y2 ((1 : Int32)) hX9 hW hS (lv_sub hl [0, 1, 2, 3, 4, 5, 6, 7, 8, 9, 10, 11, 13] rfl) h

set_option maxHeartbeats 4000000 in
set_option maxRecDepth 100000 in
theorem tL_law_819 {p : Program} {l : Launch} {e : Env} {s : State} {m : MethodId} {below : List Frame} {meth : Method} {c : Code} {b L : Nat} {xs : Nat → Int32} {z : Nat} {G : Gl} {ad : Nat → Nat → Nat} {σ : SG} {ν : NU} {ρ : RH} {lo : Int64} (X : LCX p l e s m below meth c b L xs z G) (κ115 : SG → NU → RH → Int64 → Int32 → Int32 → Int32 → Int32 → Prop) (post : Int32 → Prop) (hpost : ∀ r, post r → r = 1) (bc115 bs115 : Nat) (hk115 : ∀ (kc ks : Nat), kc + bc115 ≤ 600104 → ks + bs115 ≤ 7301314 → ∀ (a1 : SG) (a2 : NU) (a3 : RH) (b1 : Nat → Nat → Nat) (x6 : Int64) (x8 : Int32) (x9 : Int32) (x10 : Int32) (x11 : Int32) {H : Heap} {locs : List Loc} {ls : Array Slot}, Xt ad b1 ν a2 → WP z G b1 (a1, a2, a3, lo) H → va_S (Az z) s.heap H locs → lv_has ls 23 [(0, .ref b), (1, .ref (b1 0 0)), (2, .ref (b1 100 0)), (3, .ref (b1 101 0)), (4, .ref (b1 102 0)), (5, .ref (b1 103 0)), (6, .long x6), (8, .int x8), (9, .int x9), (10, .int x10), (11, .int x11)] → κ115 a1 a2 a3 x6 x8 x9 x10 x11 → W p l e room_1 s m #[Value.ref b] below meth c H locs kc ks (lw_Z below #[Value.ref b] s) (F0 m 115 ls [])) : ∀ (kc ks : Nat), kc + 1979 + bc115 ≤ 600104 → ks + 34671 + bs115 ≤ 7301314 → kc + 1501 ≤ 600104 → ks + 28190 ≤ 7301314 → ∀ (a1 : SG) (a2 : NU) (a3 : RH) (b1 : Nat → Nat → Nat) (x6 : Int64) (x8 : Int32) (x9 : Int32) (x11 : Int32) (x12 : Int32) (x14 : Int32) (x16 : Int32) (y0 : Int32) {H : Heap} {locs : List Loc} {ls : Array Slot}, Xt ad b1 ν a2 → WP z G b1 (a1, a2, a3, lo) H → va_S (Az z) s.heap H locs → lv_has ls 23 [(0, .ref b), (1, .ref (b1 0 0)), (2, .ref (b1 100 0)), (3, .ref (b1 101 0)), (4, .ref (b1 102 0)), (5, .ref (b1 103 0)), (6, .long x6), (8, .int x8), (9, .int x9), (11, .int x11), (12, .int x12), (14, .int x14), (16, .int x16)] → jL_law_819 L xs κ115 post a1 a2 a3 x6 x8 x9 x11 x12 x14 x16 y0 → W p l e room_1 s m #[Value.ref b] below meth c H locs kc ks (lw_Z below #[Value.ref b] s) (F0 m 819 ls [.int y0]) := by
  obtain ⟨hx, hb, hml, hown, hts, hE, hz, hlt, hX, hbl, hbA, hL, hr, hlocks, hze⟩ := id X
  intro kc ks hB1 hB2 hX1 hX2 a1 a2 a3 b1 x6 x8 x9 x11 x12 x14 x16 y0 H locs ls hX9 hW hS hl h
  unfold jL_law_819 at h
  refine lv_istore (lv' := [(17, .int y0), (0, .ref b), (1, .ref (b1 0 0)), (2, .ref (b1 100 0)), (3, .ref (b1 101 0)), (4, .ref (b1 102 0)), (5, .ref (b1 103 0)), (6, .long x6), (8, .int x8), (9, .int x9), (11, .int x11), (12, .int x12), (14, .int x14), (16, .int x16)]) hx hb dL_law_819 hl (by decide) rfl (fun ls hl => ?_)
  refine lv_aload_n hx hb dL_law_821 rfl (lv_at hl 2 rfl) ?_
  refine lv_iconst (v := (2 : Int32)) hx hb dL_law_822 (by decide) ?_
  refine lv_iload hx hb dL_law_823 (lv_at hl 12 rfl) ?_
  refine lv_iconst (v := (5 : Int32)) hx hb dL_law_825 (by decide) ?_
  refine lv_irem hx hb dL_law_826 (by decide) ?_
  refine r_if_le hx hb rfl (tgt := 839) dL_law_827 (by decide) (fun c265 => ?_) (fun c265 => ?_)
  · have h := ite_t c265 h
    refine lv_bipush (v := (100 : Int32)) hx hb dL_law_839 (by decide) ?_
    refine lv_iload hx hb dL_law_841 (lv_at hl 12 rfl) ?_
    refine lv_iconst (v := (5 : Int32)) hx hb dL_law_843 (by decide) ?_
    refine lv_idiv hx hb dL_law_844 (by decide) ?_
    refine lv_bipush (v := (40 : Int32)) hx hb dL_law_845 (by decide) ?_
    refine lv_irem hx hb dL_law_847 (by decide) ?_
    refine lv_iadd hx hb dL_law_848 ?_
    exact tL_law_849 (σ := σ) (ρ := ρ) X κ115 post hpost bc115 bs115 hk115 _ _ (by omega) (by omega) (by omega) (by omega) a1 a2 a3 b1 x6 x8 x9 x11 x12 x14 x16 y0 0 (((100 : Int32)) + ((x14 / ((5 : Int32))) - (x14 / ((5 : Int32))) / ((40 : Int32)) * ((40 : Int32)))) hX9 hW hS (lv_sub hl [1, 2, 3, 4, 5, 6, 7, 8, 9, 10, 11, 12, 13, 0] rfl) h
  · have h := ite_f c265 h
    refine lv_iload hx hb dL_law_830 (lv_at hl 12 rfl) ?_
    refine lv_iconst (v := (5 : Int32)) hx hb dL_law_832 (by decide) ?_
    refine lv_idiv hx hb dL_law_833 (by decide) ?_
    refine lv_iconst (v := (4 : Int32)) hx hb dL_law_834 (by decide) ?_
    refine lv_irem hx hb dL_law_835 (by decide) ?_
    refine lv_goto (tgt := 849) hx hb dL_law_836 (by decide) ?_
    exact tL_law_849 (σ := σ) (ρ := ρ) X κ115 post hpost bc115 bs115 hk115 _ _ (by omega) (by omega) (by omega) (by omega) a1 a2 a3 b1 x6 x8 x9 x11 x12 x14 x16 y0 0 ((x14 / ((5 : Int32))) - (x14 / ((5 : Int32))) / ((4 : Int32)) * ((4 : Int32))) hX9 hW hS (lv_sub hl [1, 2, 3, 4, 5, 6, 7, 8, 9, 10, 11, 12, 13, 0] rfl) h

set_option maxHeartbeats 4000000 in
set_option maxRecDepth 100000 in
theorem tL_law_805 {p : Program} {l : Launch} {e : Env} {s : State} {m : MethodId} {below : List Frame} {meth : Method} {c : Code} {b L : Nat} {xs : Nat → Int32} {z : Nat} {G : Gl} {ad : Nat → Nat → Nat} {σ : SG} {ν : NU} {ρ : RH} {lo : Int64} (X : LCX p l e s m below meth c b L xs z G) (κ115 : SG → NU → RH → Int64 → Int32 → Int32 → Int32 → Int32 → Prop) (post : Int32 → Prop) (hpost : ∀ r, post r → r = 1) (bc115 bs115 : Nat) (hk115 : ∀ (kc ks : Nat), kc + bc115 ≤ 600104 → ks + bs115 ≤ 7301314 → ∀ (a1 : SG) (a2 : NU) (a3 : RH) (b1 : Nat → Nat → Nat) (x6 : Int64) (x8 : Int32) (x9 : Int32) (x10 : Int32) (x11 : Int32) {H : Heap} {locs : List Loc} {ls : Array Slot}, Xt ad b1 ν a2 → WP z G b1 (a1, a2, a3, lo) H → va_S (Az z) s.heap H locs → lv_has ls 23 [(0, .ref b), (1, .ref (b1 0 0)), (2, .ref (b1 100 0)), (3, .ref (b1 101 0)), (4, .ref (b1 102 0)), (5, .ref (b1 103 0)), (6, .long x6), (8, .int x8), (9, .int x9), (10, .int x10), (11, .int x11)] → κ115 a1 a2 a3 x6 x8 x9 x10 x11 → W p l e room_1 s m #[Value.ref b] below meth c H locs kc ks (lw_Z below #[Value.ref b] s) (F0 m 115 ls [])) : ∀ (kc ks : Nat), kc + 1979 + bc115 ≤ 600104 → ks + 34671 + bs115 ≤ 7301314 → kc + 1501 ≤ 600104 → ks + 28190 ≤ 7301314 → ∀ (a1 : SG) (a2 : NU) (a3 : RH) (b1 : Nat → Nat → Nat) (x6 : Int64) (x8 : Int32) (x9 : Int32) (x11 : Int32) (x12 : Int32) (x14 : Int32) (y0 : Int32) {H : Heap} {locs : List Loc} {ls : Array Slot}, Xt ad b1 ν a2 → WP z G b1 (a1, a2, a3, lo) H → va_S (Az z) s.heap H locs → lv_has ls 23 [(0, .ref b), (1, .ref (b1 0 0)), (2, .ref (b1 100 0)), (3, .ref (b1 101 0)), (4, .ref (b1 102 0)), (5, .ref (b1 103 0)), (6, .long x6), (8, .int x8), (9, .int x9), (11, .int x11), (12, .int x12), (14, .int x14)] → jL_law_805 L xs κ115 post a1 a2 a3 x6 x8 x9 x11 x12 x14 y0 → W p l e room_1 s m #[Value.ref b] below meth c H locs kc ks (lw_Z below #[Value.ref b] s) (F0 m 805 ls [.int y0]) := by
  obtain ⟨hx, hb, hml, hown, hts, hE, hz, hlt, hX, hbl, hbA, hL, hr, hlocks, hze⟩ := id X
  intro kc ks hB1 hB2 hX1 hX2 a1 a2 a3 b1 x6 x8 x9 x11 x12 x14 y0 H locs ls hX9 hW hS hl h
  unfold jL_law_805 at h
  refine lv_istore (lv' := [(16, .int y0), (0, .ref b), (1, .ref (b1 0 0)), (2, .ref (b1 100 0)), (3, .ref (b1 101 0)), (4, .ref (b1 102 0)), (5, .ref (b1 103 0)), (6, .long x6), (8, .int x8), (9, .int x9), (11, .int x11), (12, .int x12), (14, .int x14)]) hx hb dL_law_805 hl (by decide) rfl (fun ls hl => ?_)
  refine lv_iload hx hb dL_law_807 (lv_at hl 0 rfl) ?_
  refine r_if_eq hx hb rfl (tgt := 817) dL_law_809 (by decide) (fun c264 => ?_) (fun c264 => ?_)
  · have h := ite_t c264 h
    refine lv_bipush (v := (8 : Int32)) hx hb dL_law_817 (by decide) ?_
    exact tL_law_819 (σ := σ) (ρ := ρ) X κ115 post hpost bc115 bs115 hk115 _ _ (by omega) (by omega) (by omega) (by omega) a1 a2 a3 b1 x6 x8 x9 x11 x12 x14 y0 ((8 : Int32)) hX9 hW hS (lv_sub hl [1, 2, 3, 4, 5, 6, 7, 8, 9, 10, 11, 12, 0] rfl) h
  · have h := ite_f c264 h
    refine lv_bipush (v := (9 : Int32)) hx hb dL_law_812 (by decide) ?_
    refine lv_goto (tgt := 819) hx hb dL_law_814 (by decide) ?_
    exact tL_law_819 (σ := σ) (ρ := ρ) X κ115 post hpost bc115 bs115 hk115 _ _ (by omega) (by omega) (by omega) (by omega) a1 a2 a3 b1 x6 x8 x9 x11 x12 x14 y0 ((9 : Int32)) hX9 hW hS (lv_sub hl [1, 2, 3, 4, 5, 6, 7, 8, 9, 10, 11, 12, 0] rfl) h

set_option maxHeartbeats 4000000 in
set_option maxRecDepth 100000 in
theorem tL_law_771 {p : Program} {l : Launch} {e : Env} {s : State} {m : MethodId} {below : List Frame} {meth : Method} {c : Code} {b L : Nat} {xs : Nat → Int32} {z : Nat} {G : Gl} {ad : Nat → Nat → Nat} {σ : SG} {ν : NU} {ρ : RH} {lo : Int64} (X : LCX p l e s m below meth c b L xs z G) (κ115 : SG → NU → RH → Int64 → Int32 → Int32 → Int32 → Int32 → Prop) (post : Int32 → Prop) (hpost : ∀ r, post r → r = 1) (bc115 bs115 : Nat) (hk115 : ∀ (kc ks : Nat), kc + bc115 ≤ 600104 → ks + bs115 ≤ 7301314 → ∀ (a1 : SG) (a2 : NU) (a3 : RH) (b1 : Nat → Nat → Nat) (x6 : Int64) (x8 : Int32) (x9 : Int32) (x10 : Int32) (x11 : Int32) {H : Heap} {locs : List Loc} {ls : Array Slot}, Xt ad b1 ν a2 → WP z G b1 (a1, a2, a3, lo) H → va_S (Az z) s.heap H locs → lv_has ls 23 [(0, .ref b), (1, .ref (b1 0 0)), (2, .ref (b1 100 0)), (3, .ref (b1 101 0)), (4, .ref (b1 102 0)), (5, .ref (b1 103 0)), (6, .long x6), (8, .int x8), (9, .int x9), (10, .int x10), (11, .int x11)] → κ115 a1 a2 a3 x6 x8 x9 x10 x11 → W p l e room_1 s m #[Value.ref b] below meth c H locs kc ks (lw_Z below #[Value.ref b] s) (F0 m 115 ls [])) : ∀ (kc ks : Nat), kc + 1978 + bc115 ≤ 600104 → ks + 34665 + bs115 ≤ 7301314 → kc + 1500 ≤ 600104 → ks + 28184 ≤ 7301314 → ∀ (a1 : SG) (a2 : NU) (a3 : RH) (b1 : Nat → Nat → Nat) (x6 : Int64) (x8 : Int32) (x9 : Int32) (x10 : Int32) (x11 : Int32) (x12 : Int32) (x14 : Int32) (y0 : Nat) (y2 : Int32) (y3 : Int32) {H : Heap} {locs : List Loc} {ls : Array Slot}, Xt ad b1 ν a2 → WP z G b1 (a1, a2, a3, lo) H → va_S (Az z) s.heap H locs → lv_has ls 23 [(0, .ref b), (1, .ref (b1 0 0)), (2, .ref (b1 100 0)), (3, .ref (b1 101 0)), (4, .ref (b1 102 0)), (5, .ref (b1 103 0)), (6, .long x6), (8, .int x8), (9, .int x9), (10, .int x10), (11, .int x11), (12, .int x12), (14, .int x14)] → jL_law_771 L xs κ115 post a1 a2 a3 x6 x8 x9 x10 x11 x12 x14 y0 y2 y3 → W p l e room_1 s m #[Value.ref b] below meth c H locs kc ks (lw_Z below #[Value.ref b] s) (F0 m 771 ls [.int y3, .int y2, .int ((3 : Int32)), .ref (b1 100 0)]) := by
  obtain ⟨hx, hb, hml, hown, hts, hE, hz, hlt, hX, hbl, hbA, hL, hr, hlocks, hze⟩ := id X
  intro kc ks hB1 hB2 hX1 hX2 a1 a2 a3 b1 x6 x8 x9 x10 x11 x12 x14 y0 y2 y3 H locs ls hX9 hW hS hl h
  unfold jL_law_771 at h
  refine lv_iadd hx hb dL_law_771 ?_
  obtain ⟨b336, h⟩ := h
  refine r_iastM hx hb hE hW hS 0 (k := 100) rfl ⟨rfl, by decide, by decide⟩ (n := 14) (fun _ => rfl) (fun _ _ => rfl) b336 dL_law_772 (fun t337 e338 H locs hW hS => ?_)
  have h := h t337 e338
  refine lv_aload_n hx hb dL_law_773 rfl (lv_at hl 2 rfl) ?_
  refine lv_bipush (v := (8 : Int32)) hx hb dL_law_774 (by decide) ?_
  refine lv_iconst (v := (0 : Int32)) hx hb dL_law_776 (by decide) ?_
  obtain ⟨b339, h⟩ := h
  refine r_iastM hx hb hE hW hS 0 (k := 100) rfl ⟨rfl, by decide, by decide⟩ (n := 14) (fun _ => rfl) (fun _ _ => rfl) b339 dL_law_777 (fun t340 e341 H locs hW hS => ?_)
  have h := h t340 e341
  refine lv_aload_n hx hb dL_law_778 rfl (lv_at hl 2 rfl) ?_
  refine lv_bipush (v := (9 : Int32)) hx hb dL_law_779 (by decide) ?_
  refine lv_iconst (v := (0 : Int32)) hx hb dL_law_781 (by decide) ?_
  obtain ⟨b342, h⟩ := h
  refine r_iastM hx hb hE hW hS 0 (k := 100) rfl ⟨rfl, by decide, by decide⟩ (n := 14) (fun _ => rfl) (fun _ _ => rfl) b342 dL_law_782 (fun t343 e344 H locs hW hS => ?_)
  have h := h t343 e344
  refine lv_goto (tgt := 1477) hx hb dL_law_783 (by decide) ?_
  exact tL_law_1477 (σ := σ) (ρ := ρ) X κ115 post hpost bc115 bs115 hk115 _ _ (by omega) (by omega) (by omega) (by omega) a1 a2 t343 b1 x6 x8 x9 x10 x11 x12 x14 hX9 hW hS (lv_sub hl [0, 1, 2, 3, 4, 5, 6, 7, 8, 9, 10, 11, 12] rfl) h

set_option maxHeartbeats 4000000 in
set_option maxRecDepth 100000 in
theorem tL_law_701 {p : Program} {l : Launch} {e : Env} {s : State} {m : MethodId} {below : List Frame} {meth : Method} {c : Code} {b L : Nat} {xs : Nat → Int32} {z : Nat} {G : Gl} {ad : Nat → Nat → Nat} {σ : SG} {ν : NU} {ρ : RH} {lo : Int64} (X : LCX p l e s m below meth c b L xs z G) (κ115 : SG → NU → RH → Int64 → Int32 → Int32 → Int32 → Int32 → Prop) (post : Int32 → Prop) (hpost : ∀ r, post r → r = 1) (bc115 bs115 : Nat) (hk115 : ∀ (kc ks : Nat), kc + bc115 ≤ 600104 → ks + bs115 ≤ 7301314 → ∀ (a1 : SG) (a2 : NU) (a3 : RH) (b1 : Nat → Nat → Nat) (x6 : Int64) (x8 : Int32) (x9 : Int32) (x10 : Int32) (x11 : Int32) {H : Heap} {locs : List Loc} {ls : Array Slot}, Xt ad b1 ν a2 → WP z G b1 (a1, a2, a3, lo) H → va_S (Az z) s.heap H locs → lv_has ls 23 [(0, .ref b), (1, .ref (b1 0 0)), (2, .ref (b1 100 0)), (3, .ref (b1 101 0)), (4, .ref (b1 102 0)), (5, .ref (b1 103 0)), (6, .long x6), (8, .int x8), (9, .int x9), (10, .int x10), (11, .int x11)] → κ115 a1 a2 a3 x6 x8 x9 x10 x11 → W p l e room_1 s m #[Value.ref b] below meth c H locs kc ks (lw_Z below #[Value.ref b] s) (F0 m 115 ls [])) : ∀ (kc ks : Nat), kc + 1978 + bc115 ≤ 600104 → ks + 34665 + bs115 ≤ 7301314 → kc + 1500 ≤ 600104 → ks + 28184 ≤ 7301314 → ∀ (a1 : SG) (a2 : NU) (a3 : RH) (b1 : Nat → Nat → Nat) (x6 : Int64) (x8 : Int32) (x9 : Int32) (x11 : Int32) (x12 : Int32) (x14 : Int32) (x16 : Int32) (x20 : Int32) (y0 : Int32) {H : Heap} {locs : List Loc} {ls : Array Slot}, Xt ad b1 ν a2 → WP z G b1 (a1, a2, a3, lo) H → va_S (Az z) s.heap H locs → lv_has ls 23 [(0, .ref b), (1, .ref (b1 0 0)), (2, .ref (b1 100 0)), (3, .ref (b1 101 0)), (4, .ref (b1 102 0)), (5, .ref (b1 103 0)), (6, .long x6), (8, .int x8), (9, .int x9), (11, .int x11), (12, .int x12), (14, .int x14), (16, .int x16), (20, .int x20)] → jL_law_701 L xs κ115 post a1 a2 a3 x6 x8 x9 x11 x12 x14 x16 x20 y0 → W p l e room_1 s m #[Value.ref b] below meth c H locs kc ks (lw_Z below #[Value.ref b] s) (F0 m 701 ls [.int y0]) := by
  obtain ⟨hx, hb, hml, hown, hts, hE, hz, hlt, hX, hbl, hbA, hL, hr, hlocks, hze⟩ := id X
  intro kc ks hB1 hB2 hX1 hX2 a1 a2 a3 b1 x6 x8 x9 x11 x12 x14 x16 x20 y0 H locs ls hX9 hW hS hl h
  unfold jL_law_701 at h
  refine lv_istore (lv' := [(10, .int y0), (0, .ref b), (1, .ref (b1 0 0)), (2, .ref (b1 100 0)), (3, .ref (b1 101 0)), (4, .ref (b1 102 0)), (5, .ref (b1 103 0)), (6, .long x6), (8, .int x8), (9, .int x9), (11, .int x11), (12, .int x12), (14, .int x14), (16, .int x16), (20, .int x20)]) hx hb dL_law_701 hl (by decide) rfl (fun ls hl => ?_)
  refine lv_iload hx hb dL_law_703 (lv_at hl 14 rfl) ?_
  refine r_if_lt hx hb rfl (tgt := 783) dL_law_705 (by decide) (fun c316 => ?_) (fun c316 => ?_)
  · have h := ite_t c316 h
    refine lv_goto (tgt := 1477) hx hb dL_law_783 (by decide) ?_
    exact tL_law_1477 (σ := σ) (ρ := ρ) X κ115 post hpost bc115 bs115 hk115 _ _ (by omega) (by omega) (by omega) (by omega) a1 a2 a3 b1 x6 x8 x9 y0 x11 x12 x14 hX9 hW hS (lv_sub hl [1, 2, 3, 4, 5, 6, 7, 8, 9, 0, 10, 11, 12] rfl) h
  · have h := ite_f c316 h
    refine lv_aload_n hx hb dL_law_708 rfl (lv_at hl 4 rfl) ?_
    refine lv_aload_n hx hb dL_law_709 rfl (lv_at hl 3 rfl) ?_
    refine lv_iconst (v := (2 : Int32)) hx hb dL_law_710 (by decide) ?_
    obtain ⟨b317, h⟩ := h
    refine r_iald hx hb hE hW 100 0 ⟨rfl, by decide, by decide⟩ (n := 14) (f := a3 0) rfl b317 (v := a3 0 ((2 : Int32)).toNatClampNeg) rfl dL_law_711 ?_
    refine lv_aload_n hx hb dL_law_712 rfl (lv_at hl 3 rfl) ?_
    refine lv_bipush (v := (10 : Int32)) hx hb dL_law_713 (by decide) ?_
    obtain ⟨b318, h⟩ := h
    refine r_iald hx hb hE hW 100 0 ⟨rfl, by decide, by decide⟩ (n := 14) (f := a3 0) rfl b318 (v := a3 0 ((10 : Int32)).toNatClampNeg) rfl dL_law_715 ?_
    refine lv_iconst (v := (4 : Int32)) hx hb dL_law_716 (by decide) ?_
    refine lv_aload_n hx hb dL_law_717 rfl (lv_at hl 3 rfl) ?_
    refine lv_bipush (v := (11 : Int32)) hx hb dL_law_718 (by decide) ?_
    obtain ⟨b319, h⟩ := h
    refine r_iald hx hb hE hW 100 0 ⟨rfl, by decide, by decide⟩ (n := 14) (f := a3 0) rfl b319 (v := a3 0 ((11 : Int32)).toNatClampNeg) rfl dL_law_720 ?_
    refine lv_imul hx hb dL_law_721 ?_
    refine lv_iadd hx hb dL_law_722 ?_
    obtain ⟨b320, h⟩ := h
    refine r_iastM hx hb hE hW hS 1 (k := 101) rfl ⟨rfl, by decide, by decide⟩ (n := 40) (fun _ => rfl) (fun _ _ => rfl) b320 dL_law_723 (fun t321 e322 H locs hW hS => ?_)
    have h := h t321 e322
    refine lv_aload hx hb dL_law_724 (lv_at hl 5 rfl) ?_
    refine lv_aload_n hx hb dL_law_726 rfl (lv_at hl 3 rfl) ?_
    refine lv_iconst (v := (2 : Int32)) hx hb dL_law_727 (by decide) ?_
    obtain ⟨b323, h⟩ := h
    refine r_iald hx hb hE hW 100 0 ⟨rfl, by decide, by decide⟩ (n := 14) (f := t321 0) rfl b323 (v := t321 0 ((2 : Int32)).toNatClampNeg) rfl dL_law_728 ?_
    refine lv_aload_n hx hb dL_law_729 rfl (lv_at hl 3 rfl) ?_
    refine lv_bipush (v := (12 : Int32)) hx hb dL_law_730 (by decide) ?_
    obtain ⟨b324, h⟩ := h
    refine r_iald hx hb hE hW 100 0 ⟨rfl, by decide, by decide⟩ (n := 14) (f := t321 0) rfl b324 (v := t321 0 ((12 : Int32)).toNatClampNeg) rfl dL_law_732 ?_
    refine lv_aload_n hx hb dL_law_733 rfl (lv_at hl 3 rfl) ?_
    refine lv_iconst (v := (0 : Int32)) hx hb dL_law_734 (by decide) ?_
    obtain ⟨b325, h⟩ := h
    refine r_iald hx hb hE hW 100 0 ⟨rfl, by decide, by decide⟩ (n := 14) (f := t321 0) rfl b325 (v := t321 0 ((0 : Int32)).toNatClampNeg) rfl dL_law_735 ?_
    refine lv_iconst (v := (3 : Int32)) hx hb dL_law_736 (by decide) ?_
    refine lv_ishl hx hb dL_law_737 ?_
    refine lv_ior hx hb dL_law_738 ?_
    refine lv_aload_n hx hb dL_law_739 rfl (lv_at hl 3 rfl) ?_
    refine lv_bipush (v := (13 : Int32)) hx hb dL_law_740 (by decide) ?_
    obtain ⟨b326, h⟩ := h
    refine r_iald hx hb hE hW 100 0 ⟨rfl, by decide, by decide⟩ (n := 14) (f := t321 0) rfl b326 (v := t321 0 ((13 : Int32)).toNatClampNeg) rfl dL_law_742 ?_
    refine lv_iconst (v := (1 : Int32)) hx hb dL_law_743 (by decide) ?_
    refine lv_iadd hx hb dL_law_744 ?_
    refine lv_bipush (v := (16 : Int32)) hx hb dL_law_745 (by decide) ?_
    refine lv_ishl hx hb dL_law_747 ?_
    refine lv_ior hx hb dL_law_748 ?_
    obtain ⟨b327, h⟩ := h
    refine r_iastM hx hb hE hW hS 2 (k := 102) rfl ⟨rfl, by decide, by decide⟩ (n := 40) (fun _ => rfl) (fun _ _ => rfl) b327 dL_law_749 (fun t328 e329 H locs hW hS => ?_)
    have h := h t328 e329
    refine lv_aload_n hx hb dL_law_750 rfl (lv_at hl 3 rfl) ?_
    refine lv_iconst (v := (2 : Int32)) hx hb dL_law_751 (by decide) ?_
    refine lv_dup2_11 hx hb dL_law_752 rfl rfl ?_
    obtain ⟨b330, h⟩ := h
    refine r_iald hx hb hE hW 100 0 ⟨rfl, by decide, by decide⟩ (n := 14) (f := t328 0) rfl b330 (v := t328 0 ((2 : Int32)).toNatClampNeg) rfl dL_law_753 ?_
    refine lv_iconst (v := (1 : Int32)) hx hb dL_law_754 (by decide) ?_
    refine lv_iadd hx hb dL_law_755 ?_
    obtain ⟨b331, h⟩ := h
    refine r_iastM hx hb hE hW hS 0 (k := 100) rfl ⟨rfl, by decide, by decide⟩ (n := 14) (fun _ => rfl) (fun _ _ => rfl) b331 dL_law_756 (fun t332 e333 H locs hW hS => ?_)
    have h := h t332 e333
    refine lv_aload_n hx hb dL_law_757 rfl (lv_at hl 3 rfl) ?_
    refine lv_iconst (v := (3 : Int32)) hx hb dL_law_758 (by decide) ?_
    refine lv_dup2_11 hx hb dL_law_759 rfl rfl ?_
    obtain ⟨b334, h⟩ := h
    refine r_iald hx hb hE hW 100 0 ⟨rfl, by decide, by decide⟩ (n := 14) (f := t332 0) rfl b334 (v := t332 0 ((3 : Int32)).toNatClampNeg) rfl dL_law_760 ?_
    refine lv_iload hx hb dL_law_761 (lv_at hl 13 rfl) ?_
    refine r_if_eq hx hb rfl (tgt := 770) dL_law_763 (by decide) (fun c335 => ?_) (fun c335 => ?_)
    · have h := ite_t c335 h
      refine lv_iconst (v := (0 : Int32)) hx hb dL_law_770 (by decide) ?_
      exact tL_law_771 (σ := σ) (ρ := ρ) X κ115 post hpost bc115 bs115 hk115 _ _ (by omega) (by omega) (by omega) (by omega) a1 a2 t332 b1 x6 x8 x9 y0 x11 x12 x14 0 (t332 0 ((3 : Int32)).toNatClampNeg) ((0 : Int32)) hX9 hW hS (lv_sub hl [1, 2, 3, 4, 5, 6, 7, 8, 9, 0, 10, 11, 12] rfl) h
    · have h := ite_f c335 h
      refine lv_iconst (v := (1 : Int32)) hx hb dL_law_766 (by decide) ?_
      refine lv_goto (tgt := 771) hx hb dL_law_767 (by decide) ?_
      exact tL_law_771 (σ := σ) (ρ := ρ) X κ115 post hpost bc115 bs115 hk115 _ _ (by omega) (by omega) (by omega) (by omega) a1 a2 t332 b1 x6 x8 x9 y0 x11 x12 x14 0 (t332 0 ((3 : Int32)).toNatClampNeg) ((1 : Int32)) hX9 hW hS (lv_sub hl [1, 2, 3, 4, 5, 6, 7, 8, 9, 0, 10, 11, 12] rfl) h

set_option maxHeartbeats 4000000 in
set_option maxRecDepth 100000 in
theorem tL_law_693 {p : Program} {l : Launch} {e : Env} {s : State} {m : MethodId} {below : List Frame} {meth : Method} {c : Code} {b L : Nat} {xs : Nat → Int32} {z : Nat} {G : Gl} {ad : Nat → Nat → Nat} {σ : SG} {ν : NU} {ρ : RH} {lo : Int64} (X : LCX p l e s m below meth c b L xs z G) (κ115 : SG → NU → RH → Int64 → Int32 → Int32 → Int32 → Int32 → Prop) (post : Int32 → Prop) (hpost : ∀ r, post r → r = 1) (bc115 bs115 : Nat) (hk115 : ∀ (kc ks : Nat), kc + bc115 ≤ 600104 → ks + bs115 ≤ 7301314 → ∀ (a1 : SG) (a2 : NU) (a3 : RH) (b1 : Nat → Nat → Nat) (x6 : Int64) (x8 : Int32) (x9 : Int32) (x10 : Int32) (x11 : Int32) {H : Heap} {locs : List Loc} {ls : Array Slot}, Xt ad b1 ν a2 → WP z G b1 (a1, a2, a3, lo) H → va_S (Az z) s.heap H locs → lv_has ls 23 [(0, .ref b), (1, .ref (b1 0 0)), (2, .ref (b1 100 0)), (3, .ref (b1 101 0)), (4, .ref (b1 102 0)), (5, .ref (b1 103 0)), (6, .long x6), (8, .int x8), (9, .int x9), (10, .int x10), (11, .int x11)] → κ115 a1 a2 a3 x6 x8 x9 x10 x11 → W p l e room_1 s m #[Value.ref b] below meth c H locs kc ks (lw_Z below #[Value.ref b] s) (F0 m 115 ls [])) : ∀ (kc ks : Nat), kc + 1978 + bc115 ≤ 600104 → ks + 34665 + bs115 ≤ 7301314 → kc + 1500 ≤ 600104 → ks + 28184 ≤ 7301314 → ∀ (a1 : SG) (a2 : NU) (a3 : RH) (b1 : Nat → Nat → Nat) (x6 : Int64) (x8 : Int32) (x9 : Int32) (x11 : Int32) (x12 : Int32) (x14 : Int32) (x16 : Int32) (x20 : Int32) (y0 : Int32) (y1 : Int32) {H : Heap} {locs : List Loc} {ls : Array Slot}, Xt ad b1 ν a2 → WP z G b1 (a1, a2, a3, lo) H → va_S (Az z) s.heap H locs → lv_has ls 23 [(0, .ref b), (1, .ref (b1 0 0)), (2, .ref (b1 100 0)), (3, .ref (b1 101 0)), (4, .ref (b1 102 0)), (5, .ref (b1 103 0)), (6, .long x6), (8, .int x8), (9, .int x9), (11, .int x11), (12, .int x12), (14, .int x14), (16, .int x16), (20, .int x20)] → jL_law_693 L xs κ115 post a1 a2 a3 x6 x8 x9 x11 x12 x14 x16 x20 y0 y1 → W p l e room_1 s m #[Value.ref b] below meth c H locs kc ks (lw_Z below #[Value.ref b] s) (F0 m 693 ls [.int y1, .int y0]) := by
  obtain ⟨hx, hb, hml, hown, hts, hE, hz, hlt, hX, hbl, hbA, hL, hr, hlocks, hze⟩ := id X
  intro kc ks hB1 hB2 hX1 hX2 a1 a2 a3 b1 x6 x8 x9 x11 x12 x14 x16 x20 y0 y1 H locs ls hX9 hW hS hl h
  unfold jL_law_693 at h
  refine r_icmp_ne hx hb rfl rfl (tgt := 700) dL_law_693 (by decide) (fun c315 => ?_) (fun c315 => ?_)
  · have h := ite_f c315 h
    refine lv_iconst (v := (0 : Int32)) hx hb dL_law_700 (by decide) ?_
    exact tL_law_701 (σ := σ) (ρ := ρ) X κ115 post hpost bc115 bs115 hk115 _ _ (by omega) (by omega) (by omega) (by omega) a1 a2 a3 b1 x6 x8 x9 x11 x12 x14 x16 x20 ((0 : Int32)) hX9 hW hS (lv_sub hl [0, 1, 2, 3, 4, 5, 6, 7, 8, 9, 10, 11, 12, 13] rfl) h
  · have h := ite_t c315 h
    refine lv_iconst (v := (1 : Int32)) hx hb dL_law_696 (by decide) ?_
    refine lv_goto (tgt := 701) hx hb dL_law_697 (by decide) ?_
    exact tL_law_701 (σ := σ) (ρ := ρ) X κ115 post hpost bc115 bs115 hk115 _ _ (by omega) (by omega) (by omega) (by omega) a1 a2 a3 b1 x6 x8 x9 x11 x12 x14 x16 x20 ((1 : Int32)) hX9 hW hS (lv_sub hl [0, 1, 2, 3, 4, 5, 6, 7, 8, 9, 10, 11, 12, 13] rfl) h

set_option maxHeartbeats 4000000 in
set_option maxRecDepth 100000 in
theorem tL_law_659 {p : Program} {l : Launch} {e : Env} {s : State} {m : MethodId} {below : List Frame} {meth : Method} {c : Code} {b L : Nat} {xs : Nat → Int32} {z : Nat} {G : Gl} {ad : Nat → Nat → Nat} {σ : SG} {ν : NU} {ρ : RH} {lo : Int64} (X : LCX p l e s m below meth c b L xs z G) (κ115 : SG → NU → RH → Int64 → Int32 → Int32 → Int32 → Int32 → Prop) (post : Int32 → Prop) (hpost : ∀ r, post r → r = 1) (bc115 bs115 : Nat) (hk115 : ∀ (kc ks : Nat), kc + bc115 ≤ 600104 → ks + bs115 ≤ 7301314 → ∀ (a1 : SG) (a2 : NU) (a3 : RH) (b1 : Nat → Nat → Nat) (x6 : Int64) (x8 : Int32) (x9 : Int32) (x10 : Int32) (x11 : Int32) {H : Heap} {locs : List Loc} {ls : Array Slot}, Xt ad b1 ν a2 → WP z G b1 (a1, a2, a3, lo) H → va_S (Az z) s.heap H locs → lv_has ls 23 [(0, .ref b), (1, .ref (b1 0 0)), (2, .ref (b1 100 0)), (3, .ref (b1 101 0)), (4, .ref (b1 102 0)), (5, .ref (b1 103 0)), (6, .long x6), (8, .int x8), (9, .int x9), (10, .int x10), (11, .int x11)] → κ115 a1 a2 a3 x6 x8 x9 x10 x11 → W p l e room_1 s m #[Value.ref b] below meth c H locs kc ks (lw_Z below #[Value.ref b] s) (F0 m 115 ls [])) : ∀ (kc ks : Nat), kc + 1978 + bc115 ≤ 600104 → ks + 34665 + bs115 ≤ 7301314 → kc + 1500 ≤ 600104 → ks + 28184 ≤ 7301314 → ∀ (a1 : SG) (a2 : NU) (a3 : RH) (b1 : Nat → Nat → Nat) (x6 : Int64) (x8 : Int32) (x9 : Int32) (x11 : Int32) (x12 : Int32) (x14 : Int32) (x16 : Int32) (x20 : Int32) (x21 : Int32) (y0 : Int32) {H : Heap} {locs : List Loc} {ls : Array Slot}, Xt ad b1 ν a2 → WP z G b1 (a1, a2, a3, lo) H → va_S (Az z) s.heap H locs → lv_has ls 23 [(0, .ref b), (1, .ref (b1 0 0)), (2, .ref (b1 100 0)), (3, .ref (b1 101 0)), (4, .ref (b1 102 0)), (5, .ref (b1 103 0)), (6, .long x6), (8, .int x8), (9, .int x9), (11, .int x11), (12, .int x12), (14, .int x14), (16, .int x16), (20, .int x20), (21, .int x21)] → jL_law_659 L xs κ115 post a1 a2 a3 x6 x8 x9 x11 x12 x14 x16 x20 x21 y0 → W p l e room_1 s m #[Value.ref b] below meth c H locs kc ks (lw_Z below #[Value.ref b] s) (F0 m 659 ls [.int y0]) := by
  obtain ⟨hx, hb, hml, hown, hts, hE, hz, hlt, hX, hbl, hbA, hL, hr, hlocks, hze⟩ := id X
  intro kc ks hB1 hB2 hX1 hX2 a1 a2 a3 b1 x6 x8 x9 x11 x12 x14 x16 x20 x21 y0 H locs ls hX9 hW hS hl h
  unfold jL_law_659 at h
  refine lv_istore (lv' := [(22, .int y0), (0, .ref b), (1, .ref (b1 0 0)), (2, .ref (b1 100 0)), (3, .ref (b1 101 0)), (4, .ref (b1 102 0)), (5, .ref (b1 103 0)), (6, .long x6), (8, .int x8), (9, .int x9), (11, .int x11), (12, .int x12), (14, .int x14), (16, .int x16), (20, .int x20), (21, .int x21)]) hx hb dL_law_659 hl (by decide) rfl (fun ls hl => ?_)
  refine lv_iload hx hb dL_law_661 (lv_at hl 14 rfl) ?_
  refine lv_iload hx hb dL_law_663 (lv_at hl 15 rfl) ?_
  refine r_if_eq hx hb rfl (tgt := 690) dL_law_665 (by decide) (fun c314 => ?_) (fun c314 => ?_)
  · have h := ite_t c314 h
    refine lv_sipush (v := (-1383 : Int32)) hx hb dL_law_690 (by decide) ?_
    exact tL_law_693 (σ := σ) (ρ := ρ) X κ115 post hpost bc115 bs115 hk115 _ _ (by omega) (by omega) (by omega) (by omega) a1 a2 a3 b1 x6 x8 x9 x11 x12 x14 x16 x20 x20 ((-1383 : Int32)) hX9 hW hS (lv_sub hl [1, 2, 3, 4, 5, 6, 7, 8, 9, 10, 11, 12, 13, 14] rfl) h
  · have h := ite_f c314 h
    refine lv_iload hx hb dL_law_668 (lv_at hl 0 rfl) ?_
    refine r_if_eq hx hb rfl (tgt := 690) dL_law_670 (by decide) (fun c345 => ?_) (fun c345 => ?_)
    · have h := ite_t c345 h
      refine lv_sipush (v := (-1383 : Int32)) hx hb dL_law_690 (by decide) ?_
      exact tL_law_693 (σ := σ) (ρ := ρ) X κ115 post hpost bc115 bs115 hk115 _ _ (by omega) (by omega) (by omega) (by omega) a1 a2 a3 b1 x6 x8 x9 x11 x12 x14 x16 x20 x20 ((-1383 : Int32)) hX9 hW hS (lv_sub hl [1, 2, 3, 4, 5, 6, 7, 8, 9, 10, 11, 12, 13, 14] rfl) h
    · have h := ite_f c345 h
      refine lv_iload hx hb dL_law_673 (lv_at hl 13 rfl) ?_
      refine r_if_eq hx hb rfl (tgt := 684) dL_law_675 (by decide) (fun c346 => ?_) (fun c346 => ?_)
      · have h := ite_t c346 h
        refine lv_aload_n hx hb dL_law_684 rfl (lv_at hl 3 rfl) ?_
        refine lv_iconst (v := (2 : Int32)) hx hb dL_law_685 (by decide) ?_
        obtain ⟨b347, h⟩ := h
        refine r_iald hx hb hE hW 100 0 ⟨rfl, by decide, by decide⟩ (n := 14) (f := a3 0) rfl b347 (v := a3 0 ((2 : Int32)).toNatClampNeg) rfl dL_law_686 ?_
        refine lv_goto (tgt := 693) hx hb dL_law_687 (by decide) ?_
        exact tL_law_693 (σ := σ) (ρ := ρ) X κ115 post hpost bc115 bs115 hk115 _ _ (by omega) (by omega) (by omega) (by omega) a1 a2 a3 b1 x6 x8 x9 x11 x12 x14 x16 x20 x20 (a3 0 ((2 : Int32)).toNatClampNeg) hX9 hW hS (lv_sub hl [1, 2, 3, 4, 5, 6, 7, 8, 9, 10, 11, 12, 13, 14] rfl) h
      · have h := ite_f c346 h
        refine lv_aload_n hx hb dL_law_678 rfl (lv_at hl 3 rfl) ?_
        refine lv_iconst (v := (3 : Int32)) hx hb dL_law_679 (by decide) ?_
        obtain ⟨b348, h⟩ := h
        refine r_iald hx hb hE hW 100 0 ⟨rfl, by decide, by decide⟩ (n := 14) (f := a3 0) rfl b348 (v := a3 0 ((3 : Int32)).toNatClampNeg) rfl dL_law_680 ?_
        refine lv_goto (tgt := 693) hx hb dL_law_681 (by decide) ?_
        exact tL_law_693 (σ := σ) (ρ := ρ) X κ115 post hpost bc115 bs115 hk115 _ _ (by omega) (by omega) (by omega) (by omega) a1 a2 a3 b1 x6 x8 x9 x11 x12 x14 x16 x20 x20 (a3 0 ((3 : Int32)).toNatClampNeg) hX9 hW hS (lv_sub hl [1, 2, 3, 4, 5, 6, 7, 8, 9, 10, 11, 12, 13, 14] rfl) h

set_option maxHeartbeats 4000000 in
set_option maxRecDepth 100000 in
theorem tL_law_534 {p : Program} {l : Launch} {e : Env} {s : State} {m : MethodId} {below : List Frame} {meth : Method} {c : Code} {b L : Nat} {xs : Nat → Int32} {z : Nat} {G : Gl} {ad : Nat → Nat → Nat} {σ : SG} {ν : NU} {ρ : RH} {lo : Int64} (X : LCX p l e s m below meth c b L xs z G) (κ115 : SG → NU → RH → Int64 → Int32 → Int32 → Int32 → Int32 → Prop) (post : Int32 → Prop) (hpost : ∀ r, post r → r = 1) (bc115 bs115 : Nat) (hk115 : ∀ (kc ks : Nat), kc + bc115 ≤ 600104 → ks + bs115 ≤ 7301314 → ∀ (a1 : SG) (a2 : NU) (a3 : RH) (b1 : Nat → Nat → Nat) (x6 : Int64) (x8 : Int32) (x9 : Int32) (x10 : Int32) (x11 : Int32) {H : Heap} {locs : List Loc} {ls : Array Slot}, Xt ad b1 ν a2 → WP z G b1 (a1, a2, a3, lo) H → va_S (Az z) s.heap H locs → lv_has ls 23 [(0, .ref b), (1, .ref (b1 0 0)), (2, .ref (b1 100 0)), (3, .ref (b1 101 0)), (4, .ref (b1 102 0)), (5, .ref (b1 103 0)), (6, .long x6), (8, .int x8), (9, .int x9), (10, .int x10), (11, .int x11)] → κ115 a1 a2 a3 x6 x8 x9 x10 x11 → W p l e room_1 s m #[Value.ref b] below meth c H locs kc ks (lw_Z below #[Value.ref b] s) (F0 m 115 ls [])) : ∀ (kc ks : Nat), kc + 1978 + bc115 ≤ 600104 → ks + 34665 + bs115 ≤ 7301314 → kc + 1500 ≤ 600104 → ks + 28184 ≤ 7301314 → ∀ (a1 : SG) (a2 : NU) (a3 : RH) (b1 : Nat → Nat → Nat) (x6 : Int64) (x8 : Int32) (x9 : Int32) (x11 : Int32) (x12 : Int32) (x14 : Int32) (x16 : Int32) (x17 : Int32) (x20 : Int32) (y0 : Int32) {H : Heap} {locs : List Loc} {ls : Array Slot}, Xt ad b1 ν a2 → WP z G b1 (a1, a2, a3, lo) H → va_S (Az z) s.heap H locs → lv_has ls 23 [(0, .ref b), (1, .ref (b1 0 0)), (2, .ref (b1 100 0)), (3, .ref (b1 101 0)), (4, .ref (b1 102 0)), (5, .ref (b1 103 0)), (6, .long x6), (8, .int x8), (9, .int x9), (11, .int x11), (12, .int x12), (14, .int x14), (16, .int x16), (17, .int x17), (20, .int x20)] → jL_law_534 L xs κ115 post a1 a2 a3 x6 x8 x9 x11 x12 x14 x16 x17 x20 y0 → W p l e room_1 s m #[Value.ref b] below meth c H locs kc ks (lw_Z below #[Value.ref b] s) (F0 m 534 ls [.int y0]) := by
  obtain ⟨hx, hb, hml, hown, hts, hE, hz, hlt, hX, hbl, hbA, hL, hr, hlocks, hze⟩ := id X
  intro kc ks hB1 hB2 hX1 hX2 a1 a2 a3 b1 x6 x8 x9 x11 x12 x14 x16 x17 x20 y0 H locs ls hX9 hW hS hl h
  unfold jL_law_534 at h
  refine lv_istore (lv' := [(21, .int y0), (0, .ref b), (1, .ref (b1 0 0)), (2, .ref (b1 100 0)), (3, .ref (b1 101 0)), (4, .ref (b1 102 0)), (5, .ref (b1 103 0)), (6, .long x6), (8, .int x8), (9, .int x9), (11, .int x11), (12, .int x12), (14, .int x14), (16, .int x16), (17, .int x17), (20, .int x20)]) hx hb dL_law_534 hl (by decide) rfl (fun ls hl => ?_)
  refine lv_iload hx hb dL_law_536 (lv_at hl 13 rfl) ?_
  refine r_if_eq hx hb rfl (tgt := 564) dL_law_538 (by decide) (fun c311 => ?_) (fun c311 => ?_)
  · have h := ite_t c311 h
    refine lv_aload_n hx hb dL_law_564 rfl (lv_at hl 3 rfl) ?_
    refine lv_iconst (v := (3 : Int32)) hx hb dL_law_565 (by decide) ?_
    obtain ⟨b312, h⟩ := h
    refine r_iald hx hb hE hW 100 0 ⟨rfl, by decide, by decide⟩ (n := 14) (f := a3 0) rfl b312 (v := a3 0 ((3 : Int32)).toNatClampNeg) rfl dL_law_566 ?_
    refine r_if_le hx hb rfl (tgt := 658) dL_law_567 (by decide) (fun c313 => ?_) (fun c313 => ?_)
    · have h := ite_t c313 h
      refine lv_iconst (v := (0 : Int32)) hx hb dL_law_658 (by decide) ?_
      exact tL_law_659 (σ := σ) (ρ := ρ) X κ115 post hpost bc115 bs115 hk115 _ _ (by omega) (by omega) (by omega) (by omega) a1 a2 a3 b1 x6 x8 x9 x11 x12 x14 x16 x20 y0 ((0 : Int32)) hX9 hW hS (lv_sub hl [1, 2, 3, 4, 5, 6, 7, 8, 9, 10, 11, 12, 13, 15, 0] rfl) h
    · have h := ite_f c313 h
      refine lv_iload hx hb dL_law_570 (lv_at hl 14 rfl) ?_
      refine lv_iconst (v := (1 : Int32)) hx hb dL_law_572 (by decide) ?_
      refine r_icmp_ne hx hb rfl (show (1 : Int32).toInt = 1 by decide) (tgt := 586) dL_law_573 (by decide) (fun c349 => ?_) (fun c349 => ?_)
      · have h := ite_f c349 h
        refine lv_iload hx hb dL_law_586 (lv_at hl 14 rfl) ?_
        refine lv_iconst (v := (2 : Int32)) hx hb dL_law_588 (by decide) ?_
        refine r_icmp_ne hx hb rfl (show (2 : Int32).toInt = 2 by decide) (tgt := 602) dL_law_589 (by decide) (fun c350 => ?_) (fun c350 => ?_)
        · have h := ite_f c350 h
          refine lv_iload hx hb dL_law_602 (lv_at hl 14 rfl) ?_
          refine lv_iconst (v := (3 : Int32)) hx hb dL_law_604 (by decide) ?_
          refine r_icmp_ne hx hb rfl (show (3 : Int32).toInt = 3 by decide) (tgt := 625) dL_law_605 (by decide) (fun c351 => ?_) (fun c351 => ?_)
          · have h := ite_f c351 h
            refine lv_iload hx hb dL_law_625 (lv_at hl 14 rfl) ?_
            refine lv_bipush (v := (7 : Int32)) hx hb dL_law_627 (by decide) ?_
            refine r_icmp_ne hx hb rfl (show (7 : Int32).toInt = 7 by decide) (tgt := 642) dL_law_629 (by decide) (fun c352 => ?_) (fun c352 => ?_)
            · have h := ite_f c352 h
              refine lv_aload_n hx hb dL_law_642 rfl (lv_at hl 3 rfl) ?_
              refine lv_bipush (v := (8 : Int32)) hx hb dL_law_643 (by decide) ?_
              obtain ⟨b353, h⟩ := h
              refine r_iald hx hb hE hW 100 0 ⟨rfl, by decide, by decide⟩ (n := 14) (f := a3 0) rfl b353 (v := a3 0 ((8 : Int32)).toNatClampNeg) rfl dL_law_645 ?_
              refine lv_aload_n hx hb dL_law_646 rfl (lv_at hl 3 rfl) ?_
              refine lv_bipush (v := (9 : Int32)) hx hb dL_law_647 (by decide) ?_
              obtain ⟨b354, h⟩ := h
              refine r_iald hx hb hE hW 100 0 ⟨rfl, by decide, by decide⟩ (n := 14) (f := a3 0) rfl b354 (v := a3 0 ((9 : Int32)).toNatClampNeg) rfl dL_law_649 ?_
              refine lv_iadd hx hb dL_law_650 ?_
              refine r_if_ne hx hb rfl (tgt := 658) dL_law_651 (by decide) (fun c355 => ?_) (fun c355 => ?_)
              · have h := ite_f c355 h
                refine lv_iconst (v := (0 : Int32)) hx hb dL_law_658 (by decide) ?_
                exact tL_law_659 (σ := σ) (ρ := ρ) X κ115 post hpost bc115 bs115 hk115 _ _ (by omega) (by omega) (by omega) (by omega) a1 a2 a3 b1 x6 x8 x9 x11 x12 x14 x16 x20 y0 ((0 : Int32)) hX9 hW hS (lv_sub hl [1, 2, 3, 4, 5, 6, 7, 8, 9, 10, 11, 12, 13, 15, 0] rfl) h
              · have h := ite_t c355 h
                refine lv_iconst (v := (1 : Int32)) hx hb dL_law_654 (by decide) ?_
                refine lv_goto (tgt := 659) hx hb dL_law_655 (by decide) ?_
                exact tL_law_659 (σ := σ) (ρ := ρ) X κ115 post hpost bc115 bs115 hk115 _ _ (by omega) (by omega) (by omega) (by omega) a1 a2 a3 b1 x6 x8 x9 x11 x12 x14 x16 x20 y0 ((1 : Int32)) hX9 hW hS (lv_sub hl [1, 2, 3, 4, 5, 6, 7, 8, 9, 10, 11, 12, 13, 15, 0] rfl) h
            · have h := ite_t c352 h
              refine lv_aload_n hx hb dL_law_632 rfl (lv_at hl 3 rfl) ?_
              refine lv_bipush (v := (8 : Int32)) hx hb dL_law_633 (by decide) ?_
              obtain ⟨b356, h⟩ := h
              refine r_iald hx hb hE hW 100 0 ⟨rfl, by decide, by decide⟩ (n := 14) (f := a3 0) rfl b356 (v := a3 0 ((8 : Int32)).toNatClampNeg) rfl dL_law_635 ?_
              refine r_if_ne hx hb rfl (tgt := 658) dL_law_636 (by decide) (fun c357 => ?_) (fun c357 => ?_)
              · have h := ite_f c357 h
                refine lv_iconst (v := (0 : Int32)) hx hb dL_law_658 (by decide) ?_
                exact tL_law_659 (σ := σ) (ρ := ρ) X κ115 post hpost bc115 bs115 hk115 _ _ (by omega) (by omega) (by omega) (by omega) a1 a2 a3 b1 x6 x8 x9 x11 x12 x14 x16 x20 y0 ((0 : Int32)) hX9 hW hS (lv_sub hl [1, 2, 3, 4, 5, 6, 7, 8, 9, 10, 11, 12, 13, 15, 0] rfl) h
              · have h := ite_t c357 h
                refine lv_goto (tgt := 654) hx hb dL_law_639 (by decide) ?_
                refine lv_iconst (v := (1 : Int32)) hx hb dL_law_654 (by decide) ?_
                refine lv_goto (tgt := 659) hx hb dL_law_655 (by decide) ?_
                exact tL_law_659 (σ := σ) (ρ := ρ) X κ115 post hpost bc115 bs115 hk115 _ _ (by omega) (by omega) (by omega) (by omega) a1 a2 a3 b1 x6 x8 x9 x11 x12 x14 x16 x20 y0 ((1 : Int32)) hX9 hW hS (lv_sub hl [1, 2, 3, 4, 5, 6, 7, 8, 9, 10, 11, 12, 13, 15, 0] rfl) h
          · have h := ite_t c351 h
            refine lv_aload_n hx hb dL_law_608 rfl (lv_at hl 3 rfl) ?_
            refine lv_bipush (v := (8 : Int32)) hx hb dL_law_609 (by decide) ?_
            obtain ⟨b358, h⟩ := h
            refine r_iald hx hb hE hW 100 0 ⟨rfl, by decide, by decide⟩ (n := 14) (f := a3 0) rfl b358 (v := a3 0 ((8 : Int32)).toNatClampNeg) rfl dL_law_611 ?_
            refine r_if_le hx hb rfl (tgt := 658) dL_law_612 (by decide) (fun c359 => ?_) (fun c359 => ?_)
            · have h := ite_t c359 h
              refine lv_iconst (v := (0 : Int32)) hx hb dL_law_658 (by decide) ?_
              exact tL_law_659 (σ := σ) (ρ := ρ) X κ115 post hpost bc115 bs115 hk115 _ _ (by omega) (by omega) (by omega) (by omega) a1 a2 a3 b1 x6 x8 x9 x11 x12 x14 x16 x20 y0 ((0 : Int32)) hX9 hW hS (lv_sub hl [1, 2, 3, 4, 5, 6, 7, 8, 9, 10, 11, 12, 13, 15, 0] rfl) h
            · have h := ite_f c359 h
              refine lv_aload_n hx hb dL_law_615 rfl (lv_at hl 3 rfl) ?_
              refine lv_bipush (v := (9 : Int32)) hx hb dL_law_616 (by decide) ?_
              obtain ⟨b360, h⟩ := h
              refine r_iald hx hb hE hW 100 0 ⟨rfl, by decide, by decide⟩ (n := 14) (f := a3 0) rfl b360 (v := a3 0 ((9 : Int32)).toNatClampNeg) rfl dL_law_618 ?_
              refine r_if_ne hx hb rfl (tgt := 658) dL_law_619 (by decide) (fun c361 => ?_) (fun c361 => ?_)
              · have h := ite_f c361 h
                refine lv_iconst (v := (0 : Int32)) hx hb dL_law_658 (by decide) ?_
                exact tL_law_659 (σ := σ) (ρ := ρ) X κ115 post hpost bc115 bs115 hk115 _ _ (by omega) (by omega) (by omega) (by omega) a1 a2 a3 b1 x6 x8 x9 x11 x12 x14 x16 x20 y0 ((0 : Int32)) hX9 hW hS (lv_sub hl [1, 2, 3, 4, 5, 6, 7, 8, 9, 10, 11, 12, 13, 15, 0] rfl) h
              · have h := ite_t c361 h
                refine lv_goto (tgt := 654) hx hb dL_law_622 (by decide) ?_
                refine lv_iconst (v := (1 : Int32)) hx hb dL_law_654 (by decide) ?_
                refine lv_goto (tgt := 659) hx hb dL_law_655 (by decide) ?_
                exact tL_law_659 (σ := σ) (ρ := ρ) X κ115 post hpost bc115 bs115 hk115 _ _ (by omega) (by omega) (by omega) (by omega) a1 a2 a3 b1 x6 x8 x9 x11 x12 x14 x16 x20 y0 ((1 : Int32)) hX9 hW hS (lv_sub hl [1, 2, 3, 4, 5, 6, 7, 8, 9, 10, 11, 12, 13, 15, 0] rfl) h
        · have h := ite_t c350 h
          refine lv_aload_n hx hb dL_law_592 rfl (lv_at hl 3 rfl) ?_
          refine lv_bipush (v := (8 : Int32)) hx hb dL_law_593 (by decide) ?_
          obtain ⟨b362, h⟩ := h
          refine r_iald hx hb hE hW 100 0 ⟨rfl, by decide, by decide⟩ (n := 14) (f := a3 0) rfl b362 (v := a3 0 ((8 : Int32)).toNatClampNeg) rfl dL_law_595 ?_
          refine r_if_le hx hb rfl (tgt := 658) dL_law_596 (by decide) (fun c363 => ?_) (fun c363 => ?_)
          · have h := ite_t c363 h
            refine lv_iconst (v := (0 : Int32)) hx hb dL_law_658 (by decide) ?_
            exact tL_law_659 (σ := σ) (ρ := ρ) X κ115 post hpost bc115 bs115 hk115 _ _ (by omega) (by omega) (by omega) (by omega) a1 a2 a3 b1 x6 x8 x9 x11 x12 x14 x16 x20 y0 ((0 : Int32)) hX9 hW hS (lv_sub hl [1, 2, 3, 4, 5, 6, 7, 8, 9, 10, 11, 12, 13, 15, 0] rfl) h
          · have h := ite_f c363 h
            refine lv_goto (tgt := 654) hx hb dL_law_599 (by decide) ?_
            refine lv_iconst (v := (1 : Int32)) hx hb dL_law_654 (by decide) ?_
            refine lv_goto (tgt := 659) hx hb dL_law_655 (by decide) ?_
            exact tL_law_659 (σ := σ) (ρ := ρ) X κ115 post hpost bc115 bs115 hk115 _ _ (by omega) (by omega) (by omega) (by omega) a1 a2 a3 b1 x6 x8 x9 x11 x12 x14 x16 x20 y0 ((1 : Int32)) hX9 hW hS (lv_sub hl [1, 2, 3, 4, 5, 6, 7, 8, 9, 10, 11, 12, 13, 15, 0] rfl) h
      · have h := ite_t c349 h
        refine lv_aload_n hx hb dL_law_576 rfl (lv_at hl 3 rfl) ?_
        refine lv_bipush (v := (9 : Int32)) hx hb dL_law_577 (by decide) ?_
        obtain ⟨b364, h⟩ := h
        refine r_iald hx hb hE hW 100 0 ⟨rfl, by decide, by decide⟩ (n := 14) (f := a3 0) rfl b364 (v := a3 0 ((9 : Int32)).toNatClampNeg) rfl dL_law_579 ?_
        refine r_if_le hx hb rfl (tgt := 658) dL_law_580 (by decide) (fun c365 => ?_) (fun c365 => ?_)
        · have h := ite_t c365 h
          refine lv_iconst (v := (0 : Int32)) hx hb dL_law_658 (by decide) ?_
          exact tL_law_659 (σ := σ) (ρ := ρ) X κ115 post hpost bc115 bs115 hk115 _ _ (by omega) (by omega) (by omega) (by omega) a1 a2 a3 b1 x6 x8 x9 x11 x12 x14 x16 x20 y0 ((0 : Int32)) hX9 hW hS (lv_sub hl [1, 2, 3, 4, 5, 6, 7, 8, 9, 10, 11, 12, 13, 15, 0] rfl) h
        · have h := ite_f c365 h
          refine lv_goto (tgt := 654) hx hb dL_law_583 (by decide) ?_
          refine lv_iconst (v := (1 : Int32)) hx hb dL_law_654 (by decide) ?_
          refine lv_goto (tgt := 659) hx hb dL_law_655 (by decide) ?_
          exact tL_law_659 (σ := σ) (ρ := ρ) X κ115 post hpost bc115 bs115 hk115 _ _ (by omega) (by omega) (by omega) (by omega) a1 a2 a3 b1 x6 x8 x9 x11 x12 x14 x16 x20 y0 ((1 : Int32)) hX9 hW hS (lv_sub hl [1, 2, 3, 4, 5, 6, 7, 8, 9, 10, 11, 12, 13, 15, 0] rfl) h
  · have h := ite_f c311 h
    refine lv_aload_n hx hb dL_law_541 rfl (lv_at hl 3 rfl) ?_
    refine lv_iconst (v := (3 : Int32)) hx hb dL_law_542 (by decide) ?_
    obtain ⟨b366, h⟩ := h
    refine r_iald hx hb hE hW 100 0 ⟨rfl, by decide, by decide⟩ (n := 14) (f := a3 0) rfl b366 (v := a3 0 ((3 : Int32)).toNatClampNeg) rfl dL_law_543 ?_
    refine lv_bipush (v := (20 : Int32)) hx hb dL_law_544 (by decide) ?_
    refine r_icmp_ge hx hb rfl (show (20 : Int32).toInt = 20 by decide) (tgt := 560) dL_law_546 (by decide) (fun c367 => ?_) (fun c367 => ?_)
    · have h := ite_f c367 h
      refine lv_iconst (v := (0 : Int32)) hx hb dL_law_560 (by decide) ?_
      refine lv_goto (tgt := 659) hx hb dL_law_561 (by decide) ?_
      exact tL_law_659 (σ := σ) (ρ := ρ) X κ115 post hpost bc115 bs115 hk115 _ _ (by omega) (by omega) (by omega) (by omega) a1 a2 a3 b1 x6 x8 x9 x11 x12 x14 x16 x20 y0 ((0 : Int32)) hX9 hW hS (lv_sub hl [1, 2, 3, 4, 5, 6, 7, 8, 9, 10, 11, 12, 13, 15, 0] rfl) h
    · have h := ite_t c367 h
      refine lv_aload_n hx hb dL_law_549 rfl (lv_at hl 3 rfl) ?_
      refine lv_bipush (v := (8 : Int32)) hx hb dL_law_550 (by decide) ?_
      obtain ⟨b368, h⟩ := h
      refine r_iald hx hb hE hW 100 0 ⟨rfl, by decide, by decide⟩ (n := 14) (f := a3 0) rfl b368 (v := a3 0 ((8 : Int32)).toNatClampNeg) rfl dL_law_552 ?_
      refine r_if_ne hx hb rfl (tgt := 560) dL_law_553 (by decide) (fun c369 => ?_) (fun c369 => ?_)
      · have h := ite_f c369 h
        refine lv_iconst (v := (0 : Int32)) hx hb dL_law_560 (by decide) ?_
        refine lv_goto (tgt := 659) hx hb dL_law_561 (by decide) ?_
        exact tL_law_659 (σ := σ) (ρ := ρ) X κ115 post hpost bc115 bs115 hk115 _ _ (by omega) (by omega) (by omega) (by omega) a1 a2 a3 b1 x6 x8 x9 x11 x12 x14 x16 x20 y0 ((0 : Int32)) hX9 hW hS (lv_sub hl [1, 2, 3, 4, 5, 6, 7, 8, 9, 10, 11, 12, 13, 15, 0] rfl) h
      · have h := ite_t c369 h
        refine lv_iconst (v := (1 : Int32)) hx hb dL_law_556 (by decide) ?_
        refine lv_goto (tgt := 659) hx hb dL_law_557 (by decide) ?_
        exact tL_law_659 (σ := σ) (ρ := ρ) X κ115 post hpost bc115 bs115 hk115 _ _ (by omega) (by omega) (by omega) (by omega) a1 a2 a3 b1 x6 x8 x9 x11 x12 x14 x16 x20 y0 ((1 : Int32)) hX9 hW hS (lv_sub hl [1, 2, 3, 4, 5, 6, 7, 8, 9, 10, 11, 12, 13, 15, 0] rfl) h

set_option maxHeartbeats 4000000 in
set_option maxRecDepth 100000 in
theorem tL_law_510 {p : Program} {l : Launch} {e : Env} {s : State} {m : MethodId} {below : List Frame} {meth : Method} {c : Code} {b L : Nat} {xs : Nat → Int32} {z : Nat} {G : Gl} {ad : Nat → Nat → Nat} {σ : SG} {ν : NU} {ρ : RH} {lo : Int64} (X : LCX p l e s m below meth c b L xs z G) (κ115 : SG → NU → RH → Int64 → Int32 → Int32 → Int32 → Int32 → Prop) (post : Int32 → Prop) (hpost : ∀ r, post r → r = 1) (bc115 bs115 : Nat) (hk115 : ∀ (kc ks : Nat), kc + bc115 ≤ 600104 → ks + bs115 ≤ 7301314 → ∀ (a1 : SG) (a2 : NU) (a3 : RH) (b1 : Nat → Nat → Nat) (x6 : Int64) (x8 : Int32) (x9 : Int32) (x10 : Int32) (x11 : Int32) {H : Heap} {locs : List Loc} {ls : Array Slot}, Xt ad b1 ν a2 → WP z G b1 (a1, a2, a3, lo) H → va_S (Az z) s.heap H locs → lv_has ls 23 [(0, .ref b), (1, .ref (b1 0 0)), (2, .ref (b1 100 0)), (3, .ref (b1 101 0)), (4, .ref (b1 102 0)), (5, .ref (b1 103 0)), (6, .long x6), (8, .int x8), (9, .int x9), (10, .int x10), (11, .int x11)] → κ115 a1 a2 a3 x6 x8 x9 x10 x11 → W p l e room_1 s m #[Value.ref b] below meth c H locs kc ks (lw_Z below #[Value.ref b] s) (F0 m 115 ls [])) : ∀ (kc ks : Nat), kc + 1978 + bc115 ≤ 600104 → ks + 34665 + bs115 ≤ 7301314 → kc + 1500 ≤ 600104 → ks + 28184 ≤ 7301314 → ∀ (a1 : SG) (a2 : NU) (a3 : RH) (b1 : Nat → Nat → Nat) (x6 : Int64) (x8 : Int32) (x9 : Int32) (x11 : Int32) (x12 : Int32) (x14 : Int32) (x16 : Int32) (x17 : Int32) (y0 : Int32) {H : Heap} {locs : List Loc} {ls : Array Slot}, Xt ad b1 ν a2 → WP z G b1 (a1, a2, a3, lo) H → va_S (Az z) s.heap H locs → lv_has ls 23 [(0, .ref b), (1, .ref (b1 0 0)), (2, .ref (b1 100 0)), (3, .ref (b1 101 0)), (4, .ref (b1 102 0)), (5, .ref (b1 103 0)), (6, .long x6), (8, .int x8), (9, .int x9), (11, .int x11), (12, .int x12), (14, .int x14), (16, .int x16), (17, .int x17)] → jL_law_510 L xs κ115 post a1 a2 a3 x6 x8 x9 x11 x12 x14 x16 x17 y0 → W p l e room_1 s m #[Value.ref b] below meth c H locs kc ks (lw_Z below #[Value.ref b] s) (F0 m 510 ls [.int y0]) := by
  obtain ⟨hx, hb, hml, hown, hts, hE, hz, hlt, hX, hbl, hbA, hL, hr, hlocks, hze⟩ := id X
  intro kc ks hB1 hB2 hX1 hX2 a1 a2 a3 b1 x6 x8 x9 x11 x12 x14 x16 x17 y0 H locs ls hX9 hW hS hl h
  unfold jL_law_510 at h
  refine lv_istore (lv' := [(20, .int y0), (0, .ref b), (1, .ref (b1 0 0)), (2, .ref (b1 100 0)), (3, .ref (b1 101 0)), (4, .ref (b1 102 0)), (5, .ref (b1 103 0)), (6, .long x6), (8, .int x8), (9, .int x9), (11, .int x11), (12, .int x12), (14, .int x14), (16, .int x16), (17, .int x17)]) hx hb dL_law_510 hl (by decide) rfl (fun ls hl => ?_)
  refine lv_aload_n hx hb dL_law_512 rfl (lv_at hl 3 rfl) ?_
  refine lv_iconst (v := (4 : Int32)) hx hb dL_law_513 (by decide) ?_
  obtain ⟨b308, h⟩ := h
  refine r_iald hx hb hE hW 100 0 ⟨rfl, by decide, by decide⟩ (n := 14) (f := a3 0) rfl b308 (v := a3 0 ((4 : Int32)).toNatClampNeg) rfl dL_law_514 ?_
  refine lv_aload_n hx hb dL_law_515 rfl (lv_at hl 3 rfl) ?_
  refine lv_iconst (v := (0 : Int32)) hx hb dL_law_516 (by decide) ?_
  obtain ⟨b309, h⟩ := h
  refine r_iald hx hb hE hW 100 0 ⟨rfl, by decide, by decide⟩ (n := 14) (f := a3 0) rfl b309 (v := a3 0 ((0 : Int32)).toNatClampNeg) rfl dL_law_517 ?_
  refine r_icmp_ne hx hb rfl rfl (tgt := 533) dL_law_518 (by decide) (fun c310 => ?_) (fun c310 => ?_)
  · have h := ite_f c310 h
    refine lv_iconst (v := (0 : Int32)) hx hb dL_law_533 (by decide) ?_
    exact tL_law_534 (σ := σ) (ρ := ρ) X κ115 post hpost bc115 bs115 hk115 _ _ (by omega) (by omega) (by omega) (by omega) a1 a2 a3 b1 x6 x8 x9 x11 x12 x14 x16 x17 y0 ((0 : Int32)) hX9 hW hS (lv_sub hl [1, 2, 3, 4, 5, 6, 7, 8, 9, 10, 11, 12, 13, 14, 0] rfl) h
  · have h := ite_t c310 h
    refine lv_aload_n hx hb dL_law_521 rfl (lv_at hl 3 rfl) ?_
    refine lv_iconst (v := (2 : Int32)) hx hb dL_law_522 (by decide) ?_
    obtain ⟨b370, h⟩ := h
    refine r_iald hx hb hE hW 100 0 ⟨rfl, by decide, by decide⟩ (n := 14) (f := a3 0) rfl b370 (v := a3 0 ((2 : Int32)).toNatClampNeg) rfl dL_law_523 ?_
    refine lv_bipush (v := (40 : Int32)) hx hb dL_law_524 (by decide) ?_
    refine r_icmp_ge hx hb rfl (show (40 : Int32).toInt = 40 by decide) (tgt := 533) dL_law_526 (by decide) (fun c371 => ?_) (fun c371 => ?_)
    · have h := ite_f c371 h
      refine lv_iconst (v := (0 : Int32)) hx hb dL_law_533 (by decide) ?_
      exact tL_law_534 (σ := σ) (ρ := ρ) X κ115 post hpost bc115 bs115 hk115 _ _ (by omega) (by omega) (by omega) (by omega) a1 a2 a3 b1 x6 x8 x9 x11 x12 x14 x16 x17 y0 ((0 : Int32)) hX9 hW hS (lv_sub hl [1, 2, 3, 4, 5, 6, 7, 8, 9, 10, 11, 12, 13, 14, 0] rfl) h
    · have h := ite_t c371 h
      refine lv_iconst (v := (1 : Int32)) hx hb dL_law_529 (by decide) ?_
      refine lv_goto (tgt := 534) hx hb dL_law_530 (by decide) ?_
      exact tL_law_534 (σ := σ) (ρ := ρ) X κ115 post hpost bc115 bs115 hk115 _ _ (by omega) (by omega) (by omega) (by omega) a1 a2 a3 b1 x6 x8 x9 x11 x12 x14 x16 x17 y0 ((1 : Int32)) hX9 hW hS (lv_sub hl [1, 2, 3, 4, 5, 6, 7, 8, 9, 10, 11, 12, 13, 14, 0] rfl) h

set_option maxHeartbeats 4000000 in
set_option maxRecDepth 100000 in
theorem tL_law_490 {p : Program} {l : Launch} {e : Env} {s : State} {m : MethodId} {below : List Frame} {meth : Method} {c : Code} {b L : Nat} {xs : Nat → Int32} {z : Nat} {G : Gl} {ad : Nat → Nat → Nat} {σ : SG} {ν : NU} {ρ : RH} {lo : Int64} (X : LCX p l e s m below meth c b L xs z G) (κ115 : SG → NU → RH → Int64 → Int32 → Int32 → Int32 → Int32 → Prop) (post : Int32 → Prop) (hpost : ∀ r, post r → r = 1) (bc115 bs115 : Nat) (hk115 : ∀ (kc ks : Nat), kc + bc115 ≤ 600104 → ks + bs115 ≤ 7301314 → ∀ (a1 : SG) (a2 : NU) (a3 : RH) (b1 : Nat → Nat → Nat) (x6 : Int64) (x8 : Int32) (x9 : Int32) (x10 : Int32) (x11 : Int32) {H : Heap} {locs : List Loc} {ls : Array Slot}, Xt ad b1 ν a2 → WP z G b1 (a1, a2, a3, lo) H → va_S (Az z) s.heap H locs → lv_has ls 23 [(0, .ref b), (1, .ref (b1 0 0)), (2, .ref (b1 100 0)), (3, .ref (b1 101 0)), (4, .ref (b1 102 0)), (5, .ref (b1 103 0)), (6, .long x6), (8, .int x8), (9, .int x9), (10, .int x10), (11, .int x11)] → κ115 a1 a2 a3 x6 x8 x9 x10 x11 → W p l e room_1 s m #[Value.ref b] below meth c H locs kc ks (lw_Z below #[Value.ref b] s) (F0 m 115 ls [])) : ∀ (kc ks : Nat), kc + 1999 + bc115 ≤ 600104 → ks + 34940 + bs115 ≤ 7301314 → kc + 1521 ≤ 600104 → ks + 28459 ≤ 7301314 → ∀ (a1 : SG) (a2 : NU) (a3 : RH) (b1 : Nat → Nat → Nat) (x6 : Int64) (x8 : Int32) (x9 : Int32) (x11 : Int32) (x12 : Int32) (x14 : Int32) (x16 : Int32) (x17 : Int32) (y0 : Nat) (y2 : Int32) (y3 : Int32) (y4 : Int32) {H : Heap} {locs : List Loc} {ls : Array Slot}, Xt ad b1 ν a2 → WP z G b1 (a1, a2, a3, lo) H → va_S (Az z) s.heap H locs → lv_has ls 23 [(0, .ref b), (1, .ref (b1 0 0)), (2, .ref (b1 100 0)), (3, .ref (b1 101 0)), (4, .ref (b1 102 0)), (5, .ref (b1 103 0)), (6, .long x6), (8, .int x8), (9, .int x9), (11, .int x11), (12, .int x12), (14, .int x14), (16, .int x16), (17, .int x17)] → jL_law_490 L xs κ115 post a1 a2 a3 x6 x8 x9 x11 x12 x14 x16 x17 y0 y2 y3 y4 → W p l e room_1 s m #[Value.ref b] below meth c H locs kc ks (lw_Z below #[Value.ref b] s) (F0 m 490 ls [.int y4, .int y3, .int y2, .int ((4 : Int32)), .ref (b1 0 0)]) := by
  obtain ⟨hx, hb, hml, hown, hts, hE, hz, hlt, hX, hbl, hbA, hL, hr, hlocks, hze⟩ := id X
  intro kc ks hB1 hB2 hX1 hX2 a1 a2 a3 b1 x6 x8 x9 x11 x12 x14 x16 x17 y0 y2 y3 y4 H locs ls hX9 hW hS hl h
  unfold jL_law_490 at h
  refine lv_iload hx hb dL_law_490 (lv_at hl 13 rfl) ?_
  refine lv_iconst (v := (4 : Int32)) hx hb dL_law_492 (by decide) ?_
  refine r_icmp_ne hx hb rfl (show (4 : Int32).toInt = 4 by decide) (tgt := 506) dL_law_493 (by decide) (fun c297 => ?_) (fun c297 => ?_)
  · have h := ite_f c297 h
    refine lv_iconst (v := (0 : Int32)) hx hb dL_law_506 (by decide) ?_
    refine kWA_Si (rest := []) (As := [.ref (b1 0 0), .int ((4 : Int32)), .int y2, .int y3, .int y4, .int ((0 : Int32))]) ⟨hx, hb, hml, hown, hts⟩ hE hz hS hW (mtL_does_4 l hlt z G b1 a1 a2 a3 lo y2 y3 y4 ((0 : Int32)) _ h) (vx_cwSW 6 hts gL_law_L_does rfl rfl rfl (by decide +kernel) ⟨Nat.le_of_ble_eq_true rfl, Nat.le_of_ble_eq_true rfl⟩) rfl hl.1 rfl (Nat.le_of_ble_eq_true rfl) dL_law_507 ⟨by show _ ≤ 600104; omega, by show _ ≤ 7301314; omega⟩ (fun r298 S1 ad301 H locs hp hW hS => ?_)
    obtain ⟨t299, vv300, rfl, q302, h⟩ := hp
    have z303 : ad301 0 0 = b1 0 0 := (q302 0 0 (by decide) rfl).2
    have z304 : ad301 100 0 = b1 100 0 := (q302 100 0 (by decide) ⟨rfl, by decide, by decide⟩).2
    have z305 : ad301 101 0 = b1 101 0 := (q302 101 0 (by decide) ⟨rfl, by decide, by decide⟩).2
    have z306 : ad301 102 0 = b1 102 0 := (q302 102 0 (by decide) ⟨rfl, by decide, by decide⟩).2
    have z307 : ad301 103 0 = b1 103 0 := (q302 103 0 (by decide) ⟨rfl, by decide, by decide⟩).2
    have hl : lv_has ls 23 [(0, .ref b), (1, .ref (ad301 0 0)), (2, .ref (ad301 100 0)), (3, .ref (ad301 101 0)), (4, .ref (ad301 102 0)), (5, .ref (ad301 103 0)), (6, .long x6), (8, .int x8), (9, .int x9), (11, .int x11), (12, .int x12), (14, .int x14), (16, .int x16), (17, .int x17)] := by rw [z303, z304, z305, z306, z307]; exact hl
    exact tL_law_510 (σ := σ) (ρ := ρ) X κ115 post hpost bc115 bs115 hk115 _ _ (by omega) (by omega) (by omega) (by omega) t299 vv300 a3 ad301 x6 x8 x9 x11 x12 x14 x16 x17 r298 (Xt.tr hX9 q302) hW hS (lv_sub hl [0, 1, 2, 3, 4, 5, 6, 7, 8, 9, 10, 11, 12, 13] rfl) h
  · have h := ite_t c297 h
    refine lv_iload hx hb dL_law_496 (lv_at hl 11 rfl) ?_
    refine lv_bipush (v := (6 : Int32)) hx hb dL_law_498 (by decide) ?_
    refine lv_idiv hx hb dL_law_500 (by decide) ?_
    refine lv_iconst (v := (3 : Int32)) hx hb dL_law_501 (by decide) ?_
    refine lv_irem hx hb dL_law_502 (by decide) ?_
    refine lv_goto (tgt := 507) hx hb dL_law_503 (by decide) ?_
    refine kWA_Si (rest := []) (As := [.ref (b1 0 0), .int ((4 : Int32)), .int y2, .int y3, .int y4, .int ((x14 / ((6 : Int32))) - (x14 / ((6 : Int32))) / ((3 : Int32)) * ((3 : Int32)))]) ⟨hx, hb, hml, hown, hts⟩ hE hz hS hW (mtL_does_4 l hlt z G b1 a1 a2 a3 lo y2 y3 y4 ((x14 / ((6 : Int32))) - (x14 / ((6 : Int32))) / ((3 : Int32)) * ((3 : Int32))) _ h) (vx_cwSW 6 hts gL_law_L_does rfl rfl rfl (by decide +kernel) ⟨Nat.le_of_ble_eq_true rfl, Nat.le_of_ble_eq_true rfl⟩) rfl hl.1 rfl (Nat.le_of_ble_eq_true rfl) dL_law_507 ⟨by show _ ≤ 600104; omega, by show _ ≤ 7301314; omega⟩ (fun r372 S1 ad375 H locs hp hW hS => ?_)
    obtain ⟨t373, vv374, rfl, q376, h⟩ := hp
    have z377 : ad375 0 0 = b1 0 0 := (q376 0 0 (by decide) rfl).2
    have z378 : ad375 100 0 = b1 100 0 := (q376 100 0 (by decide) ⟨rfl, by decide, by decide⟩).2
    have z379 : ad375 101 0 = b1 101 0 := (q376 101 0 (by decide) ⟨rfl, by decide, by decide⟩).2
    have z380 : ad375 102 0 = b1 102 0 := (q376 102 0 (by decide) ⟨rfl, by decide, by decide⟩).2
    have z381 : ad375 103 0 = b1 103 0 := (q376 103 0 (by decide) ⟨rfl, by decide, by decide⟩).2
    have hl : lv_has ls 23 [(0, .ref b), (1, .ref (ad375 0 0)), (2, .ref (ad375 100 0)), (3, .ref (ad375 101 0)), (4, .ref (ad375 102 0)), (5, .ref (ad375 103 0)), (6, .long x6), (8, .int x8), (9, .int x9), (11, .int x11), (12, .int x12), (14, .int x14), (16, .int x16), (17, .int x17)] := by rw [z377, z378, z379, z380, z381]; exact hl
    exact tL_law_510 (σ := σ) (ρ := ρ) X κ115 post hpost bc115 bs115 hk115 _ _ (by omega) (by omega) (by omega) (by omega) t373 vv374 a3 ad375 x6 x8 x9 x11 x12 x14 x16 x17 r372 (Xt.tr hX9 q376) hW hS (lv_sub hl [0, 1, 2, 3, 4, 5, 6, 7, 8, 9, 10, 11, 12, 13] rfl) h

set_option maxHeartbeats 4000000 in
set_option maxRecDepth 100000 in
theorem tL_law_399 {p : Program} {l : Launch} {e : Env} {s : State} {m : MethodId} {below : List Frame} {meth : Method} {c : Code} {b L : Nat} {xs : Nat → Int32} {z : Nat} {G : Gl} {ad : Nat → Nat → Nat} {σ : SG} {ν : NU} {ρ : RH} {lo : Int64} (X : LCX p l e s m below meth c b L xs z G) (κ115 : SG → NU → RH → Int64 → Int32 → Int32 → Int32 → Int32 → Prop) (post : Int32 → Prop) (hpost : ∀ r, post r → r = 1) (bc115 bs115 : Nat) (hk115 : ∀ (kc ks : Nat), kc + bc115 ≤ 600104 → ks + bs115 ≤ 7301314 → ∀ (a1 : SG) (a2 : NU) (a3 : RH) (b1 : Nat → Nat → Nat) (x6 : Int64) (x8 : Int32) (x9 : Int32) (x10 : Int32) (x11 : Int32) {H : Heap} {locs : List Loc} {ls : Array Slot}, Xt ad b1 ν a2 → WP z G b1 (a1, a2, a3, lo) H → va_S (Az z) s.heap H locs → lv_has ls 23 [(0, .ref b), (1, .ref (b1 0 0)), (2, .ref (b1 100 0)), (3, .ref (b1 101 0)), (4, .ref (b1 102 0)), (5, .ref (b1 103 0)), (6, .long x6), (8, .int x8), (9, .int x9), (10, .int x10), (11, .int x11)] → κ115 a1 a2 a3 x6 x8 x9 x10 x11 → W p l e room_1 s m #[Value.ref b] below meth c H locs kc ks (lw_Z below #[Value.ref b] s) (F0 m 115 ls [])) : ∀ (kc ks : Nat), kc + 1999 + bc115 ≤ 600104 → ks + 34940 + bs115 ≤ 7301314 → kc + 1521 ≤ 600104 → ks + 28459 ≤ 7301314 → ∀ (a1 : SG) (a2 : NU) (a3 : RH) (b1 : Nat → Nat → Nat) (x6 : Int64) (x8 : Int32) (x9 : Int32) (x11 : Int32) (x12 : Int32) (x14 : Int32) (x16 : Int32) (x17 : Int32) (x18 : Int32) (y0 : Int32) {H : Heap} {locs : List Loc} {ls : Array Slot}, Xt ad b1 ν a2 → WP z G b1 (a1, a2, a3, lo) H → va_S (Az z) s.heap H locs → lv_has ls 23 [(0, .ref b), (1, .ref (b1 0 0)), (2, .ref (b1 100 0)), (3, .ref (b1 101 0)), (4, .ref (b1 102 0)), (5, .ref (b1 103 0)), (6, .long x6), (8, .int x8), (9, .int x9), (11, .int x11), (12, .int x12), (14, .int x14), (16, .int x16), (17, .int x17), (18, .int x18)] → jL_law_399 L xs κ115 post a1 a2 a3 x6 x8 x9 x11 x12 x14 x16 x17 x18 y0 → W p l e room_1 s m #[Value.ref b] below meth c H locs kc ks (lw_Z below #[Value.ref b] s) (F0 m 399 ls [.int y0]) := by
  obtain ⟨hx, hb, hml, hown, hts, hE, hz, hlt, hX, hbl, hbA, hL, hr, hlocks, hze⟩ := id X
  intro kc ks hB1 hB2 hX1 hX2 a1 a2 a3 b1 x6 x8 x9 x11 x12 x14 x16 x17 x18 y0 H locs ls hX9 hW hS hl h
  unfold jL_law_399 at h
  refine lv_istore (lv' := [(19, .int y0), (0, .ref b), (1, .ref (b1 0 0)), (2, .ref (b1 100 0)), (3, .ref (b1 101 0)), (4, .ref (b1 102 0)), (5, .ref (b1 103 0)), (6, .long x6), (8, .int x8), (9, .int x9), (11, .int x11), (12, .int x12), (14, .int x14), (16, .int x16), (17, .int x17), (18, .int x18)]) hx hb dL_law_399 hl (by decide) rfl (fun ls hl => ?_)
  refine lv_iload hx hb dL_law_401 (lv_at hl 13 rfl) ?_
  refine r_if_eq hx hb rfl (tgt := 454) dL_law_403 (by decide) (fun c293 => ?_) (fun c293 => ?_)
  · have h := ite_t c293 h
    refine lv_aload_n hx hb dL_law_454 rfl (lv_at hl 3 rfl) ?_
    refine lv_iconst (v := (3 : Int32)) hx hb dL_law_455 (by decide) ?_
    obtain ⟨b294, h⟩ := h
    refine r_iald hx hb hE hW 100 0 ⟨rfl, by decide, by decide⟩ (n := 14) (f := a3 0) rfl b294 (v := a3 0 ((3 : Int32)).toNatClampNeg) rfl dL_law_456 ?_
    refine r_if_ne hx hb rfl (tgt := 466) dL_law_457 (by decide) (fun c295 => ?_) (fun c295 => ?_)
    · have h := ite_f c295 h
      refine lv_aload_n hx hb dL_law_466 rfl (lv_at hl 2 rfl) ?_
      refine lv_iconst (v := (4 : Int32)) hx hb dL_law_467 (by decide) ?_
      refine lv_iload hx hb dL_law_468 (lv_at hl 14 rfl) ?_
      refine lv_iload hx hb dL_law_470 (lv_at hl 15 rfl) ?_
      refine lv_iload hx hb dL_law_472 (lv_at hl 14 rfl) ?_
      refine lv_iconst (v := (4 : Int32)) hx hb dL_law_474 (by decide) ?_
      refine r_icmp_ne hx hb rfl (show (4 : Int32).toInt = 4 by decide) (tgt := 488) dL_law_475 (by decide) (fun c296 => ?_) (fun c296 => ?_)
      · have h := ite_f c296 h
        refine lv_iload hx hb dL_law_488 (lv_at hl 0 rfl) ?_
        exact tL_law_490 (σ := σ) (ρ := ρ) X κ115 post hpost bc115 bs115 hk115 _ _ (by omega) (by omega) (by omega) (by omega) a1 a2 a3 b1 x6 x8 x9 x11 x12 x14 x16 x17 0 x17 x18 y0 hX9 hW hS (lv_sub hl [1, 2, 3, 4, 5, 6, 7, 8, 9, 10, 11, 12, 13, 14] rfl) h
      · have h := ite_t c296 h
        refine lv_iconst (v := (1 : Int32)) hx hb dL_law_478 (by decide) ?_
        refine lv_iload hx hb dL_law_479 (lv_at hl 12 rfl) ?_
        refine lv_bipush (v := (6 : Int32)) hx hb dL_law_481 (by decide) ?_
        refine lv_irem hx hb dL_law_483 (by decide) ?_
        refine lv_iadd hx hb dL_law_484 ?_
        refine lv_goto (tgt := 490) hx hb dL_law_485 (by decide) ?_
        exact tL_law_490 (σ := σ) (ρ := ρ) X κ115 post hpost bc115 bs115 hk115 _ _ (by omega) (by omega) (by omega) (by omega) a1 a2 a3 b1 x6 x8 x9 x11 x12 x14 x16 x17 0 x17 x18 (((1 : Int32)) + (x14 - x14 / ((6 : Int32)) * ((6 : Int32)))) hX9 hW hS (lv_sub hl [1, 2, 3, 4, 5, 6, 7, 8, 9, 10, 11, 12, 13, 14] rfl) h
    · have h := ite_t c295 h
      refine lv_sipush (v := (-1383 : Int32)) hx hb dL_law_460 (by decide) ?_
      refine lv_goto (tgt := 510) hx hb dL_law_463 (by decide) ?_
      exact tL_law_510 (σ := σ) (ρ := ρ) X κ115 post hpost bc115 bs115 hk115 _ _ (by omega) (by omega) (by omega) (by omega) a1 a2 a3 b1 x6 x8 x9 x11 x12 x14 x16 x17 ((-1383 : Int32)) hX9 hW hS (lv_sub hl [1, 2, 3, 4, 5, 6, 7, 8, 9, 10, 11, 12, 13, 14] rfl) h
  · have h := ite_f c293 h
    refine lv_aload_n hx hb dL_law_406 rfl (lv_at hl 2 rfl) ?_
    refine lv_iconst (v := (3 : Int32)) hx hb dL_law_407 (by decide) ?_
    refine lv_iload hx hb dL_law_408 (lv_at hl 0 rfl) ?_
    refine lv_iconst (v := (1 : Int32)) hx hb dL_law_410 (by decide) ?_
    refine lv_iload hx hb dL_law_411 (lv_at hl 12 rfl) ?_
    refine lv_bipush (v := (6 : Int32)) hx hb dL_law_413 (by decide) ?_
    refine lv_irem hx hb dL_law_415 (by decide) ?_
    refine lv_iadd hx hb dL_law_416 ?_
    refine lv_iload hx hb dL_law_417 (lv_at hl 12 rfl) ?_
    refine lv_bipush (v := (6 : Int32)) hx hb dL_law_419 (by decide) ?_
    refine lv_idiv hx hb dL_law_421 (by decide) ?_
    refine lv_iconst (v := (4 : Int32)) hx hb dL_law_422 (by decide) ?_
    refine lv_irem hx hb dL_law_423 (by decide) ?_
    refine r_if_ne hx hb rfl (tgt := 440) dL_law_424 (by decide) (fun c382 => ?_) (fun c382 => ?_)
    · have h := ite_f c382 h
      refine lv_iload hx hb dL_law_440 (lv_at hl 12 rfl) ?_
      refine lv_bipush (v := (24 : Int32)) hx hb dL_law_442 (by decide) ?_
      refine lv_idiv hx hb dL_law_444 (by decide) ?_
      refine lv_iconst (v := (3 : Int32)) hx hb dL_law_445 (by decide) ?_
      refine lv_irem hx hb dL_law_446 (by decide) ?_
      refine lv_iconst (v := (0 : Int32)) hx hb dL_law_447 (by decide) ?_
      refine kWA_Si (rest := []) (As := [.ref (b1 0 0), .int ((3 : Int32)), .int y0, .int (((1 : Int32)) + (x14 - x14 / ((6 : Int32)) * ((6 : Int32)))), .int ((x14 / ((24 : Int32))) - (x14 / ((24 : Int32))) / ((3 : Int32)) * ((3 : Int32))), .int ((0 : Int32))]) ⟨hx, hb, hml, hown, hts⟩ hE hz hS hW (mtL_does_3 l hlt z G b1 a1 a2 a3 lo y0 (((1 : Int32)) + (x14 - x14 / ((6 : Int32)) * ((6 : Int32)))) ((x14 / ((24 : Int32))) - (x14 / ((24 : Int32))) / ((3 : Int32)) * ((3 : Int32))) ((0 : Int32)) _ h) (vx_cwSW 6 hts gL_law_L_does rfl rfl rfl (by decide +kernel) ⟨Nat.le_of_ble_eq_true rfl, Nat.le_of_ble_eq_true rfl⟩) rfl hl.1 rfl (Nat.le_of_ble_eq_true rfl) dL_law_448 ⟨by show _ ≤ 600104; omega, by show _ ≤ 7301314; omega⟩ (fun r383 S1 ad386 H locs hp hW hS => ?_)
      obtain ⟨t384, vv385, rfl, q387, h⟩ := hp
      have z388 : ad386 0 0 = b1 0 0 := (q387 0 0 (by decide) rfl).2
      have z389 : ad386 100 0 = b1 100 0 := (q387 100 0 (by decide) ⟨rfl, by decide, by decide⟩).2
      have z390 : ad386 101 0 = b1 101 0 := (q387 101 0 (by decide) ⟨rfl, by decide, by decide⟩).2
      have z391 : ad386 102 0 = b1 102 0 := (q387 102 0 (by decide) ⟨rfl, by decide, by decide⟩).2
      have z392 : ad386 103 0 = b1 103 0 := (q387 103 0 (by decide) ⟨rfl, by decide, by decide⟩).2
      have hl : lv_has ls 23 [(19, .int y0), (0, .ref b), (1, .ref (ad386 0 0)), (2, .ref (ad386 100 0)), (3, .ref (ad386 101 0)), (4, .ref (ad386 102 0)), (5, .ref (ad386 103 0)), (6, .long x6), (8, .int x8), (9, .int x9), (11, .int x11), (12, .int x12), (14, .int x14), (16, .int x16), (17, .int x17), (18, .int x18)] := by rw [z388, z389, z390, z391, z392]; exact hl
      refine lv_goto (tgt := 510) hx hb dL_law_451 (by decide) ?_
      exact tL_law_510 (σ := σ) (ρ := ρ) X κ115 post hpost bc115 bs115 hk115 _ _ (by omega) (by omega) (by omega) (by omega) t384 vv385 a3 ad386 x6 x8 x9 x11 x12 x14 x16 x17 r383 (Xt.tr hX9 q387) hW hS (lv_sub hl [1, 2, 3, 4, 5, 6, 7, 8, 9, 10, 11, 12, 13, 14] rfl) h
    · have h := ite_t c382 h
      refine lv_bipush (v := (28 : Int32)) hx hb dL_law_427 (by decide) ?_
      refine lv_iload hx hb dL_law_429 (lv_at hl 12 rfl) ?_
      refine lv_bipush (v := (24 : Int32)) hx hb dL_law_431 (by decide) ?_
      refine lv_idiv hx hb dL_law_433 (by decide) ?_
      refine lv_iconst (v := (5 : Int32)) hx hb dL_law_434 (by decide) ?_
      refine lv_irem hx hb dL_law_435 (by decide) ?_
      refine lv_iadd hx hb dL_law_436 ?_
      refine lv_goto (tgt := 447) hx hb dL_law_437 (by decide) ?_
      refine lv_iconst (v := (0 : Int32)) hx hb dL_law_447 (by decide) ?_
      refine kWA_Si (rest := []) (As := [.ref (b1 0 0), .int ((3 : Int32)), .int y0, .int (((1 : Int32)) + (x14 - x14 / ((6 : Int32)) * ((6 : Int32)))), .int (((28 : Int32)) + ((x14 / ((24 : Int32))) - (x14 / ((24 : Int32))) / ((5 : Int32)) * ((5 : Int32)))), .int ((0 : Int32))]) ⟨hx, hb, hml, hown, hts⟩ hE hz hS hW (mtL_does_3 l hlt z G b1 a1 a2 a3 lo y0 (((1 : Int32)) + (x14 - x14 / ((6 : Int32)) * ((6 : Int32)))) (((28 : Int32)) + ((x14 / ((24 : Int32))) - (x14 / ((24 : Int32))) / ((5 : Int32)) * ((5 : Int32)))) ((0 : Int32)) _ h) (vx_cwSW 6 hts gL_law_L_does rfl rfl rfl (by decide +kernel) ⟨Nat.le_of_ble_eq_true rfl, Nat.le_of_ble_eq_true rfl⟩) rfl hl.1 rfl (Nat.le_of_ble_eq_true rfl) dL_law_448 ⟨by show _ ≤ 600104; omega, by show _ ≤ 7301314; omega⟩ (fun r393 S1 ad396 H locs hp hW hS => ?_)
      obtain ⟨t394, vv395, rfl, q397, h⟩ := hp
      have z398 : ad396 0 0 = b1 0 0 := (q397 0 0 (by decide) rfl).2
      have z399 : ad396 100 0 = b1 100 0 := (q397 100 0 (by decide) ⟨rfl, by decide, by decide⟩).2
      have z400 : ad396 101 0 = b1 101 0 := (q397 101 0 (by decide) ⟨rfl, by decide, by decide⟩).2
      have z401 : ad396 102 0 = b1 102 0 := (q397 102 0 (by decide) ⟨rfl, by decide, by decide⟩).2
      have z402 : ad396 103 0 = b1 103 0 := (q397 103 0 (by decide) ⟨rfl, by decide, by decide⟩).2
      have hl : lv_has ls 23 [(19, .int y0), (0, .ref b), (1, .ref (ad396 0 0)), (2, .ref (ad396 100 0)), (3, .ref (ad396 101 0)), (4, .ref (ad396 102 0)), (5, .ref (ad396 103 0)), (6, .long x6), (8, .int x8), (9, .int x9), (11, .int x11), (12, .int x12), (14, .int x14), (16, .int x16), (17, .int x17), (18, .int x18)] := by rw [z398, z399, z400, z401, z402]; exact hl
      refine lv_goto (tgt := 510) hx hb dL_law_451 (by decide) ?_
      exact tL_law_510 (σ := σ) (ρ := ρ) X κ115 post hpost bc115 bs115 hk115 _ _ (by omega) (by omega) (by omega) (by omega) t394 vv395 a3 ad396 x6 x8 x9 x11 x12 x14 x16 x17 r393 (Xt.tr hX9 q397) hW hS (lv_sub hl [1, 2, 3, 4, 5, 6, 7, 8, 9, 10, 11, 12, 13, 14] rfl) h

set_option maxHeartbeats 4000000 in
set_option maxRecDepth 100000 in
theorem tL_law_372 {p : Program} {l : Launch} {e : Env} {s : State} {m : MethodId} {below : List Frame} {meth : Method} {c : Code} {b L : Nat} {xs : Nat → Int32} {z : Nat} {G : Gl} {ad : Nat → Nat → Nat} {σ : SG} {ν : NU} {ρ : RH} {lo : Int64} (X : LCX p l e s m below meth c b L xs z G) (κ115 : SG → NU → RH → Int64 → Int32 → Int32 → Int32 → Int32 → Prop) (post : Int32 → Prop) (hpost : ∀ r, post r → r = 1) (bc115 bs115 : Nat) (hk115 : ∀ (kc ks : Nat), kc + bc115 ≤ 600104 → ks + bs115 ≤ 7301314 → ∀ (a1 : SG) (a2 : NU) (a3 : RH) (b1 : Nat → Nat → Nat) (x6 : Int64) (x8 : Int32) (x9 : Int32) (x10 : Int32) (x11 : Int32) {H : Heap} {locs : List Loc} {ls : Array Slot}, Xt ad b1 ν a2 → WP z G b1 (a1, a2, a3, lo) H → va_S (Az z) s.heap H locs → lv_has ls 23 [(0, .ref b), (1, .ref (b1 0 0)), (2, .ref (b1 100 0)), (3, .ref (b1 101 0)), (4, .ref (b1 102 0)), (5, .ref (b1 103 0)), (6, .long x6), (8, .int x8), (9, .int x9), (10, .int x10), (11, .int x11)] → κ115 a1 a2 a3 x6 x8 x9 x10 x11 → W p l e room_1 s m #[Value.ref b] below meth c H locs kc ks (lw_Z below #[Value.ref b] s) (F0 m 115 ls [])) : ∀ (kc ks : Nat), kc + 1999 + bc115 ≤ 600104 → ks + 34940 + bs115 ≤ 7301314 → kc + 1521 ≤ 600104 → ks + 28459 ≤ 7301314 → ∀ (a1 : SG) (a2 : NU) (a3 : RH) (b1 : Nat → Nat → Nat) (x6 : Int64) (x8 : Int32) (x9 : Int32) (x11 : Int32) (x12 : Int32) (x14 : Int32) (x16 : Int32) (x17 : Int32) (y0 : Int32) {H : Heap} {locs : List Loc} {ls : Array Slot}, Xt ad b1 ν a2 → WP z G b1 (a1, a2, a3, lo) H → va_S (Az z) s.heap H locs → lv_has ls 23 [(0, .ref b), (1, .ref (b1 0 0)), (2, .ref (b1 100 0)), (3, .ref (b1 101 0)), (4, .ref (b1 102 0)), (5, .ref (b1 103 0)), (6, .long x6), (8, .int x8), (9, .int x9), (11, .int x11), (12, .int x12), (14, .int x14), (16, .int x16), (17, .int x17)] → jL_law_372 L xs κ115 post a1 a2 a3 x6 x8 x9 x11 x12 x14 x16 x17 y0 → W p l e room_1 s m #[Value.ref b] below meth c H locs kc ks (lw_Z below #[Value.ref b] s) (F0 m 372 ls [.int y0]) := by
  obtain ⟨hx, hb, hml, hown, hts, hE, hz, hlt, hX, hbl, hbA, hL, hr, hlocks, hze⟩ := id X
  intro kc ks hB1 hB2 hX1 hX2 a1 a2 a3 b1 x6 x8 x9 x11 x12 x14 x16 x17 y0 H locs ls hX9 hW hS hl h
  unfold jL_law_372 at h
  refine lv_istore (lv' := [(18, .int y0), (0, .ref b), (1, .ref (b1 0 0)), (2, .ref (b1 100 0)), (3, .ref (b1 101 0)), (4, .ref (b1 102 0)), (5, .ref (b1 103 0)), (6, .long x6), (8, .int x8), (9, .int x9), (11, .int x11), (12, .int x12), (14, .int x14), (16, .int x16), (17, .int x17)]) hx hb dL_law_372 hl (by decide) rfl (fun ls hl => ?_)
  refine lv_aload_n hx hb dL_law_374 rfl (lv_at hl 3 rfl) ?_
  refine lv_iconst (v := (3 : Int32)) hx hb dL_law_375 (by decide) ?_
  obtain ⟨b291, h⟩ := h
  refine r_iald hx hb hE hW 100 0 ⟨rfl, by decide, by decide⟩ (n := 14) (f := a3 0) rfl b291 (v := a3 0 ((3 : Int32)).toNatClampNeg) rfl dL_law_376 ?_
  refine r_if_eq hx hb rfl (tgt := 387) dL_law_377 (by decide) (fun c292 => ?_) (fun c292 => ?_)
  · have h := ite_t c292 h
    refine lv_iconst (v := (-1 : Int32)) hx hb dL_law_387 (by decide) ?_
    refine lv_goto (tgt := 399) hx hb dL_law_388 (by decide) ?_
    exact tL_law_399 (σ := σ) (ρ := ρ) X κ115 post hpost bc115 bs115 hk115 _ _ (by omega) (by omega) (by omega) (by omega) a1 a2 a3 b1 x6 x8 x9 x11 x12 x14 x16 x17 y0 ((-1 : Int32)) hX9 hW hS (lv_sub hl [1, 2, 3, 4, 5, 6, 7, 8, 9, 10, 11, 12, 13, 14, 0] rfl) h
  · have h := ite_f c292 h
    refine lv_iload hx hb dL_law_380 (lv_at hl 12 rfl) ?_
    refine lv_iconst (v := (3 : Int32)) hx hb dL_law_382 (by decide) ?_
    refine lv_irem hx hb dL_law_383 (by decide) ?_
    refine r_if_le hx hb rfl (tgt := 391) dL_law_384 (by decide) (fun c403 => ?_) (fun c403 => ?_)
    · have h := ite_t c403 h
      refine lv_iload hx hb dL_law_391 (lv_at hl 12 rfl) ?_
      refine lv_iconst (v := (5 : Int32)) hx hb dL_law_393 (by decide) ?_
      refine lv_idiv hx hb dL_law_394 (by decide) ?_
      refine lv_aload_n hx hb dL_law_395 rfl (lv_at hl 3 rfl) ?_
      refine lv_iconst (v := (3 : Int32)) hx hb dL_law_396 (by decide) ?_
      obtain ⟨b404, h⟩ := h
      refine r_iald hx hb hE hW 100 0 ⟨rfl, by decide, by decide⟩ (n := 14) (f := a3 0) rfl b404 (v := a3 0 ((3 : Int32)).toNatClampNeg) rfl dL_law_397 ?_
      obtain ⟨g405, h⟩ := h
      refine lv_irem hx hb dL_law_398 g405 ?_
      exact tL_law_399 (σ := σ) (ρ := ρ) X κ115 post hpost bc115 bs115 hk115 _ _ (by omega) (by omega) (by omega) (by omega) a1 a2 a3 b1 x6 x8 x9 x11 x12 x14 x16 x17 y0 ((x14 / ((5 : Int32))) - (x14 / ((5 : Int32))) / (a3 0 ((3 : Int32)).toNatClampNeg) * (a3 0 ((3 : Int32)).toNatClampNeg)) hX9 hW hS (lv_sub hl [1, 2, 3, 4, 5, 6, 7, 8, 9, 10, 11, 12, 13, 14, 0] rfl) h
    · have h := ite_f c403 h
      refine lv_iconst (v := (-1 : Int32)) hx hb dL_law_387 (by decide) ?_
      refine lv_goto (tgt := 399) hx hb dL_law_388 (by decide) ?_
      exact tL_law_399 (σ := σ) (ρ := ρ) X κ115 post hpost bc115 bs115 hk115 _ _ (by omega) (by omega) (by omega) (by omega) a1 a2 a3 b1 x6 x8 x9 x11 x12 x14 x16 x17 y0 ((-1 : Int32)) hX9 hW hS (lv_sub hl [1, 2, 3, 4, 5, 6, 7, 8, 9, 10, 11, 12, 13, 14, 0] rfl) h

set_option maxHeartbeats 4000000 in
set_option maxRecDepth 100000 in
theorem tL_law_339 {p : Program} {l : Launch} {e : Env} {s : State} {m : MethodId} {below : List Frame} {meth : Method} {c : Code} {b L : Nat} {xs : Nat → Int32} {z : Nat} {G : Gl} {ad : Nat → Nat → Nat} {σ : SG} {ν : NU} {ρ : RH} {lo : Int64} (X : LCX p l e s m below meth c b L xs z G) (κ115 : SG → NU → RH → Int64 → Int32 → Int32 → Int32 → Int32 → Prop) (post : Int32 → Prop) (hpost : ∀ r, post r → r = 1) (bc115 bs115 : Nat) (hk115 : ∀ (kc ks : Nat), kc + bc115 ≤ 600104 → ks + bs115 ≤ 7301314 → ∀ (a1 : SG) (a2 : NU) (a3 : RH) (b1 : Nat → Nat → Nat) (x6 : Int64) (x8 : Int32) (x9 : Int32) (x10 : Int32) (x11 : Int32) {H : Heap} {locs : List Loc} {ls : Array Slot}, Xt ad b1 ν a2 → WP z G b1 (a1, a2, a3, lo) H → va_S (Az z) s.heap H locs → lv_has ls 23 [(0, .ref b), (1, .ref (b1 0 0)), (2, .ref (b1 100 0)), (3, .ref (b1 101 0)), (4, .ref (b1 102 0)), (5, .ref (b1 103 0)), (6, .long x6), (8, .int x8), (9, .int x9), (10, .int x10), (11, .int x11)] → κ115 a1 a2 a3 x6 x8 x9 x10 x11 → W p l e room_1 s m #[Value.ref b] below meth c H locs kc ks (lw_Z below #[Value.ref b] s) (F0 m 115 ls [])) : ∀ (kc ks : Nat), kc + 1999 + bc115 ≤ 600104 → ks + 34940 + bs115 ≤ 7301314 → kc + 1521 ≤ 600104 → ks + 28459 ≤ 7301314 → ∀ (a1 : SG) (a2 : NU) (a3 : RH) (b1 : Nat → Nat → Nat) (x6 : Int64) (x8 : Int32) (x9 : Int32) (x11 : Int32) (x12 : Int32) (x14 : Int32) (x15 : Int32) (x16 : Int32) (y0 : Int32) {H : Heap} {locs : List Loc} {ls : Array Slot}, Xt ad b1 ν a2 → WP z G b1 (a1, a2, a3, lo) H → va_S (Az z) s.heap H locs → lv_has ls 23 [(0, .ref b), (1, .ref (b1 0 0)), (2, .ref (b1 100 0)), (3, .ref (b1 101 0)), (4, .ref (b1 102 0)), (5, .ref (b1 103 0)), (6, .long x6), (8, .int x8), (9, .int x9), (11, .int x11), (12, .int x12), (14, .int x14), (15, .int x15), (16, .int x16)] → jL_law_339 L xs κ115 post a1 a2 a3 x6 x8 x9 x11 x12 x14 x15 x16 y0 → W p l e room_1 s m #[Value.ref b] below meth c H locs kc ks (lw_Z below #[Value.ref b] s) (F0 m 339 ls [.int y0]) := by
  obtain ⟨hx, hb, hml, hown, hts, hE, hz, hlt, hX, hbl, hbA, hL, hr, hlocks, hze⟩ := id X
  intro kc ks hB1 hB2 hX1 hX2 a1 a2 a3 b1 x6 x8 x9 x11 x12 x14 x15 x16 y0 H locs ls hX9 hW hS hl h
  unfold jL_law_339 at h
  refine lv_istore (lv' := [(17, .int y0), (0, .ref b), (1, .ref (b1 0 0)), (2, .ref (b1 100 0)), (3, .ref (b1 101 0)), (4, .ref (b1 102 0)), (5, .ref (b1 103 0)), (6, .long x6), (8, .int x8), (9, .int x9), (11, .int x11), (12, .int x12), (14, .int x14), (15, .int x15), (16, .int x16)]) hx hb dL_law_339 hl (by decide) rfl (fun ls hl => ?_)
  refine lv_iload hx hb dL_law_341 (lv_at hl 0 rfl) ?_
  refine lv_bipush (v := (7 : Int32)) hx hb dL_law_343 (by decide) ?_
  refine r_icmp_ne hx hb rfl (show (7 : Int32).toInt = 7 by decide) (tgt := 353) dL_law_345 (by decide) (fun c286 => ?_) (fun c286 => ?_)
  · have h := ite_f c286 h
    refine lv_aload_n hx hb dL_law_353 rfl (lv_at hl 3 rfl) ?_
    refine lv_iconst (v := (3 : Int32)) hx hb dL_law_354 (by decide) ?_
    obtain ⟨b287, h⟩ := h
    refine r_iald hx hb hE hW 100 0 ⟨rfl, by decide, by decide⟩ (n := 14) (f := a3 0) rfl b287 (v := a3 0 ((3 : Int32)).toNatClampNeg) rfl dL_law_355 ?_
    refine r_if_ne hx hb rfl (tgt := 363) dL_law_356 (by decide) (fun c288 => ?_) (fun c288 => ?_)
    · have h := ite_f c288 h
      refine lv_iload hx hb dL_law_363 (lv_at hl 12 rfl) ?_
      refine lv_bipush (v := (64 : Int32)) hx hb dL_law_365 (by decide) ?_
      refine lv_idiv hx hb dL_law_367 (by decide) ?_
      refine lv_aload_n hx hb dL_law_368 rfl (lv_at hl 3 rfl) ?_
      refine lv_iconst (v := (3 : Int32)) hx hb dL_law_369 (by decide) ?_
      obtain ⟨b289, h⟩ := h
      refine r_iald hx hb hE hW 100 0 ⟨rfl, by decide, by decide⟩ (n := 14) (f := a3 0) rfl b289 (v := a3 0 ((3 : Int32)).toNatClampNeg) rfl dL_law_370 ?_
      obtain ⟨g290, h⟩ := h
      refine lv_irem hx hb dL_law_371 g290 ?_
      exact tL_law_372 (σ := σ) (ρ := ρ) X κ115 post hpost bc115 bs115 hk115 _ _ (by omega) (by omega) (by omega) (by omega) a1 a2 a3 b1 x6 x8 x9 x11 x12 x14 x16 y0 ((x14 / ((64 : Int32))) - (x14 / ((64 : Int32))) / (a3 0 ((3 : Int32)).toNatClampNeg) * (a3 0 ((3 : Int32)).toNatClampNeg)) hX9 hW hS (lv_sub hl [1, 2, 3, 4, 5, 6, 7, 8, 9, 10, 11, 12, 14, 0] rfl) h
    · have h := ite_t c288 h
      refine lv_iconst (v := (0 : Int32)) hx hb dL_law_359 (by decide) ?_
      refine lv_goto (tgt := 372) hx hb dL_law_360 (by decide) ?_
      exact tL_law_372 (σ := σ) (ρ := ρ) X κ115 post hpost bc115 bs115 hk115 _ _ (by omega) (by omega) (by omega) (by omega) a1 a2 a3 b1 x6 x8 x9 x11 x12 x14 x16 y0 ((0 : Int32)) hX9 hW hS (lv_sub hl [1, 2, 3, 4, 5, 6, 7, 8, 9, 10, 11, 12, 14, 0] rfl) h
  · have h := ite_t c286 h
    refine lv_iload hx hb dL_law_348 (lv_at hl 13 rfl) ?_
    refine lv_goto (tgt := 372) hx hb dL_law_350 (by decide) ?_
    exact tL_law_372 (σ := σ) (ρ := ρ) X κ115 post hpost bc115 bs115 hk115 _ _ (by omega) (by omega) (by omega) (by omega) a1 a2 a3 b1 x6 x8 x9 x11 x12 x14 x16 y0 x15 hX9 hW hS (lv_sub hl [1, 2, 3, 4, 5, 6, 7, 8, 9, 10, 11, 12, 14, 0] rfl) h

set_option maxHeartbeats 4000000 in
set_option maxRecDepth 100000 in
theorem tL_law_275 {p : Program} {l : Launch} {e : Env} {s : State} {m : MethodId} {below : List Frame} {meth : Method} {c : Code} {b L : Nat} {xs : Nat → Int32} {z : Nat} {G : Gl} {ad : Nat → Nat → Nat} {σ : SG} {ν : NU} {ρ : RH} {lo : Int64} (X : LCX p l e s m below meth c b L xs z G) (κ115 : SG → NU → RH → Int64 → Int32 → Int32 → Int32 → Int32 → Prop) (post : Int32 → Prop) (hpost : ∀ r, post r → r = 1) (bc115 bs115 : Nat) (hk115 : ∀ (kc ks : Nat), kc + bc115 ≤ 600104 → ks + bs115 ≤ 7301314 → ∀ (a1 : SG) (a2 : NU) (a3 : RH) (b1 : Nat → Nat → Nat) (x6 : Int64) (x8 : Int32) (x9 : Int32) (x10 : Int32) (x11 : Int32) {H : Heap} {locs : List Loc} {ls : Array Slot}, Xt ad b1 ν a2 → WP z G b1 (a1, a2, a3, lo) H → va_S (Az z) s.heap H locs → lv_has ls 23 [(0, .ref b), (1, .ref (b1 0 0)), (2, .ref (b1 100 0)), (3, .ref (b1 101 0)), (4, .ref (b1 102 0)), (5, .ref (b1 103 0)), (6, .long x6), (8, .int x8), (9, .int x9), (10, .int x10), (11, .int x11)] → κ115 a1 a2 a3 x6 x8 x9 x10 x11 → W p l e room_1 s m #[Value.ref b] below meth c H locs kc ks (lw_Z below #[Value.ref b] s) (F0 m 115 ls [])) : ∀ (kc ks : Nat), kc + 1999 + bc115 ≤ 600104 → ks + 34940 + bs115 ≤ 7301314 → kc + 1521 ≤ 600104 → ks + 28459 ≤ 7301314 → ∀ (a1 : SG) (a2 : NU) (a3 : RH) (b1 : Nat → Nat → Nat) (x6 : Int64) (x8 : Int32) (x9 : Int32) (x11 : Int32) (x12 : Int32) (x13 : Int32) (x14 : Int32) (x15 : Int32) (y0 : Int32) {H : Heap} {locs : List Loc} {ls : Array Slot}, Xt ad b1 ν a2 → WP z G b1 (a1, a2, a3, lo) H → va_S (Az z) s.heap H locs → lv_has ls 23 [(0, .ref b), (1, .ref (b1 0 0)), (2, .ref (b1 100 0)), (3, .ref (b1 101 0)), (4, .ref (b1 102 0)), (5, .ref (b1 103 0)), (6, .long x6), (8, .int x8), (9, .int x9), (11, .int x11), (12, .int x12), (13, .int x13), (14, .int x14), (15, .int x15)] → jL_law_275 L xs κ115 post a1 a2 a3 x6 x8 x9 x11 x12 x13 x14 x15 y0 → W p l e room_1 s m #[Value.ref b] below meth c H locs kc ks (lw_Z below #[Value.ref b] s) (F0 m 275 ls [.int y0]) := by
  obtain ⟨hx, hb, hml, hown, hts, hE, hz, hlt, hX, hbl, hbA, hL, hr, hlocks, hze⟩ := id X
  intro kc ks hB1 hB2 hX1 hX2 a1 a2 a3 b1 x6 x8 x9 x11 x12 x13 x14 x15 y0 H locs ls hX9 hW hS hl h
  unfold jL_law_275 at h
  refine lv_istore (lv' := [(16, .int y0), (0, .ref b), (1, .ref (b1 0 0)), (2, .ref (b1 100 0)), (3, .ref (b1 101 0)), (4, .ref (b1 102 0)), (5, .ref (b1 103 0)), (6, .long x6), (8, .int x8), (9, .int x9), (11, .int x11), (12, .int x12), (13, .int x13), (14, .int x14), (15, .int x15)]) hx hb dL_law_275 hl (by decide) rfl (fun ls hl => ?_)
  refine lv_iload hx hb dL_law_277 (lv_at hl 12 rfl) ?_
  refine lv_bipush (v := (9 : Int32)) hx hb dL_law_279 (by decide) ?_
  refine r_icmp_ge hx hb rfl (show (9 : Int32).toInt = 9 by decide) (tgt := 288) dL_law_281 (by decide) (fun c282 => ?_) (fun c282 => ?_)
  · have h := ite_f c282 h
    refine lv_iload hx hb dL_law_288 (lv_at hl 12 rfl) ?_
    refine lv_bipush (v := (9 : Int32)) hx hb dL_law_290 (by decide) ?_
    refine r_icmp_ne hx hb rfl (show (9 : Int32).toInt = 9 by decide) (tgt := 299) dL_law_292 (by decide) (fun c283 => ?_) (fun c283 => ?_)
    · have h := ite_f c283 h
      refine lv_iload hx hb dL_law_299 (lv_at hl 12 rfl) ?_
      refine lv_bipush (v := (10 : Int32)) hx hb dL_law_301 (by decide) ?_
      refine r_icmp_ne hx hb rfl (show (10 : Int32).toInt = 10 by decide) (tgt := 318) dL_law_303 (by decide) (fun c284 => ?_) (fun c284 => ?_)
      · have h := ite_f c284 h
        refine lv_iload hx hb dL_law_318 (lv_at hl 12 rfl) ?_
        refine lv_bipush (v := (11 : Int32)) hx hb dL_law_320 (by decide) ?_
        refine r_icmp_ne hx hb rfl (show (11 : Int32).toInt = 11 by decide) (tgt := 337) dL_law_322 (by decide) (fun c285 => ?_) (fun c285 => ?_)
        · have h := ite_f c285 h
          refine lv_bipush (v := (7 : Int32)) hx hb dL_law_337 (by decide) ?_
          exact tL_law_339 (σ := σ) (ρ := ρ) X κ115 post hpost bc115 bs115 hk115 _ _ (by omega) (by omega) (by omega) (by omega) a1 a2 a3 b1 x6 x8 x9 x11 x12 x14 x15 y0 ((7 : Int32)) hX9 hW hS (lv_sub hl [1, 2, 3, 4, 5, 6, 7, 8, 9, 10, 11, 13, 14, 0] rfl) h
        · have h := ite_t c285 h
          refine lv_iconst (v := (5 : Int32)) hx hb dL_law_325 (by decide) ?_
          refine lv_iload hx hb dL_law_326 (lv_at hl 13 rfl) ?_
          refine lv_bipush (v := (7 : Int32)) hx hb dL_law_328 (by decide) ?_
          refine lv_idiv hx hb dL_law_330 (by decide) ?_
          refine lv_iconst (v := (2 : Int32)) hx hb dL_law_331 (by decide) ?_
          refine lv_irem hx hb dL_law_332 (by decide) ?_
          refine lv_iadd hx hb dL_law_333 ?_
          refine lv_goto (tgt := 339) hx hb dL_law_334 (by decide) ?_
          exact tL_law_339 (σ := σ) (ρ := ρ) X κ115 post hpost bc115 bs115 hk115 _ _ (by omega) (by omega) (by omega) (by omega) a1 a2 a3 b1 x6 x8 x9 x11 x12 x14 x15 y0 (((5 : Int32)) + ((x14 / ((7 : Int32))) - (x14 / ((7 : Int32))) / ((2 : Int32)) * ((2 : Int32)))) hX9 hW hS (lv_sub hl [1, 2, 3, 4, 5, 6, 7, 8, 9, 10, 11, 13, 14, 0] rfl) h
      · have h := ite_t c284 h
        refine lv_iconst (v := (3 : Int32)) hx hb dL_law_306 (by decide) ?_
        refine lv_iload hx hb dL_law_307 (lv_at hl 13 rfl) ?_
        refine lv_bipush (v := (7 : Int32)) hx hb dL_law_309 (by decide) ?_
        refine lv_idiv hx hb dL_law_311 (by decide) ?_
        refine lv_iconst (v := (2 : Int32)) hx hb dL_law_312 (by decide) ?_
        refine lv_irem hx hb dL_law_313 (by decide) ?_
        refine lv_iadd hx hb dL_law_314 ?_
        refine lv_goto (tgt := 339) hx hb dL_law_315 (by decide) ?_
        exact tL_law_339 (σ := σ) (ρ := ρ) X κ115 post hpost bc115 bs115 hk115 _ _ (by omega) (by omega) (by omega) (by omega) a1 a2 a3 b1 x6 x8 x9 x11 x12 x14 x15 y0 (((3 : Int32)) + ((x14 / ((7 : Int32))) - (x14 / ((7 : Int32))) / ((2 : Int32)) * ((2 : Int32)))) hX9 hW hS (lv_sub hl [1, 2, 3, 4, 5, 6, 7, 8, 9, 10, 11, 13, 14, 0] rfl) h
    · have h := ite_t c283 h
      refine lv_iconst (v := (2 : Int32)) hx hb dL_law_295 (by decide) ?_
      refine lv_goto (tgt := 339) hx hb dL_law_296 (by decide) ?_
      exact tL_law_339 (σ := σ) (ρ := ρ) X κ115 post hpost bc115 bs115 hk115 _ _ (by omega) (by omega) (by omega) (by omega) a1 a2 a3 b1 x6 x8 x9 x11 x12 x14 x15 y0 ((2 : Int32)) hX9 hW hS (lv_sub hl [1, 2, 3, 4, 5, 6, 7, 8, 9, 10, 11, 13, 14, 0] rfl) h
  · have h := ite_t c282 h
    refine lv_iconst (v := (1 : Int32)) hx hb dL_law_284 (by decide) ?_
    refine lv_goto (tgt := 339) hx hb dL_law_285 (by decide) ?_
    exact tL_law_339 (σ := σ) (ρ := ρ) X κ115 post hpost bc115 bs115 hk115 _ _ (by omega) (by omega) (by omega) (by omega) a1 a2 a3 b1 x6 x8 x9 x11 x12 x14 x15 y0 ((1 : Int32)) hX9 hW hS (lv_sub hl [1, 2, 3, 4, 5, 6, 7, 8, 9, 10, 11, 13, 14, 0] rfl) h

set_option maxHeartbeats 4000000 in
set_option maxRecDepth 100000 in
theorem tL_law_166 {p : Program} {l : Launch} {e : Env} {s : State} {m : MethodId} {below : List Frame} {meth : Method} {c : Code} {b L : Nat} {xs : Nat → Int32} {z : Nat} {G : Gl} {ad : Nat → Nat → Nat} {σ : SG} {ν : NU} {ρ : RH} {lo : Int64} (X : LCX p l e s m below meth c b L xs z G) (κ115 : SG → NU → RH → Int64 → Int32 → Int32 → Int32 → Int32 → Prop) (post : Int32 → Prop) (hpost : ∀ r, post r → r = 1) (bc115 bs115 : Nat) (hk115 : ∀ (kc ks : Nat), kc + bc115 ≤ 600104 → ks + bs115 ≤ 7301314 → ∀ (a1 : SG) (a2 : NU) (a3 : RH) (b1 : Nat → Nat → Nat) (x6 : Int64) (x8 : Int32) (x9 : Int32) (x10 : Int32) (x11 : Int32) {H : Heap} {locs : List Loc} {ls : Array Slot}, Xt ad b1 ν a2 → WP z G b1 (a1, a2, a3, lo) H → va_S (Az z) s.heap H locs → lv_has ls 23 [(0, .ref b), (1, .ref (b1 0 0)), (2, .ref (b1 100 0)), (3, .ref (b1 101 0)), (4, .ref (b1 102 0)), (5, .ref (b1 103 0)), (6, .long x6), (8, .int x8), (9, .int x9), (10, .int x10), (11, .int x11)] → κ115 a1 a2 a3 x6 x8 x9 x10 x11 → W p l e room_1 s m #[Value.ref b] below meth c H locs kc ks (lw_Z below #[Value.ref b] s) (F0 m 115 ls [])) : ∀ (kc ks : Nat), kc + 2000 + bc115 ≤ 600104 → ks + 35015 + bs115 ≤ 7301314 → kc + 1522 ≤ 600104 → ks + 28534 ≤ 7301314 → ∀ (a1 : SG) (a2 : NU) (a3 : RH) (b1 : Nat → Nat → Nat) (x6 : Int64) (x8 : Int32) (x9 : Int32) (x11 : Int32) (x12 : Int32) (x13 : Int32) (x14 : Int32) (y0 : Int32) {H : Heap} {locs : List Loc} {ls : Array Slot}, Xt ad b1 ν a2 → WP z G b1 (a1, a2, a3, lo) H → va_S (Az z) s.heap H locs → lv_has ls 23 [(0, .ref b), (1, .ref (b1 0 0)), (2, .ref (b1 100 0)), (3, .ref (b1 101 0)), (4, .ref (b1 102 0)), (5, .ref (b1 103 0)), (6, .long x6), (8, .int x8), (9, .int x9), (11, .int x11), (12, .int x12), (13, .int x13), (14, .int x14)] → jL_law_166 L xs κ115 post a1 a2 a3 x6 x8 x9 x11 x12 x13 x14 y0 → W p l e room_1 s m #[Value.ref b] below meth c H locs kc ks (lw_Z below #[Value.ref b] s) (F0 m 166 ls [.int y0]) := by
  obtain ⟨hx, hb, hml, hown, hts, hE, hz, hlt, hX, hbl, hbA, hL, hr, hlocks, hze⟩ := id X
  intro kc ks hB1 hB2 hX1 hX2 a1 a2 a3 b1 x6 x8 x9 x11 x12 x13 x14 y0 H locs ls hX9 hW hS hl h
  unfold jL_law_166 at h
  refine lv_istore (lv' := [(15, .int y0), (0, .ref b), (1, .ref (b1 0 0)), (2, .ref (b1 100 0)), (3, .ref (b1 101 0)), (4, .ref (b1 102 0)), (5, .ref (b1 103 0)), (6, .long x6), (8, .int x8), (9, .int x9), (11, .int x11), (12, .int x12), (13, .int x13), (14, .int x14)]) hx hb dL_law_166 hl (by decide) rfl (fun ls hl => ?_)
  refine lv_iload hx hb dL_law_168 (lv_at hl 12 rfl) ?_
  refine lv_iconst (v := (2 : Int32)) hx hb dL_law_170 (by decide) ?_
  refine r_icmp_lt hx hb rfl (show (2 : Int32).toInt = 2 by decide) (tgt := 180) dL_law_171 (by decide) (fun c70 => ?_) (fun c70 => ?_)
  · have h := ite_t c70 h
    exact tL_law_180 (σ := σ) (ρ := ρ) X κ115 post hpost bc115 bs115 hk115 _ _ (by omega) (by omega) (by omega) (by omega) a1 a2 a3 b1 x6 x8 x9 x11 x12 x14 hX9 hW hS (lv_sub hl [1, 2, 3, 4, 5, 6, 7, 8, 9, 10, 11, 13] rfl) h
  · have h := ite_f c70 h
    refine lv_aload_n hx hb dL_law_174 rfl (lv_at hl 3 rfl) ?_
    refine lv_iconst (v := (1 : Int32)) hx hb dL_law_175 (by decide) ?_
    obtain ⟨b116, h⟩ := h
    refine r_iald hx hb hE hW 100 0 ⟨rfl, by decide, by decide⟩ (n := 14) (f := a3 0) rfl b116 (v := a3 0 ((1 : Int32)).toNatClampNeg) rfl dL_law_176 ?_
    refine r_if_ne hx hb rfl (tgt := 256) dL_law_177 (by decide) (fun c117 => ?_) (fun c117 => ?_)
    · have h := ite_f c117 h
      refine lv_iload hx hb dL_law_256 (lv_at hl 12 rfl) ?_
      refine lv_bipush (v := (13 : Int32)) hx hb dL_law_258 (by decide) ?_
      refine r_icmp_ge hx hb rfl (show (13 : Int32).toInt = 13 by decide) (tgt := 786) dL_law_260 (by decide) (fun c118 => ?_) (fun c118 => ?_)
      · have h := ite_f c118 h
        refine lv_iload hx hb dL_law_786 (lv_at hl 12 rfl) ?_
        refine lv_bipush (v := (20 : Int32)) hx hb dL_law_788 (by decide) ?_
        refine r_icmp_ge hx hb rfl (show (20 : Int32).toInt = 20 by decide) (tgt := 918) dL_law_790 (by decide) (fun c119 => ?_) (fun c119 => ?_)
        · have h := ite_f c119 h
          refine lv_iload hx hb dL_law_918 (lv_at hl 12 rfl) ?_
          refine lv_bipush (v := (23 : Int32)) hx hb dL_law_920 (by decide) ?_
          refine r_icmp_ge hx hb rfl (show (23 : Int32).toInt = 23 by decide) (tgt := 1062) dL_law_922 (by decide) (fun c120 => ?_) (fun c120 => ?_)
          · have h := ite_f c120 h
            refine lv_iload hx hb dL_law_1062 (lv_at hl 12 rfl) ?_
            refine lv_bipush (v := (26 : Int32)) hx hb dL_law_1064 (by decide) ?_
            refine r_icmp_ge hx hb rfl (show (26 : Int32).toInt = 26 by decide) (tgt := 1175) dL_law_1066 (by decide) (fun c121 => ?_) (fun c121 => ?_)
            · have h := ite_f c121 h
              exact tL_law_1175 (σ := σ) (ρ := ρ) X κ115 post hpost bc115 bs115 hk115 _ _ (by omega) (by omega) (by omega) (by omega) a1 a2 a3 b1 x6 x8 x9 x11 x12 x13 x14 y0 hX9 hW hS (lv_sub hl [1, 2, 3, 4, 5, 6, 7, 8, 9, 10, 11, 12, 13, 0] rfl) h
            · have h := ite_t c121 h
              refine lv_aload_n hx hb dL_law_1069 rfl (lv_at hl 3 rfl) ?_
              refine lv_iconst (v := (2 : Int32)) hx hb dL_law_1070 (by decide) ?_
              obtain ⟨b204, h⟩ := h
              refine r_iald hx hb hE hW 100 0 ⟨rfl, by decide, by decide⟩ (n := 14) (f := a3 0) rfl b204 (v := a3 0 ((2 : Int32)).toNatClampNeg) rfl dL_law_1071 ?_
              refine r_if_le hx hb rfl (tgt := 1175) dL_law_1072 (by decide) (fun c205 => ?_) (fun c205 => ?_)
              · have h := ite_t c205 h
                exact tL_law_1175 (σ := σ) (ρ := ρ) X κ115 post hpost bc115 bs115 hk115 _ _ (by omega) (by omega) (by omega) (by omega) a1 a2 a3 b1 x6 x8 x9 x11 x12 x13 x14 y0 hX9 hW hS (lv_sub hl [1, 2, 3, 4, 5, 6, 7, 8, 9, 10, 11, 12, 13, 0] rfl) h
              · have h := ite_f c205 h
                refine lv_aload_n hx hb dL_law_1075 rfl (lv_at hl 4 rfl) ?_
                refine lv_iload hx hb dL_law_1076 (lv_at hl 0 rfl) ?_
                obtain ⟨b206, h⟩ := h
                refine r_iald hx hb hE hW 101 0 ⟨rfl, by decide, by decide⟩ (n := 40) (f := a3 1) rfl b206 (v := a3 1 y0.toNatClampNeg) rfl dL_law_1078 ?_
                refine lv_iconst (v := (4 : Int32)) hx hb dL_law_1079 (by decide) ?_
                refine lv_irem hx hb dL_law_1080 (by decide) ?_
                refine lv_iconst (v := (1 : Int32)) hx hb dL_law_1081 (by decide) ?_
                refine r_icmp_ne hx hb rfl (show (1 : Int32).toInt = 1 by decide) (tgt := 1097) dL_law_1082 (by decide) (fun c207 => ?_) (fun c207 => ?_)
                · have h := ite_f c207 h
                  refine lv_iconst (v := (0 : Int32)) hx hb dL_law_1097 (by decide) ?_
                  exact tL_law_1098 (σ := σ) (ρ := ρ) X κ115 post hpost bc115 bs115 hk115 _ _ (by omega) (by omega) (by omega) (by omega) a1 a2 a3 b1 x6 x8 x9 x11 x12 x14 y0 ((0 : Int32)) hX9 hW hS (lv_sub hl [1, 2, 3, 4, 5, 6, 7, 8, 9, 10, 11, 13, 0] rfl) h
                · have h := ite_t c207 h
                  refine lv_aload hx hb dL_law_1085 (lv_at hl 6 rfl) ?_
                  refine lv_iload hx hb dL_law_1087 (lv_at hl 0 rfl) ?_
                  obtain ⟨b229, h⟩ := h
                  refine r_iald hx hb hE hW 103 0 ⟨rfl, by decide, by decide⟩ (n := 40) (f := a3 3) rfl b229 (v := a3 3 y0.toNatClampNeg) rfl dL_law_1089 ?_
                  refine r_if_ne hx hb rfl (tgt := 1097) dL_law_1090 (by decide) (fun c230 => ?_) (fun c230 => ?_)
                  · have h := ite_f c230 h
                    refine lv_iconst (v := (0 : Int32)) hx hb dL_law_1097 (by decide) ?_
                    exact tL_law_1098 (σ := σ) (ρ := ρ) X κ115 post hpost bc115 bs115 hk115 _ _ (by omega) (by omega) (by omega) (by omega) a1 a2 a3 b1 x6 x8 x9 x11 x12 x14 y0 ((0 : Int32)) hX9 hW hS (lv_sub hl [1, 2, 3, 4, 5, 6, 7, 8, 9, 10, 11, 13, 0] rfl) h
                  · have h := ite_t c230 h
                    refine lv_iconst (v := (1 : Int32)) hx hb dL_law_1093 (by decide) ?_
                    refine lv_goto (tgt := 1098) hx hb dL_law_1094 (by decide) ?_
                    exact tL_law_1098 (σ := σ) (ρ := ρ) X κ115 post hpost bc115 bs115 hk115 _ _ (by omega) (by omega) (by omega) (by omega) a1 a2 a3 b1 x6 x8 x9 x11 x12 x14 y0 ((1 : Int32)) hX9 hW hS (lv_sub hl [1, 2, 3, 4, 5, 6, 7, 8, 9, 10, 11, 13, 0] rfl) h
          · have h := ite_t c120 h
            refine lv_iload hx hb dL_law_925 (lv_at hl 13 rfl) ?_
            refine lv_iconst (v := (3 : Int32)) hx hb dL_law_927 (by decide) ?_
            refine lv_irem hx hb dL_law_928 (by decide) ?_
            refine lv_iconst (v := (2 : Int32)) hx hb dL_law_929 (by decide) ?_
            refine r_icmp_ne hx hb rfl (show (2 : Int32).toInt = 2 by decide) (tgt := 943) dL_law_930 (by decide) (fun c231 => ?_) (fun c231 => ?_)
            · have h := ite_f c231 h
              refine lv_iload hx hb dL_law_943 (lv_at hl 13 rfl) ?_
              refine lv_iconst (v := (2 : Int32)) hx hb dL_law_945 (by decide) ?_
              refine lv_irem hx hb dL_law_946 (by decide) ?_
              exact tL_law_947 (σ := σ) (ρ := ρ) X κ115 post hpost bc115 bs115 hk115 _ _ (by omega) (by omega) (by omega) (by omega) a1 a2 a3 b1 x6 x8 x9 x11 x12 x14 y0 (x14 - x14 / ((2 : Int32)) * ((2 : Int32))) hX9 hW hS (lv_sub hl [1, 2, 3, 4, 5, 6, 7, 8, 9, 10, 11, 13, 0] rfl) h
            · have h := ite_t c231 h
              refine lv_aload_n hx hb dL_law_933 rfl (lv_at hl 3 rfl) ?_
              refine lv_iconst (v := (2 : Int32)) hx hb dL_law_934 (by decide) ?_
              obtain ⟨b261, h⟩ := h
              refine r_iald hx hb hE hW 100 0 ⟨rfl, by decide, by decide⟩ (n := 14) (f := a3 0) rfl b261 (v := a3 0 ((2 : Int32)).toNatClampNeg) rfl dL_law_935 ?_
              refine r_if_le hx hb rfl (tgt := 943) dL_law_936 (by decide) (fun c262 => ?_) (fun c262 => ?_)
              · have h := ite_t c262 h
                refine lv_iload hx hb dL_law_943 (lv_at hl 13 rfl) ?_
                refine lv_iconst (v := (2 : Int32)) hx hb dL_law_945 (by decide) ?_
                refine lv_irem hx hb dL_law_946 (by decide) ?_
                exact tL_law_947 (σ := σ) (ρ := ρ) X κ115 post hpost bc115 bs115 hk115 _ _ (by omega) (by omega) (by omega) (by omega) a1 a2 a3 b1 x6 x8 x9 x11 x12 x14 y0 (x14 - x14 / ((2 : Int32)) * ((2 : Int32))) hX9 hW hS (lv_sub hl [1, 2, 3, 4, 5, 6, 7, 8, 9, 10, 11, 13, 0] rfl) h
              · have h := ite_f c262 h
                refine lv_iconst (v := (2 : Int32)) hx hb dL_law_939 (by decide) ?_
                refine lv_goto (tgt := 947) hx hb dL_law_940 (by decide) ?_
                exact tL_law_947 (σ := σ) (ρ := ρ) X κ115 post hpost bc115 bs115 hk115 _ _ (by omega) (by omega) (by omega) (by omega) a1 a2 a3 b1 x6 x8 x9 x11 x12 x14 y0 ((2 : Int32)) hX9 hW hS (lv_sub hl [1, 2, 3, 4, 5, 6, 7, 8, 9, 10, 11, 13, 0] rfl) h
        · have h := ite_t c119 h
          refine lv_iload hx hb dL_law_793 (lv_at hl 12 rfl) ?_
          refine lv_bipush (v := (18 : Int32)) hx hb dL_law_795 (by decide) ?_
          refine r_icmp_ge hx hb rfl (show (18 : Int32).toInt = 18 by decide) (tgt := 804) dL_law_797 (by decide) (fun c263 => ?_) (fun c263 => ?_)
          · have h := ite_f c263 h
            refine lv_iconst (v := (0 : Int32)) hx hb dL_law_804 (by decide) ?_
            exact tL_law_805 (σ := σ) (ρ := ρ) X κ115 post hpost bc115 bs115 hk115 _ _ (by omega) (by omega) (by omega) (by omega) a1 a2 a3 b1 x6 x8 x9 x11 x12 x14 ((0 : Int32)) hX9 hW hS (lv_sub hl [1, 2, 3, 4, 5, 6, 7, 8, 9, 10, 11, 13] rfl) h
          · have h := ite_t c263 h
            refine lv_iconst (v := (1 : Int32)) hx hb dL_law_800 (by decide) ?_
            refine lv_goto (tgt := 805) hx hb dL_law_801 (by decide) ?_
            exact tL_law_805 (σ := σ) (ρ := ρ) X κ115 post hpost bc115 bs115 hk115 _ _ (by omega) (by omega) (by omega) (by omega) a1 a2 a3 b1 x6 x8 x9 x11 x12 x14 ((1 : Int32)) hX9 hW hS (lv_sub hl [1, 2, 3, 4, 5, 6, 7, 8, 9, 10, 11, 13] rfl) h
      · have h := ite_t c118 h
        refine lv_iload hx hb dL_law_263 (lv_at hl 12 rfl) ?_
        refine lv_bipush (v := (6 : Int32)) hx hb dL_law_265 (by decide) ?_
        refine r_icmp_ge hx hb rfl (show (6 : Int32).toInt = 6 by decide) (tgt := 274) dL_law_267 (by decide) (fun c281 => ?_) (fun c281 => ?_)
        · have h := ite_f c281 h
          refine lv_iconst (v := (0 : Int32)) hx hb dL_law_274 (by decide) ?_
          exact tL_law_275 (σ := σ) (ρ := ρ) X κ115 post hpost bc115 bs115 hk115 _ _ (by omega) (by omega) (by omega) (by omega) a1 a2 a3 b1 x6 x8 x9 x11 x12 x13 x14 y0 ((0 : Int32)) hX9 hW hS (lv_sub hl [1, 2, 3, 4, 5, 6, 7, 8, 9, 10, 11, 12, 13, 0] rfl) h
        · have h := ite_t c281 h
          refine lv_iconst (v := (1 : Int32)) hx hb dL_law_270 (by decide) ?_
          refine lv_goto (tgt := 275) hx hb dL_law_271 (by decide) ?_
          exact tL_law_275 (σ := σ) (ρ := ρ) X κ115 post hpost bc115 bs115 hk115 _ _ (by omega) (by omega) (by omega) (by omega) a1 a2 a3 b1 x6 x8 x9 x11 x12 x13 x14 y0 ((1 : Int32)) hX9 hW hS (lv_sub hl [1, 2, 3, 4, 5, 6, 7, 8, 9, 10, 11, 12, 13, 0] rfl) h
    · have h := ite_t c117 h
      exact tL_law_180 (σ := σ) (ρ := ρ) X κ115 post hpost bc115 bs115 hk115 _ _ (by omega) (by omega) (by omega) (by omega) a1 a2 a3 b1 x6 x8 x9 x11 x12 x14 hX9 hW hS (lv_sub hl [1, 2, 3, 4, 5, 6, 7, 8, 9, 10, 11, 13] rfl) h

set_option maxHeartbeats 4000000 in
set_option maxRecDepth 100000 in
theorem tL_law_115 {p : Program} {l : Launch} {e : Env} {s : State} {m : MethodId} {below : List Frame} {meth : Method} {c : Code} {b L : Nat} {xs : Nat → Int32} {z : Nat} {G : Gl} {ad : Nat → Nat → Nat} {σ : SG} {ν : NU} {ρ : RH} {lo : Int64} (X : LCX p l e s m below meth c b L xs z G)  (post : Int32 → Prop) (hpost : ∀ r, post r → r = 1) : ∀ (n kc ks : Nat), kc + (n * 2000 + 1522) ≤ 600104 → ks + (n * 35015 + 28534) ≤ 7301314 → ∀ (a1 : SG) (a2 : NU) (a3 : RH) (b1 : Nat → Nat → Nat) (x6 : Int64) (x8 : Int32) (x9 : Int32) (x10 : Int32) (x11 : Int32) {H : Heap} {locs : List Loc} {ls : Array Slot}, Xt ad b1 ν a2 → WP z G b1 (a1, a2, a3, lo) H → va_S (Az z) s.heap H locs → lv_has ls 23 [(0, .ref b), (1, .ref (b1 0 0)), (2, .ref (b1 100 0)), (3, .ref (b1 101 0)), (4, .ref (b1 102 0)), (5, .ref (b1 103 0)), (6, .long x6), (8, .int x8), (9, .int x9), (10, .int x10), (11, .int x11)] → wL_law_115 L xs post n a1 a2 a3 x6 x8 x9 x10 x11 → W p l e room_1 s m #[Value.ref b] below meth c H locs kc ks (lw_Z below #[Value.ref b] s) (F0 m 115 ls []) := by
  obtain ⟨hx, hb, hml, hown, hts, hE, hz, hlt, hX, hbl, hbA, hL, hr, hlocks, hze⟩ := id X
  intro n
  induction n with
  | zero =>
    intro kc ks hB1 hB2 a1 a2 a3 b1 x6 x8 x9 x10 x11 H locs ls hX9 hW hS hl h
    exact absurd h id
  | succ n ih =>
    intro kc ks hB1 hB2 a1 a2 a3 b1 x6 x8 x9 x10 x11 H locs ls hX9 hW hS hl h
    unfold wL_law_115 at h
    refine lv_iload hx hb dL_law_115 (lv_at hl 10 rfl) ?_
    refine lv_sipush (v := (130 : Int32)) hx hb dL_law_117 (by decide) ?_
    refine r_icmp_ge hx hb rfl (show (130 : Int32).toInt = 130 by decide) (tgt := 1537) dL_law_120 (by decide) (fun c21 => ?_) (fun c21 => ?_)
    · have h := ite_f c21 h
      exact tL_law_1537 (σ := σ) (ρ := ρ) X post hpost  _ _ (by omega) (by omega) a1 a2 a3 b1 x6 x8 x9 x10 hX9 hW hS (lv_sub hl [1, 2, 3, 4, 5, 6, 7, 8, 9] rfl) h
    · have h := ite_t c21 h
      refine lv_iload hx hb dL_law_123 (lv_at hl 9 rfl) ?_
      refine r_if_eq hx hb rfl (tgt := 1537) dL_law_125 (by decide) (fun c64 => ?_) (fun c64 => ?_)
      · have h := ite_t c64 h
        exact tL_law_1537 (σ := σ) (ρ := ρ) X post hpost  _ _ (by omega) (by omega) a1 a2 a3 b1 x6 x8 x9 x10 hX9 hW hS (lv_sub hl [1, 2, 3, 4, 5, 6, 7, 8, 9] rfl) h
      · have h := ite_f c64 h
        refine lv_aload_n hx hb dL_law_128 rfl (lv_at hl 0 rfl) ?_
        refine lv_iload hx hb dL_law_129 (lv_at hl 10 rfl) ?_
        obtain ⟨g9, h⟩ := h
        refine r_dice (rest := []) (k := x11) X hW hS rfl hl.1 (Nat.le_of_ble_eq_true rfl) g9 dL_law_131 ⟨by omega, by omega⟩ (fun H locs hW hS => ?_)
        generalize dz L xs x11 = r65 at h ⊢
        refine lv_istore (lv' := [(12, .int r65), (0, .ref b), (1, .ref (b1 0 0)), (2, .ref (b1 100 0)), (3, .ref (b1 101 0)), (4, .ref (b1 102 0)), (5, .ref (b1 103 0)), (6, .long x6), (8, .int x8), (9, .int x9), (10, .int x10), (11, .int x11)]) hx hb dL_law_134 hl (by decide) rfl (fun ls hl => ?_)
        refine lv_iload hx hb dL_law_136 (lv_at hl 0 rfl) ?_
        refine lv_bipush (v := (32 : Int32)) hx hb dL_law_138 (by decide) ?_
        refine lv_irem hx hb dL_law_140 (by decide) ?_
        refine lv_istore (lv' := [(13, .int (r65 - r65 / ((32 : Int32)) * ((32 : Int32)))), (12, .int r65), (0, .ref b), (1, .ref (b1 0 0)), (2, .ref (b1 100 0)), (3, .ref (b1 101 0)), (4, .ref (b1 102 0)), (5, .ref (b1 103 0)), (6, .long x6), (8, .int x8), (9, .int x9), (10, .int x10), (11, .int x11)]) hx hb dL_law_141 hl (by decide) rfl (fun ls hl => ?_)
        refine lv_iload hx hb dL_law_143 (lv_at hl 1 rfl) ?_
        refine lv_bipush (v := (32 : Int32)) hx hb dL_law_145 (by decide) ?_
        refine lv_idiv hx hb dL_law_147 (by decide) ?_
        refine lv_istore (lv' := [(14, .int (r65 / ((32 : Int32)))), (13, .int (r65 - r65 / ((32 : Int32)) * ((32 : Int32)))), (12, .int r65), (0, .ref b), (1, .ref (b1 0 0)), (2, .ref (b1 100 0)), (3, .ref (b1 101 0)), (4, .ref (b1 102 0)), (5, .ref (b1 103 0)), (6, .long x6), (8, .int x8), (9, .int x9), (10, .int x10), (11, .int x11)]) hx hb dL_law_148 hl (by decide) rfl (fun ls hl => ?_)
        refine lv_aload_n hx hb dL_law_150 rfl (lv_at hl 5 rfl) ?_
        refine lv_iconst (v := (2 : Int32)) hx hb dL_law_151 (by decide) ?_
        obtain ⟨b66, h⟩ := h
        refine r_iald hx hb hE hW 100 0 ⟨rfl, by decide, by decide⟩ (n := 14) (f := a3 0) rfl b66 (v := a3 0 ((2 : Int32)).toNatClampNeg) rfl dL_law_152 ?_
        refine r_if_ne hx hb rfl (tgt := 160) dL_law_153 (by decide) (fun c67 => ?_) (fun c67 => ?_)
        · have h := ite_f c67 h
          refine lv_iload hx hb dL_law_160 (lv_at hl 0 rfl) ?_
          refine lv_aload_n hx hb dL_law_162 rfl (lv_at hl 5 rfl) ?_
          refine lv_iconst (v := (2 : Int32)) hx hb dL_law_163 (by decide) ?_
          obtain ⟨b68, h⟩ := h
          refine r_iald hx hb hE hW 100 0 ⟨rfl, by decide, by decide⟩ (n := 14) (f := a3 0) rfl b68 (v := a3 0 ((2 : Int32)).toNatClampNeg) rfl dL_law_164 ?_
          obtain ⟨g69, h⟩ := h
          refine lv_irem hx hb dL_law_165 g69 ?_
          exact tL_law_166 (σ := σ) (ρ := ρ) X (wL_law_115 L xs post n) post hpost (n * 2000 + 1522) (n * 35015 + 28534) ih _ _ (by omega) (by omega) (by omega) (by omega) a1 a2 a3 b1 x6 x8 x9 x11 r65 (r65 - r65 / ((32 : Int32)) * ((32 : Int32))) (r65 / ((32 : Int32))) ((r65 / ((32 : Int32))) - (r65 / ((32 : Int32))) / (a3 0 ((2 : Int32)).toNatClampNeg) * (a3 0 ((2 : Int32)).toNatClampNeg)) hX9 hW hS (lv_sub hl [3, 4, 5, 6, 7, 8, 9, 10, 11, 13, 2, 1, 0] rfl) h
        · have h := ite_t c67 h
          refine lv_iconst (v := (0 : Int32)) hx hb dL_law_156 (by decide) ?_
          refine lv_goto (tgt := 166) hx hb dL_law_157 (by decide) ?_
          exact tL_law_166 (σ := σ) (ρ := ρ) X (wL_law_115 L xs post n) post hpost (n * 2000 + 1522) (n * 35015 + 28534) ih _ _ (by omega) (by omega) (by omega) (by omega) a1 a2 a3 b1 x6 x8 x9 x11 r65 (r65 - r65 / ((32 : Int32)) * ((32 : Int32))) (r65 / ((32 : Int32))) ((0 : Int32)) hX9 hW hS (lv_sub hl [3, 4, 5, 6, 7, 8, 9, 10, 11, 13, 2, 1, 0] rfl) h

