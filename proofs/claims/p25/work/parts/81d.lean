/-! the law method by method: its walk. Written by wip/gen25/genlaw.py -/
set_option maxHeartbeats 4000000 in
set_option maxRecDepth 100000 in
theorem tL_isRefused_870 {p : Program} {l : Launch} {e : Env} {s : State} {m : MethodId} {args : Array Value} {below : List Frame} {meth : Method} {c : Code} {z : Nat} {G : Gl} {ad : Nat → Nat → Nat} {σ : SG} {ν : NU} {ρ : RH} {lo : Int64} (X : Cx p l e s m args below meth c cL_isRefused (some .boolean) 10 RL wsL_isRefused z G) (hlt : l.stackTraces = false) (p2 : Int32)  (post : Int32 → SG → NU → Prop) : ∀ (kc ks : Nat), kc + 0 ≤ 478 → ks + 0 ≤ 6481 → ∀ (a1 : SG) (a2 : NU) (b1 : Nat → Nat → Nat) (x6 : Int64) (y0 : Int32) {H : Heap} {locs : List Loc} {ls : Array Slot}, Xt ad b1 ν a2 → WP z G b1 (a1, a2, ρ, lo) H → va_S (Az z) s.heap H locs → lv_has ls 10 [(0, .ref (b1 0 0)), (1, .ref (b1 100 0)), (6, .long x6)] → jL_isRefused_870 p2 post a1 a2 ρ x6 y0 → W p l e ({ frames := 12, cells := 478, slots := 6481, locals := 296 } : Room) s m args below meth c H locs kc ks (MQ below (Qia z G (fun r S1 => ∃ (t : SG) (u : NU), S1.1 = (t, u, ρ, lo) ∧ Xt ad S1.2 ν u ∧ post r t u)) args s 478 6481 (Az z)) (F0 m 870 ls [.int y0]) := by
  obtain ⟨hx, hb, hr, hml, hown, hts, hlocks, hE, hz⟩ := id X
  intro kc ks hB1 hB2 a1 a2 b1 x6 y0 H locs ls hX9 hW hS hl h
  unfold jL_isRefused_870 at h
  refine lv_istore (lv' := [(8, .int y0), (0, .ref (b1 0 0)), (1, .ref (b1 100 0)), (6, .long x6)]) hx hb dL_isRefused_870 hl (by decide) rfl (fun ls hl => ?_)
  refine lv_iload hx hb dL_isRefused_872 (lv_at hl 0 rfl) ?_
  refine r_if_eq hx hb rfl (tgt := 892) dL_isRefused_874 (by decide) (fun c14 => ?_) (fun c14 => ?_)
  · have h := ite_t c14 h
    refine lv_iconst (v := (0 : Int32)) hx hb dL_isRefused_892 (by decide) ?_
    refine W.widen (k := 478) (n := 6481) (by omega) (by omega) ?_
    exact W.zret (v := (0 : Int32)) (ty := .boolean) hx hb hr rfl (fun t ht _ => ⟨⟨_, ((a1, a2, ρ, lo), b1), rfl, ⟨_, _, rfl, hX9, h⟩, WP.at9 ht hW⟩, hS.F ht⟩) hS.2.2 dL_isRefused_893 (hlocks := hlocks)
  · have h := ite_f c14 h
    refine lv_aload_n hx hb dL_isRefused_877 rfl (lv_at hl 1 rfl) ?_
    refine lv_aload_n hx hb dL_isRefused_878 rfl (lv_at hl 2 rfl) ?_
    refine k_Sl (rest := []) (As := [.ref (b1 0 0), .ref (b1 100 0)]) ⟨hx, hb, hml, hown, hts⟩ hE hz hS hW (mtL_all l hlt z G b1 a1 a2 ρ lo  _ h) (va_cwS 2 hts gL_isRefused_L_all rfl rfl rfl (by decide +kernel) ⟨Nat.le_of_ble_eq_true rfl, Nat.le_of_ble_eq_true rfl⟩) rfl hl.1 rfl (Nat.le_of_ble_eq_true rfl) dL_isRefused_879 ⟨by show _ ≤ 478; omega, by show _ ≤ 6481; omega⟩ (fun r15 S1 H locs hp hW hS => ?_)
    obtain ⟨rfl, h⟩ := hp
    refine lv_lload hx hb dL_isRefused_882 (lv_at hl 3 rfl) ?_
    refine W.lcmp hx hb dL_isRefused_884 ?_
    refine r_if_ne hx hb rfl (tgt := 892) dL_isRefused_885 (by decide) (fun c16 => ?_) (fun c16 => ?_)
    · have h := ite_f c16 h
      refine lv_iconst (v := (0 : Int32)) hx hb dL_isRefused_892 (by decide) ?_
      refine W.widen (k := 478) (n := 6481) (by omega) (by omega) ?_
      exact W.zret (v := (0 : Int32)) (ty := .boolean) hx hb hr rfl (fun t ht _ => ⟨⟨_, ((a1, a2, ρ, lo), b1), rfl, ⟨_, _, rfl, hX9, h⟩, WP.at9 ht hW⟩, hS.F ht⟩) hS.2.2 dL_isRefused_893 (hlocks := hlocks)
    · have h := ite_t c16 h
      refine lv_iconst (v := (1 : Int32)) hx hb dL_isRefused_888 (by decide) ?_
      refine lv_goto (tgt := 893) hx hb dL_isRefused_889 (by decide) ?_
      refine W.widen (k := 478) (n := 6481) (by omega) (by omega) ?_
      exact W.zret (v := (1 : Int32)) (ty := .boolean) hx hb hr rfl (fun t ht _ => ⟨⟨_, ((a1, a2, ρ, lo), b1), rfl, ⟨_, _, rfl, hX9, h⟩, WP.at9 ht hW⟩, hS.F ht⟩) hS.2.2 dL_isRefused_893 (hlocks := hlocks)
set_option maxHeartbeats 4000000 in
set_option maxRecDepth 100000 in
theorem tL_isRefused_855 {p : Program} {l : Launch} {e : Env} {s : State} {m : MethodId} {args : Array Value} {below : List Frame} {meth : Method} {c : Code} {z : Nat} {G : Gl} {ad : Nat → Nat → Nat} {σ : SG} {ν : NU} {ρ : RH} {lo : Int64} (X : Cx p l e s m args below meth c cL_isRefused (some .boolean) 10 RL wsL_isRefused z G) (hlt : l.stackTraces = false) (p2 : Int32)  (post : Int32 → SG → NU → Prop) : ∀ (kc ks : Nat), kc + 21 ≤ 478 → ks + 275 ≤ 6481 → ∀ (a1 : SG) (a2 : NU) (b1 : Nat → Nat → Nat) (x6 : Int64) (y0 : Nat) (y4 : Int32) {H : Heap} {locs : List Loc} {ls : Array Slot}, Xt ad b1 ν a2 → WP z G b1 (a1, a2, ρ, lo) H → va_S (Az z) s.heap H locs → lv_has ls 10 [(0, .ref (b1 0 0)), (1, .ref (b1 100 0)), (6, .long x6)] → jL_isRefused_855 p2 post a1 a2 ρ x6 y0 y4 → W p l e ({ frames := 12, cells := 478, slots := 6481, locals := 296 } : Room) s m args below meth c H locs kc ks (MQ below (Qia z G (fun r S1 => ∃ (t : SG) (u : NU), S1.1 = (t, u, ρ, lo) ∧ Xt ad S1.2 ν u ∧ post r t u)) args s 478 6481 (Az z)) (F0 m 855 ls [.int y4, .int ((0 : Int32)), .int ((4 : Int32)), .int ((4 : Int32)), .ref (b1 0 0)]) := by
  obtain ⟨hx, hb, hr, hml, hown, hts, hlocks, hE, hz⟩ := id X
  intro kc ks hB1 hB2 a1 a2 b1 x6 y0 y4 H locs ls hX9 hW hS hl h
  unfold jL_isRefused_855 at h
  refine lv_iconst (v := (0 : Int32)) hx hb dL_isRefused_855 (by decide) ?_
  refine kWA_Si (rest := []) (As := [.ref (b1 0 0), .int ((4 : Int32)), .int ((4 : Int32)), .int ((0 : Int32)), .int y4, .int ((0 : Int32))]) ⟨hx, hb, hml, hown, hts⟩ hE hz hS hW (mtL_does_4 l hlt z G b1 a1 a2 ρ lo ((4 : Int32)) ((0 : Int32)) y4 ((0 : Int32)) _ h) (vx_cwSW 6 hts gL_isRefused_L_does rfl rfl rfl (by decide +kernel) ⟨Nat.le_of_ble_eq_true rfl, Nat.le_of_ble_eq_true rfl⟩) rfl hl.1 rfl (Nat.le_of_ble_eq_true rfl) dL_isRefused_856 ⟨by show _ ≤ 478; omega, by show _ ≤ 6481; omega⟩ (fun r30 S1 ad33 H locs hp hW hS => ?_)
  obtain ⟨t31, vv32, rfl, q34, h⟩ := hp
  have z35 : ad33 0 0 = b1 0 0 := (q34 0 0 (by decide) rfl).2
  have z36 : ad33 100 0 = b1 100 0 := (q34 100 0 (by decide) ⟨rfl, by decide, by decide⟩).2
  have hl : lv_has ls 10 [(0, .ref (ad33 0 0)), (1, .ref (ad33 100 0)), (6, .long x6)] := by rw [z35, z36]; exact hl
  refine lv_sipush (v := (-1382 : Int32)) hx hb dL_isRefused_859 (by decide) ?_
  refine r_icmp_ne hx hb rfl (show (-1382 : Int32).toInt = (-1382) by decide) (tgt := 869) dL_isRefused_862 (by decide) (fun c37 => ?_) (fun c37 => ?_)
  · have h := ite_f c37 h
    refine lv_iconst (v := (0 : Int32)) hx hb dL_isRefused_869 (by decide) ?_
    exact tL_isRefused_870 (σ := σ) (ρ := ρ) X hlt p2 post  _ _ (by omega) (by omega) t31 vv32 ad33 x6 ((0 : Int32)) (Xt.tr hX9 q34) hW hS (lv_sub hl [0, 1, 2] rfl) h
  · have h := ite_t c37 h
    refine lv_iconst (v := (1 : Int32)) hx hb dL_isRefused_865 (by decide) ?_
    refine lv_goto (tgt := 870) hx hb dL_isRefused_866 (by decide) ?_
    exact tL_isRefused_870 (σ := σ) (ρ := ρ) X hlt p2 post  _ _ (by omega) (by omega) t31 vv32 ad33 x6 ((1 : Int32)) (Xt.tr hX9 q34) hW hS (lv_sub hl [0, 1, 2] rfl) h
set_option maxHeartbeats 4000000 in
set_option maxRecDepth 100000 in
theorem tL_isRefused_814 {p : Program} {l : Launch} {e : Env} {s : State} {m : MethodId} {args : Array Value} {below : List Frame} {meth : Method} {c : Code} {z : Nat} {G : Gl} {ad : Nat → Nat → Nat} {σ : SG} {ν : NU} {ρ : RH} {lo : Int64} (X : Cx p l e s m args below meth c cL_isRefused (some .boolean) 10 RL wsL_isRefused z G) (hlt : l.stackTraces = false) (p2 : Int32)  (post : Int32 → SG → NU → Prop) : ∀ (kc ks : Nat), kc + 42 ≤ 478 → ks + 550 ≤ 6481 → ∀ (a1 : SG) (a2 : NU) (b1 : Nat → Nat → Nat) (x3 : Int32) (x4 : Int32) (x6 : Int64) {H : Heap} {locs : List Loc} {ls : Array Slot}, Xt ad b1 ν a2 → WP z G b1 (a1, a2, ρ, lo) H → va_S (Az z) s.heap H locs → lv_has ls 10 [(0, .ref (b1 0 0)), (1, .ref (b1 100 0)), (2, .int p2), (3, .int x3), (4, .int x4), (6, .long x6)] → jL_isRefused_814 p2 post a1 a2 ρ x3 x4 x6 → W p l e ({ frames := 12, cells := 478, slots := 6481, locals := 296 } : Room) s m args below meth c H locs kc ks (MQ below (Qia z G (fun r S1 => ∃ (t : SG) (u : NU), S1.1 = (t, u, ρ, lo) ∧ Xt ad S1.2 ν u ∧ post r t u)) args s 478 6481 (Az z)) (F0 m 814 ls []) := by
  obtain ⟨hx, hb, hr, hml, hown, hts, hlocks, hE, hz⟩ := id X
  intro kc ks hB1 hB2 a1 a2 b1 x3 x4 x6 H locs ls hX9 hW hS hl h
  unfold jL_isRefused_814 at h
  refine lv_aload_n hx hb dL_isRefused_814 rfl (lv_at hl 1 rfl) ?_
  refine lv_iconst (v := (3 : Int32)) hx hb dL_isRefused_815 (by decide) ?_
  obtain ⟨b19, h⟩ := h
  refine r_iald hx hb hE hW 100 0 ⟨rfl, by decide, by decide⟩ (n := 14) (f := ρ 0) rfl b19 (v := ρ 0 ((3 : Int32)).toNatClampNeg) rfl dL_isRefused_816 ?_
  refine r_if_eq hx hb rfl (tgt := 865) dL_isRefused_817 (by decide) (fun c20 => ?_) (fun c20 => ?_)
  · have h := ite_t c20 h
    refine lv_iconst (v := (1 : Int32)) hx hb dL_isRefused_865 (by decide) ?_
    refine lv_goto (tgt := 870) hx hb dL_isRefused_866 (by decide) ?_
    exact tL_isRefused_870 (σ := σ) (ρ := ρ) X hlt p2 post  _ _ (by omega) (by omega) a1 a2 b1 x6 ((1 : Int32)) hX9 hW hS (lv_sub hl [0, 1, 5] rfl) h
  · have h := ite_f c20 h
    refine lv_aload_n hx hb dL_isRefused_820 rfl (lv_at hl 0 rfl) ?_
    refine lv_iconst (v := (4 : Int32)) hx hb dL_isRefused_821 (by decide) ?_
    refine lv_iconst (v := (5 : Int32)) hx hb dL_isRefused_822 (by decide) ?_
    refine lv_iconst (v := (0 : Int32)) hx hb dL_isRefused_823 (by decide) ?_
    refine lv_iload hx hb dL_isRefused_824 (lv_at hl 4 rfl) ?_
    refine lv_iconst (v := (0 : Int32)) hx hb dL_isRefused_826 (by decide) ?_
    refine kWA_Si (rest := []) (As := [.ref (b1 0 0), .int ((4 : Int32)), .int ((5 : Int32)), .int ((0 : Int32)), .int x4, .int ((0 : Int32))]) ⟨hx, hb, hml, hown, hts⟩ hE hz hS hW (mtL_does_4 l hlt z G b1 a1 a2 ρ lo ((5 : Int32)) ((0 : Int32)) x4 ((0 : Int32)) _ h) (vx_cwSW 6 hts gL_isRefused_L_does rfl rfl rfl (by decide +kernel) ⟨Nat.le_of_ble_eq_true rfl, Nat.le_of_ble_eq_true rfl⟩) rfl hl.1 rfl (Nat.le_of_ble_eq_true rfl) dL_isRefused_827 ⟨by show _ ≤ 478; omega, by show _ ≤ 6481; omega⟩ (fun r21 S1 ad24 H locs hp hW hS => ?_)
    obtain ⟨t22, vv23, rfl, q25, h⟩ := hp
    have z26 : ad24 0 0 = b1 0 0 := (q25 0 0 (by decide) rfl).2
    have z27 : ad24 100 0 = b1 100 0 := (q25 100 0 (by decide) ⟨rfl, by decide, by decide⟩).2
    have hl : lv_has ls 10 [(0, .ref (ad24 0 0)), (1, .ref (ad24 100 0)), (2, .int p2), (3, .int x3), (4, .int x4), (6, .long x6)] := by rw [z26, z27]; exact hl
    refine lv_sipush (v := (-1381 : Int32)) hx hb dL_isRefused_830 (by decide) ?_
    refine r_icmp_ne hx hb rfl (show (-1381 : Int32).toInt = (-1381) by decide) (tgt := 869) dL_isRefused_833 (by decide) (fun c28 => ?_) (fun c28 => ?_)
    · have h := ite_f c28 h
      refine lv_iconst (v := (0 : Int32)) hx hb dL_isRefused_869 (by decide) ?_
      exact tL_isRefused_870 (σ := σ) (ρ := ρ) X hlt p2 post  _ _ (by omega) (by omega) t22 vv23 ad24 x6 ((0 : Int32)) (Xt.tr hX9 q25) hW hS (lv_sub hl [0, 1, 5] rfl) h
    · have h := ite_t c28 h
      refine lv_aload_n hx hb dL_isRefused_836 rfl (lv_at hl 0 rfl) ?_
      refine lv_iconst (v := (4 : Int32)) hx hb dL_isRefused_837 (by decide) ?_
      refine lv_iconst (v := (4 : Int32)) hx hb dL_isRefused_838 (by decide) ?_
      refine lv_iconst (v := (0 : Int32)) hx hb dL_isRefused_839 (by decide) ?_
      refine lv_iload_n hx hb dL_isRefused_840 rfl (lv_at hl 3 rfl) ?_
      refine r_if_eq hx hb rfl (tgt := 853) dL_isRefused_841 (by decide) (fun c29 => ?_) (fun c29 => ?_)
      · have h := ite_t c29 h
        refine lv_bipush (v := (100 : Int32)) hx hb dL_isRefused_853 (by decide) ?_
        exact tL_isRefused_855 (σ := σ) (ρ := ρ) X hlt p2 post  _ _ (by omega) (by omega) t22 vv23 ad24 x6 0 ((100 : Int32)) (Xt.tr hX9 q25) hW hS (lv_sub hl [0, 1, 5] rfl) h
      · have h := ite_f c29 h
        refine lv_iconst (v := (0 : Int32)) hx hb dL_isRefused_844 (by decide) ?_
        refine lv_iload_n hx hb dL_isRefused_845 rfl (lv_at hl 2 rfl) ?_
        refine lv_bipush (v := (30 : Int32)) hx hb dL_isRefused_846 (by decide) ?_
        refine lv_irem hx hb dL_isRefused_848 (by decide) ?_
        refine lv_isub hx hb dL_isRefused_849 ?_
        refine lv_goto (tgt := 855) hx hb dL_isRefused_850 (by decide) ?_
        exact tL_isRefused_855 (σ := σ) (ρ := ρ) X hlt p2 post  _ _ (by omega) (by omega) t22 vv23 ad24 x6 0 (((0 : Int32)) - (p2 - p2 / ((30 : Int32)) * ((30 : Int32)))) (Xt.tr hX9 q25) hW hS (lv_sub hl [0, 1, 5] rfl) h
set_option maxHeartbeats 4000000 in
set_option maxRecDepth 100000 in
theorem tL_isRefused_802 {p : Program} {l : Launch} {e : Env} {s : State} {m : MethodId} {args : Array Value} {below : List Frame} {meth : Method} {c : Code} {z : Nat} {G : Gl} {ad : Nat → Nat → Nat} {σ : SG} {ν : NU} {ρ : RH} {lo : Int64} (X : Cx p l e s m args below meth c cL_isRefused (some .boolean) 10 RL wsL_isRefused z G) (hlt : l.stackTraces = false) (p2 : Int32)  (post : Int32 → SG → NU → Prop) : ∀ (kc ks : Nat), kc + 63 ≤ 478 → ks + 825 ≤ 6481 → ∀ (a1 : SG) (a2 : NU) (b1 : Nat → Nat → Nat) (x3 : Int32) (x4 : Int32) (x6 : Int64) (y0 : Nat) (y2 : Int32) {H : Heap} {locs : List Loc} {ls : Array Slot}, Xt ad b1 ν a2 → WP z G b1 (a1, a2, ρ, lo) H → va_S (Az z) s.heap H locs → lv_has ls 10 [(0, .ref (b1 0 0)), (1, .ref (b1 100 0)), (2, .int p2), (3, .int x3), (4, .int x4), (6, .long x6)] → jL_isRefused_802 p2 post a1 a2 ρ x3 x4 x6 y0 y2 → W p l e ({ frames := 12, cells := 478, slots := 6481, locals := 296 } : Room) s m args below meth c H locs kc ks (MQ below (Qia z G (fun r S1 => ∃ (t : SG) (u : NU), S1.1 = (t, u, ρ, lo) ∧ Xt ad S1.2 ν u ∧ post r t u)) args s 478 6481 (Az z)) (F0 m 802 ls [.int y2, .int ((4 : Int32)), .ref (b1 0 0)]) := by
  obtain ⟨hx, hb, hr, hml, hown, hts, hlocks, hE, hz⟩ := id X
  intro kc ks hB1 hB2 a1 a2 b1 x3 x4 x6 y0 y2 H locs ls hX9 hW hS hl h
  unfold jL_isRefused_802 at h
  refine lv_iconst (v := (0 : Int32)) hx hb dL_isRefused_802 (by decide) ?_
  refine lv_iconst (v := (0 : Int32)) hx hb dL_isRefused_803 (by decide) ?_
  refine lv_iconst (v := (0 : Int32)) hx hb dL_isRefused_804 (by decide) ?_
  refine kWA_Si (rest := []) (As := [.ref (b1 0 0), .int ((4 : Int32)), .int y2, .int ((0 : Int32)), .int ((0 : Int32)), .int ((0 : Int32))]) ⟨hx, hb, hml, hown, hts⟩ hE hz hS hW (mtL_does_4 l hlt z G b1 a1 a2 ρ lo y2 ((0 : Int32)) ((0 : Int32)) ((0 : Int32)) _ h) (vx_cwSW 6 hts gL_isRefused_L_does rfl rfl rfl (by decide +kernel) ⟨Nat.le_of_ble_eq_true rfl, Nat.le_of_ble_eq_true rfl⟩) rfl hl.1 rfl (Nat.le_of_ble_eq_true rfl) dL_isRefused_805 ⟨by show _ ≤ 478; omega, by show _ ≤ 6481; omega⟩ (fun r75 S1 ad78 H locs hp hW hS => ?_)
  obtain ⟨t76, vv77, rfl, q79, h⟩ := hp
  have z80 : ad78 0 0 = b1 0 0 := (q79 0 0 (by decide) rfl).2
  have z81 : ad78 100 0 = b1 100 0 := (q79 100 0 (by decide) ⟨rfl, by decide, by decide⟩).2
  have hl : lv_has ls 10 [(0, .ref (ad78 0 0)), (1, .ref (ad78 100 0)), (2, .int p2), (3, .int x3), (4, .int x4), (6, .long x6)] := by rw [z80, z81]; exact hl
  refine lv_sipush (v := (-1382 : Int32)) hx hb dL_isRefused_808 (by decide) ?_
  refine r_icmp_ne hx hb rfl (show (-1382 : Int32).toInt = (-1382) by decide) (tgt := 869) dL_isRefused_811 (by decide) (fun c82 => ?_) (fun c82 => ?_)
  · have h := ite_f c82 h
    refine lv_iconst (v := (0 : Int32)) hx hb dL_isRefused_869 (by decide) ?_
    exact tL_isRefused_870 (σ := σ) (ρ := ρ) X hlt p2 post  _ _ (by omega) (by omega) t76 vv77 ad78 x6 ((0 : Int32)) (Xt.tr hX9 q79) hW hS (lv_sub hl [0, 1, 5] rfl) h
  · have h := ite_t c82 h
    exact tL_isRefused_814 (σ := σ) (ρ := ρ) X hlt p2 post  _ _ (by omega) (by omega) t76 vv77 ad78 x3 x4 x6 (Xt.tr hX9 q79) hW hS (lv_sub hl [0, 1, 2, 3, 4, 5] rfl) h
set_option maxHeartbeats 4000000 in
set_option maxRecDepth 100000 in
theorem tL_isRefused_775 {p : Program} {l : Launch} {e : Env} {s : State} {m : MethodId} {args : Array Value} {below : List Frame} {meth : Method} {c : Code} {z : Nat} {G : Gl} {ad : Nat → Nat → Nat} {σ : SG} {ν : NU} {ρ : RH} {lo : Int64} (X : Cx p l e s m args below meth c cL_isRefused (some .boolean) 10 RL wsL_isRefused z G) (hlt : l.stackTraces = false) (p2 : Int32)  (post : Int32 → SG → NU → Prop) : ∀ (kc ks : Nat), kc + 74 ≤ 478 → ks + 1000 ≤ 6481 → ∀ (a1 : SG) (a2 : NU) (b1 : Nat → Nat → Nat) (x3 : Int32) (x4 : Int32) (x6 : Int64) (y0 : Nat) (y4 : Int32) {H : Heap} {locs : List Loc} {ls : Array Slot}, Xt ad b1 ν a2 → WP z G b1 (a1, a2, ρ, lo) H → va_S (Az z) s.heap H locs → lv_has ls 10 [(0, .ref (b1 0 0)), (1, .ref (b1 100 0)), (2, .int p2), (3, .int x3), (4, .int x4), (6, .long x6)] → jL_isRefused_775 p2 post a1 a2 ρ x3 x4 x6 y0 y4 → W p l e ({ frames := 12, cells := 478, slots := 6481, locals := 296 } : Room) s m args below meth c H locs kc ks (MQ below (Qia z G (fun r S1 => ∃ (t : SG) (u : NU), S1.1 = (t, u, ρ, lo) ∧ Xt ad S1.2 ν u ∧ post r t u)) args s 478 6481 (Az z)) (F0 m 775 ls [.int y4, .int ((5 : Int32)), .int ((0 : Int32)), .int ((3 : Int32)), .ref (b1 0 0)]) := by
  obtain ⟨hx, hb, hr, hml, hown, hts, hlocks, hE, hz⟩ := id X
  intro kc ks hB1 hB2 a1 a2 b1 x3 x4 x6 y0 y4 H locs ls hX9 hW hS hl h
  unfold jL_isRefused_775 at h
  refine lv_iconst (v := (0 : Int32)) hx hb dL_isRefused_775 (by decide) ?_
  refine kWA_Si (rest := []) (As := [.ref (b1 0 0), .int ((3 : Int32)), .int ((0 : Int32)), .int ((5 : Int32)), .int y4, .int ((0 : Int32))]) ⟨hx, hb, hml, hown, hts⟩ hE hz hS hW (mtL_silent_3 l hlt z G b1 a1 a2 ρ lo ((0 : Int32)) ((5 : Int32)) y4 ((0 : Int32)) _ h) (vx_cwSW 6 hts gL_isRefused_L_silent rfl rfl rfl (by decide +kernel) ⟨Nat.le_of_ble_eq_true rfl, Nat.le_of_ble_eq_true rfl⟩) rfl hl.1 rfl (Nat.le_of_ble_eq_true rfl) dL_isRefused_776 ⟨by show _ ≤ 478; omega, by show _ ≤ 6481; omega⟩ (fun r66 S1 ad69 H locs hp hW hS => ?_)
  obtain ⟨t67, vv68, rfl, q70, h⟩ := hp
  have z71 : ad69 0 0 = b1 0 0 := (q70 0 0 (by decide) rfl).2
  have z72 : ad69 100 0 = b1 100 0 := (q70 100 0 (by decide) ⟨rfl, by decide, by decide⟩).2
  have hl : lv_has ls 10 [(0, .ref (ad69 0 0)), (1, .ref (ad69 100 0)), (2, .int p2), (3, .int x3), (4, .int x4), (6, .long x6)] := by rw [z71, z72]; exact hl
  refine lv_sipush (v := (-1382 : Int32)) hx hb dL_isRefused_779 (by decide) ?_
  refine r_icmp_ne hx hb rfl (show (-1382 : Int32).toInt = (-1382) by decide) (tgt := 869) dL_isRefused_782 (by decide) (fun c73 => ?_) (fun c73 => ?_)
  · have h := ite_f c73 h
    refine lv_iconst (v := (0 : Int32)) hx hb dL_isRefused_869 (by decide) ?_
    exact tL_isRefused_870 (σ := σ) (ρ := ρ) X hlt p2 post  _ _ (by omega) (by omega) t67 vv68 ad69 x6 ((0 : Int32)) (Xt.tr hX9 q70) hW hS (lv_sub hl [0, 1, 5] rfl) h
  · have h := ite_t c73 h
    refine lv_aload_n hx hb dL_isRefused_785 rfl (lv_at hl 0 rfl) ?_
    refine lv_iconst (v := (4 : Int32)) hx hb dL_isRefused_786 (by decide) ?_
    refine lv_iload_n hx hb dL_isRefused_787 rfl (lv_at hl 3 rfl) ?_
    refine r_if_eq hx hb rfl (tgt := 800) dL_isRefused_788 (by decide) (fun c74 => ?_) (fun c74 => ?_)
    · have h := ite_t c74 h
      refine lv_bipush (v := (8 : Int32)) hx hb dL_isRefused_800 (by decide) ?_
      exact tL_isRefused_802 (σ := σ) (ρ := ρ) X hlt p2 post  _ _ (by omega) (by omega) t67 vv68 ad69 x3 x4 x6 0 ((8 : Int32)) (Xt.tr hX9 q70) hW hS (lv_sub hl [0, 1, 2, 3, 4, 5] rfl) h
    · have h := ite_f c74 h
      refine lv_iconst (v := (0 : Int32)) hx hb dL_isRefused_791 (by decide) ?_
      refine lv_iload_n hx hb dL_isRefused_792 rfl (lv_at hl 2 rfl) ?_
      refine lv_bipush (v := (30 : Int32)) hx hb dL_isRefused_793 (by decide) ?_
      refine lv_irem hx hb dL_isRefused_795 (by decide) ?_
      refine lv_isub hx hb dL_isRefused_796 ?_
      refine lv_goto (tgt := 802) hx hb dL_isRefused_797 (by decide) ?_
      exact tL_isRefused_802 (σ := σ) (ρ := ρ) X hlt p2 post  _ _ (by omega) (by omega) t67 vv68 ad69 x3 x4 x6 0 (((0 : Int32)) - (p2 - p2 / ((30 : Int32)) * ((30 : Int32)))) (Xt.tr hX9 q70) hW hS (lv_sub hl [0, 1, 2, 3, 4, 5] rfl) h
set_option maxHeartbeats 4000000 in
set_option maxRecDepth 100000 in
theorem tL_isRefused_742 {p : Program} {l : Launch} {e : Env} {s : State} {m : MethodId} {args : Array Value} {below : List Frame} {meth : Method} {c : Code} {z : Nat} {G : Gl} {ad : Nat → Nat → Nat} {σ : SG} {ν : NU} {ρ : RH} {lo : Int64} (X : Cx p l e s m args below meth c cL_isRefused (some .boolean) 10 RL wsL_isRefused z G) (hlt : l.stackTraces = false) (p2 : Int32)  (post : Int32 → SG → NU → Prop) : ∀ (kc ks : Nat), kc + 85 ≤ 478 → ks + 1175 ≤ 6481 → ∀ (a1 : SG) (a2 : NU) (b1 : Nat → Nat → Nat) (x3 : Int32) (x4 : Int32) (x6 : Int64) (y0 : Nat) (y3 : Int32) {H : Heap} {locs : List Loc} {ls : Array Slot}, Xt ad b1 ν a2 → WP z G b1 (a1, a2, ρ, lo) H → va_S (Az z) s.heap H locs → lv_has ls 10 [(0, .ref (b1 0 0)), (1, .ref (b1 100 0)), (2, .int p2), (3, .int x3), (4, .int x4), (6, .long x6)] → jL_isRefused_742 p2 post a1 a2 ρ x3 x4 x6 y0 y3 → W p l e ({ frames := 12, cells := 478, slots := 6481, locals := 296 } : Room) s m args below meth c H locs kc ks (MQ below (Qia z G (fun r S1 => ∃ (t : SG) (u : NU), S1.1 = (t, u, ρ, lo) ∧ Xt ad S1.2 ν u ∧ post r t u)) args s 478 6481 (Az z)) (F0 m 742 ls [.int y3, .int ((0 : Int32)), .int ((3 : Int32)), .ref (b1 0 0)]) := by
  obtain ⟨hx, hb, hr, hml, hown, hts, hlocks, hE, hz⟩ := id X
  intro kc ks hB1 hB2 a1 a2 b1 x3 x4 x6 y0 y3 H locs ls hX9 hW hS hl h
  unfold jL_isRefused_742 at h
  refine lv_sipush (v := (5001 : Int32)) hx hb dL_isRefused_742 (by decide) ?_
  refine lv_iconst (v := (0 : Int32)) hx hb dL_isRefused_745 (by decide) ?_
  refine kWA_Si (rest := []) (As := [.ref (b1 0 0), .int ((3 : Int32)), .int ((0 : Int32)), .int y3, .int ((5001 : Int32)), .int ((0 : Int32))]) ⟨hx, hb, hml, hown, hts⟩ hE hz hS hW (mtL_silent_3 l hlt z G b1 a1 a2 ρ lo ((0 : Int32)) y3 ((5001 : Int32)) ((0 : Int32)) _ h) (vx_cwSW 6 hts gL_isRefused_L_silent rfl rfl rfl (by decide +kernel) ⟨Nat.le_of_ble_eq_true rfl, Nat.le_of_ble_eq_true rfl⟩) rfl hl.1 rfl (Nat.le_of_ble_eq_true rfl) dL_isRefused_746 ⟨by show _ ≤ 478; omega, by show _ ≤ 6481; omega⟩ (fun r57 S1 ad60 H locs hp hW hS => ?_)
  obtain ⟨t58, vv59, rfl, q61, h⟩ := hp
  have z62 : ad60 0 0 = b1 0 0 := (q61 0 0 (by decide) rfl).2
  have z63 : ad60 100 0 = b1 100 0 := (q61 100 0 (by decide) ⟨rfl, by decide, by decide⟩).2
  have hl : lv_has ls 10 [(0, .ref (ad60 0 0)), (1, .ref (ad60 100 0)), (2, .int p2), (3, .int x3), (4, .int x4), (6, .long x6)] := by rw [z62, z63]; exact hl
  refine lv_sipush (v := (-1382 : Int32)) hx hb dL_isRefused_749 (by decide) ?_
  refine r_icmp_ne hx hb rfl (show (-1382 : Int32).toInt = (-1382) by decide) (tgt := 869) dL_isRefused_752 (by decide) (fun c64 => ?_) (fun c64 => ?_)
  · have h := ite_f c64 h
    refine lv_iconst (v := (0 : Int32)) hx hb dL_isRefused_869 (by decide) ?_
    exact tL_isRefused_870 (σ := σ) (ρ := ρ) X hlt p2 post  _ _ (by omega) (by omega) t58 vv59 ad60 x6 ((0 : Int32)) (Xt.tr hX9 q61) hW hS (lv_sub hl [0, 1, 5] rfl) h
  · have h := ite_t c64 h
    refine lv_aload_n hx hb dL_isRefused_755 rfl (lv_at hl 0 rfl) ?_
    refine lv_iconst (v := (3 : Int32)) hx hb dL_isRefused_756 (by decide) ?_
    refine lv_iconst (v := (0 : Int32)) hx hb dL_isRefused_757 (by decide) ?_
    refine lv_iconst (v := (5 : Int32)) hx hb dL_isRefused_758 (by decide) ?_
    refine lv_iload_n hx hb dL_isRefused_759 rfl (lv_at hl 3 rfl) ?_
    refine r_if_eq hx hb rfl (tgt := 772) dL_isRefused_760 (by decide) (fun c65 => ?_) (fun c65 => ?_)
    · have h := ite_t c65 h
      refine lv_sipush (v := (5001 : Int32)) hx hb dL_isRefused_772 (by decide) ?_
      exact tL_isRefused_775 (σ := σ) (ρ := ρ) X hlt p2 post  _ _ (by omega) (by omega) t58 vv59 ad60 x3 x4 x6 0 ((5001 : Int32)) (Xt.tr hX9 q61) hW hS (lv_sub hl [0, 1, 2, 3, 4, 5] rfl) h
    · have h := ite_f c65 h
      refine lv_iconst (v := (4 : Int32)) hx hb dL_isRefused_763 (by decide) ?_
      refine lv_iload_n hx hb dL_isRefused_764 rfl (lv_at hl 2 rfl) ?_
      refine lv_bipush (v := (30 : Int32)) hx hb dL_isRefused_765 (by decide) ?_
      refine lv_irem hx hb dL_isRefused_767 (by decide) ?_
      refine lv_isub hx hb dL_isRefused_768 ?_
      refine lv_goto (tgt := 775) hx hb dL_isRefused_769 (by decide) ?_
      exact tL_isRefused_775 (σ := σ) (ρ := ρ) X hlt p2 post  _ _ (by omega) (by omega) t58 vv59 ad60 x3 x4 x6 0 (((4 : Int32)) - (p2 - p2 / ((30 : Int32)) * ((30 : Int32)))) (Xt.tr hX9 q61) hW hS (lv_sub hl [0, 1, 2, 3, 4, 5] rfl) h
set_option maxHeartbeats 4000000 in
set_option maxRecDepth 100000 in
theorem tL_isRefused_712 {p : Program} {l : Launch} {e : Env} {s : State} {m : MethodId} {args : Array Value} {below : List Frame} {meth : Method} {c : Code} {z : Nat} {G : Gl} {ad : Nat → Nat → Nat} {σ : SG} {ν : NU} {ρ : RH} {lo : Int64} (X : Cx p l e s m args below meth c cL_isRefused (some .boolean) 10 RL wsL_isRefused z G) (hlt : l.stackTraces = false) (p2 : Int32)  (post : Int32 → SG → NU → Prop) : ∀ (kc ks : Nat), kc + 95 ≤ 478 → ks + 1344 ≤ 6481 → ∀ (a1 : SG) (a2 : NU) (b1 : Nat → Nat → Nat) (x3 : Int32) (x4 : Int32) (x6 : Int64) (y0 : Nat) (y3 : Int32) {H : Heap} {locs : List Loc} {ls : Array Slot}, Xt ad b1 ν a2 → WP z G b1 (a1, a2, ρ, lo) H → va_S (Az z) s.heap H locs → lv_has ls 10 [(0, .ref (b1 0 0)), (1, .ref (b1 100 0)), (2, .int p2), (3, .int x3), (4, .int x4), (6, .long x6)] → jL_isRefused_712 p2 post a1 a2 ρ x3 x4 x6 y0 y3 → W p l e ({ frames := 12, cells := 478, slots := 6481, locals := 296 } : Room) s m args below meth c H locs kc ks (MQ below (Qia z G (fun r S1 => ∃ (t : SG) (u : NU), S1.1 = (t, u, ρ, lo) ∧ Xt ad S1.2 ν u ∧ post r t u)) args s 478 6481 (Az z)) (F0 m 712 ls [.int y3, .int ((0 : Int32)), .int ((2 : Int32)), .ref (b1 0 0)]) := by
  obtain ⟨hx, hb, hr, hml, hown, hts, hlocks, hE, hz⟩ := id X
  intro kc ks hB1 hB2 a1 a2 b1 x3 x4 x6 y0 y3 H locs ls hX9 hW hS hl h
  unfold jL_isRefused_712 at h
  refine lv_iconst (v := (0 : Int32)) hx hb dL_isRefused_712 (by decide) ?_
  refine lv_iconst (v := (0 : Int32)) hx hb dL_isRefused_713 (by decide) ?_
  refine kWA_Si (rest := []) (As := [.ref (b1 0 0), .int ((2 : Int32)), .int ((0 : Int32)), .int y3, .int ((0 : Int32)), .int ((0 : Int32))]) ⟨hx, hb, hml, hown, hts⟩ hE hz hS hW (mtL_silent_2 l hlt z G b1 a1 a2 ρ lo ((0 : Int32)) y3 ((0 : Int32)) ((0 : Int32)) _ h) (vx_cwSW 6 hts gL_isRefused_L_silent rfl rfl rfl (by decide +kernel) ⟨Nat.le_of_ble_eq_true rfl, Nat.le_of_ble_eq_true rfl⟩) rfl hl.1 rfl (Nat.le_of_ble_eq_true rfl) dL_isRefused_714 ⟨by show _ ≤ 478; omega, by show _ ≤ 6481; omega⟩ (fun r48 S1 ad51 H locs hp hW hS => ?_)
  obtain ⟨t49, vv50, rfl, q52, h⟩ := hp
  have z53 : ad51 0 0 = b1 0 0 := (q52 0 0 (by decide) rfl).2
  have z54 : ad51 100 0 = b1 100 0 := (q52 100 0 (by decide) ⟨rfl, by decide, by decide⟩).2
  have hl : lv_has ls 10 [(0, .ref (ad51 0 0)), (1, .ref (ad51 100 0)), (2, .int p2), (3, .int x3), (4, .int x4), (6, .long x6)] := by rw [z53, z54]; exact hl
  refine lv_sipush (v := (-1382 : Int32)) hx hb dL_isRefused_717 (by decide) ?_
  refine r_icmp_ne hx hb rfl (show (-1382 : Int32).toInt = (-1382) by decide) (tgt := 869) dL_isRefused_720 (by decide) (fun c55 => ?_) (fun c55 => ?_)
  · have h := ite_f c55 h
    refine lv_iconst (v := (0 : Int32)) hx hb dL_isRefused_869 (by decide) ?_
    exact tL_isRefused_870 (σ := σ) (ρ := ρ) X hlt p2 post  _ _ (by omega) (by omega) t49 vv50 ad51 x6 ((0 : Int32)) (Xt.tr hX9 q52) hW hS (lv_sub hl [0, 1, 5] rfl) h
  · have h := ite_t c55 h
    refine lv_aload_n hx hb dL_isRefused_723 rfl (lv_at hl 0 rfl) ?_
    refine lv_iconst (v := (3 : Int32)) hx hb dL_isRefused_724 (by decide) ?_
    refine lv_iconst (v := (0 : Int32)) hx hb dL_isRefused_725 (by decide) ?_
    refine lv_iload_n hx hb dL_isRefused_726 rfl (lv_at hl 3 rfl) ?_
    refine r_if_eq hx hb rfl (tgt := 739) dL_isRefused_727 (by decide) (fun c56 => ?_) (fun c56 => ?_)
    · have h := ite_t c56 h
      refine lv_sipush (v := (5001 : Int32)) hx hb dL_isRefused_739 (by decide) ?_
      exact tL_isRefused_742 (σ := σ) (ρ := ρ) X hlt p2 post  _ _ (by omega) (by omega) t49 vv50 ad51 x3 x4 x6 0 ((5001 : Int32)) (Xt.tr hX9 q52) hW hS (lv_sub hl [0, 1, 2, 3, 4, 5] rfl) h
    · have h := ite_f c56 h
      refine lv_iconst (v := (-1 : Int32)) hx hb dL_isRefused_730 (by decide) ?_
      refine lv_iload_n hx hb dL_isRefused_731 rfl (lv_at hl 2 rfl) ?_
      refine lv_bipush (v := (30 : Int32)) hx hb dL_isRefused_732 (by decide) ?_
      refine lv_irem hx hb dL_isRefused_734 (by decide) ?_
      refine lv_isub hx hb dL_isRefused_735 ?_
      refine lv_goto (tgt := 742) hx hb dL_isRefused_736 (by decide) ?_
      exact tL_isRefused_742 (σ := σ) (ρ := ρ) X hlt p2 post  _ _ (by omega) (by omega) t49 vv50 ad51 x3 x4 x6 0 (((-1 : Int32)) - (p2 - p2 / ((30 : Int32)) * ((30 : Int32)))) (Xt.tr hX9 q52) hW hS (lv_sub hl [0, 1, 2, 3, 4, 5] rfl) h
set_option maxHeartbeats 4000000 in
set_option maxRecDepth 100000 in
theorem tL_isRefused_682 {p : Program} {l : Launch} {e : Env} {s : State} {m : MethodId} {args : Array Value} {below : List Frame} {meth : Method} {c : Code} {z : Nat} {G : Gl} {ad : Nat → Nat → Nat} {σ : SG} {ν : NU} {ρ : RH} {lo : Int64} (X : Cx p l e s m args below meth c cL_isRefused (some .boolean) 10 RL wsL_isRefused z G) (hlt : l.stackTraces = false) (p2 : Int32)  (post : Int32 → SG → NU → Prop) : ∀ (kc ks : Nat), kc + 105 ≤ 478 → ks + 1513 ≤ 6481 → ∀ (a1 : SG) (a2 : NU) (b1 : Nat → Nat → Nat) (x3 : Int32) (x4 : Int32) (x6 : Int64) (y0 : Nat) (y3 : Int32) {H : Heap} {locs : List Loc} {ls : Array Slot}, Xt ad b1 ν a2 → WP z G b1 (a1, a2, ρ, lo) H → va_S (Az z) s.heap H locs → lv_has ls 10 [(0, .ref (b1 0 0)), (1, .ref (b1 100 0)), (2, .int p2), (3, .int x3), (4, .int x4), (6, .long x6)] → jL_isRefused_682 p2 post a1 a2 ρ x3 x4 x6 y0 y3 → W p l e ({ frames := 12, cells := 478, slots := 6481, locals := 296 } : Room) s m args below meth c H locs kc ks (MQ below (Qia z G (fun r S1 => ∃ (t : SG) (u : NU), S1.1 = (t, u, ρ, lo) ∧ Xt ad S1.2 ν u ∧ post r t u)) args s 478 6481 (Az z)) (F0 m 682 ls [.int y3, .int ((0 : Int32)), .int ((1 : Int32)), .ref (b1 0 0)]) := by
  obtain ⟨hx, hb, hr, hml, hown, hts, hlocks, hE, hz⟩ := id X
  intro kc ks hB1 hB2 a1 a2 b1 x3 x4 x6 y0 y3 H locs ls hX9 hW hS hl h
  unfold jL_isRefused_682 at h
  refine lv_iconst (v := (0 : Int32)) hx hb dL_isRefused_682 (by decide) ?_
  refine lv_iconst (v := (0 : Int32)) hx hb dL_isRefused_683 (by decide) ?_
  refine kWA_Si (rest := []) (As := [.ref (b1 0 0), .int ((1 : Int32)), .int ((0 : Int32)), .int y3, .int ((0 : Int32)), .int ((0 : Int32))]) ⟨hx, hb, hml, hown, hts⟩ hE hz hS hW (mtL_silent_1 l hlt z G b1 a1 a2 ρ lo ((0 : Int32)) y3 ((0 : Int32)) ((0 : Int32)) _ h) (vx_cwSW 6 hts gL_isRefused_L_silent rfl rfl rfl (by decide +kernel) ⟨Nat.le_of_ble_eq_true rfl, Nat.le_of_ble_eq_true rfl⟩) rfl hl.1 rfl (Nat.le_of_ble_eq_true rfl) dL_isRefused_684 ⟨by show _ ≤ 478; omega, by show _ ≤ 6481; omega⟩ (fun r39 S1 ad42 H locs hp hW hS => ?_)
  obtain ⟨t40, vv41, rfl, q43, h⟩ := hp
  have z44 : ad42 0 0 = b1 0 0 := (q43 0 0 (by decide) rfl).2
  have z45 : ad42 100 0 = b1 100 0 := (q43 100 0 (by decide) ⟨rfl, by decide, by decide⟩).2
  have hl : lv_has ls 10 [(0, .ref (ad42 0 0)), (1, .ref (ad42 100 0)), (2, .int p2), (3, .int x3), (4, .int x4), (6, .long x6)] := by rw [z44, z45]; exact hl
  refine lv_sipush (v := (-1382 : Int32)) hx hb dL_isRefused_687 (by decide) ?_
  refine r_icmp_ne hx hb rfl (show (-1382 : Int32).toInt = (-1382) by decide) (tgt := 869) dL_isRefused_690 (by decide) (fun c46 => ?_) (fun c46 => ?_)
  · have h := ite_f c46 h
    refine lv_iconst (v := (0 : Int32)) hx hb dL_isRefused_869 (by decide) ?_
    exact tL_isRefused_870 (σ := σ) (ρ := ρ) X hlt p2 post  _ _ (by omega) (by omega) t40 vv41 ad42 x6 ((0 : Int32)) (Xt.tr hX9 q43) hW hS (lv_sub hl [0, 1, 5] rfl) h
  · have h := ite_t c46 h
    refine lv_aload_n hx hb dL_isRefused_693 rfl (lv_at hl 0 rfl) ?_
    refine lv_iconst (v := (2 : Int32)) hx hb dL_isRefused_694 (by decide) ?_
    refine lv_iconst (v := (0 : Int32)) hx hb dL_isRefused_695 (by decide) ?_
    refine lv_iload_n hx hb dL_isRefused_696 rfl (lv_at hl 3 rfl) ?_
    refine r_if_eq hx hb rfl (tgt := 704) dL_isRefused_697 (by decide) (fun c47 => ?_) (fun c47 => ?_)
    · have h := ite_t c47 h
      refine lv_sipush (v := (5001 : Int32)) hx hb dL_isRefused_704 (by decide) ?_
      refine lv_iload_n hx hb dL_isRefused_707 rfl (lv_at hl 2 rfl) ?_
      refine lv_bipush (v := (30 : Int32)) hx hb dL_isRefused_708 (by decide) ?_
      refine lv_irem hx hb dL_isRefused_710 (by decide) ?_
      refine lv_iadd hx hb dL_isRefused_711 ?_
      exact tL_isRefused_712 (σ := σ) (ρ := ρ) X hlt p2 post  _ _ (by omega) (by omega) t40 vv41 ad42 x3 x4 x6 0 (((5001 : Int32)) + (p2 - p2 / ((30 : Int32)) * ((30 : Int32)))) (Xt.tr hX9 q43) hW hS (lv_sub hl [0, 1, 2, 3, 4, 5] rfl) h
    · have h := ite_f c47 h
      refine lv_iconst (v := (-1 : Int32)) hx hb dL_isRefused_700 (by decide) ?_
      refine lv_goto (tgt := 712) hx hb dL_isRefused_701 (by decide) ?_
      exact tL_isRefused_712 (σ := σ) (ρ := ρ) X hlt p2 post  _ _ (by omega) (by omega) t40 vv41 ad42 x3 x4 x6 0 ((-1 : Int32)) (Xt.tr hX9 q43) hW hS (lv_sub hl [0, 1, 2, 3, 4, 5] rfl) h
set_option maxHeartbeats 4000000 in
set_option maxRecDepth 100000 in
theorem tL_isRefused_650 {p : Program} {l : Launch} {e : Env} {s : State} {m : MethodId} {args : Array Value} {below : List Frame} {meth : Method} {c : Code} {z : Nat} {G : Gl} {ad : Nat → Nat → Nat} {σ : SG} {ν : NU} {ρ : RH} {lo : Int64} (X : Cx p l e s m args below meth c cL_isRefused (some .boolean) 10 RL wsL_isRefused z G) (hlt : l.stackTraces = false) (p2 : Int32)  (post : Int32 → SG → NU → Prop) : ∀ (kc ks : Nat), kc + 105 ≤ 478 → ks + 1513 ≤ 6481 → ∀ (a1 : SG) (a2 : NU) (b1 : Nat → Nat → Nat) (x3 : Int32) (x4 : Int32) (x6 : Int64) (y0 : Int32) {H : Heap} {locs : List Loc} {ls : Array Slot}, Xt ad b1 ν a2 → WP z G b1 (a1, a2, ρ, lo) H → va_S (Az z) s.heap H locs → lv_has ls 10 [(0, .ref (b1 0 0)), (1, .ref (b1 100 0)), (2, .int p2), (3, .int x3), (4, .int x4), (6, .long x6)] → jL_isRefused_650 p2 post a1 a2 ρ x3 x4 x6 y0 → W p l e ({ frames := 12, cells := 478, slots := 6481, locals := 296 } : Room) s m args below meth c H locs kc ks (MQ below (Qia z G (fun r S1 => ∃ (t : SG) (u : NU), S1.1 = (t, u, ρ, lo) ∧ Xt ad S1.2 ν u ∧ post r t u)) args s 478 6481 (Az z)) (F0 m 650 ls [.int y0]) := by
  obtain ⟨hx, hb, hr, hml, hown, hts, hlocks, hE, hz⟩ := id X
  intro kc ks hB1 hB2 a1 a2 b1 x3 x4 x6 y0 H locs ls hX9 hW hS hl h
  unfold jL_isRefused_650 at h
  refine lv_istore (lv' := [(8, .int y0), (0, .ref (b1 0 0)), (1, .ref (b1 100 0)), (2, .int p2), (3, .int x3), (4, .int x4), (6, .long x6)]) hx hb dL_isRefused_650 hl (by decide) rfl (fun ls hl => ?_)
  refine lv_iload hx hb dL_isRefused_652 (lv_at hl 0 rfl) ?_
  refine r_if_eq hx hb rfl (tgt := 869) dL_isRefused_654 (by decide) (fun c13 => ?_) (fun c13 => ?_)
  · have h := ite_t c13 h
    refine lv_iconst (v := (0 : Int32)) hx hb dL_isRefused_869 (by decide) ?_
    exact tL_isRefused_870 (σ := σ) (ρ := ρ) X hlt p2 post  _ _ (by omega) (by omega) a1 a2 b1 x6 ((0 : Int32)) hX9 hW hS (lv_sub hl [1, 2, 6] rfl) h
  · have h := ite_f c13 h
    refine lv_aload_n hx hb dL_isRefused_657 rfl (lv_at hl 2 rfl) ?_
    refine lv_iconst (v := (2 : Int32)) hx hb dL_isRefused_658 (by decide) ?_
    obtain ⟨b17, h⟩ := h
    refine r_iald hx hb hE hW 100 0 ⟨rfl, by decide, by decide⟩ (n := 14) (f := ρ 0) rfl b17 (v := ρ 0 ((2 : Int32)).toNatClampNeg) rfl dL_isRefused_659 ?_
    refine r_if_eq hx hb rfl (tgt := 814) dL_isRefused_660 (by decide) (fun c18 => ?_) (fun c18 => ?_)
    · have h := ite_t c18 h
      exact tL_isRefused_814 (σ := σ) (ρ := ρ) X hlt p2 post  _ _ (by omega) (by omega) a1 a2 b1 x3 x4 x6 hX9 hW hS (lv_sub hl [1, 2, 3, 4, 5, 6] rfl) h
    · have h := ite_f c18 h
      refine lv_aload_n hx hb dL_isRefused_663 rfl (lv_at hl 1 rfl) ?_
      refine lv_iconst (v := (1 : Int32)) hx hb dL_isRefused_664 (by decide) ?_
      refine lv_iconst (v := (0 : Int32)) hx hb dL_isRefused_665 (by decide) ?_
      refine lv_iload_n hx hb dL_isRefused_666 rfl (lv_at hl 4 rfl) ?_
      refine r_if_eq hx hb rfl (tgt := 679) dL_isRefused_667 (by decide) (fun c38 => ?_) (fun c38 => ?_)
      · have h := ite_t c38 h
        refine lv_sipush (v := (5001 : Int32)) hx hb dL_isRefused_679 (by decide) ?_
        exact tL_isRefused_682 (σ := σ) (ρ := ρ) X hlt p2 post  _ _ (by omega) (by omega) a1 a2 b1 x3 x4 x6 0 ((5001 : Int32)) hX9 hW hS (lv_sub hl [1, 2, 3, 4, 5, 6] rfl) h
      · have h := ite_f c38 h
        refine lv_iconst (v := (-1 : Int32)) hx hb dL_isRefused_670 (by decide) ?_
        refine lv_iload_n hx hb dL_isRefused_671 rfl (lv_at hl 3 rfl) ?_
        refine lv_bipush (v := (30 : Int32)) hx hb dL_isRefused_672 (by decide) ?_
        refine lv_irem hx hb dL_isRefused_674 (by decide) ?_
        refine lv_isub hx hb dL_isRefused_675 ?_
        refine lv_goto (tgt := 682) hx hb dL_isRefused_676 (by decide) ?_
        exact tL_isRefused_682 (σ := σ) (ρ := ρ) X hlt p2 post  _ _ (by omega) (by omega) a1 a2 b1 x3 x4 x6 0 (((-1 : Int32)) - (p2 - p2 / ((30 : Int32)) * ((30 : Int32)))) hX9 hW hS (lv_sub hl [1, 2, 3, 4, 5, 6] rfl) h
set_option maxHeartbeats 4000000 in
set_option maxRecDepth 100000 in
theorem tL_isRefused_588 {p : Program} {l : Launch} {e : Env} {s : State} {m : MethodId} {args : Array Value} {below : List Frame} {meth : Method} {c : Code} {z : Nat} {G : Gl} {ad : Nat → Nat → Nat} {σ : SG} {ν : NU} {ρ : RH} {lo : Int64} (X : Cx p l e s m args below meth c cL_isRefused (some .boolean) 10 RL wsL_isRefused z G) (hlt : l.stackTraces = false) (p2 : Int32)  (post : Int32 → SG → NU → Prop) : ∀ (kc ks : Nat), kc + 140 ≤ 478 → ks + 2048 ≤ 6481 → ∀ (a1 : SG) (a2 : NU) (b1 : Nat → Nat → Nat) (x3 : Int32) (x4 : Int32) (x5 : Int32) (x6 : Int64) (y0 : Nat) (y5 : Int32) {H : Heap} {locs : List Loc} {ls : Array Slot}, Xt ad b1 ν a2 → WP z G b1 (a1, a2, ρ, lo) H → va_S (Az z) s.heap H locs → lv_has ls 10 [(0, .ref (b1 0 0)), (1, .ref (b1 100 0)), (2, .int p2), (3, .int x3), (4, .int x4), (5, .int x5), (6, .long x6)] → jL_isRefused_588 p2 post a1 a2 ρ x3 x4 x5 x6 y0 y5 → W p l e ({ frames := 12, cells := 478, slots := 6481, locals := 296 } : Room) s m args below meth c H locs kc ks (MQ below (Qia z G (fun r S1 => ∃ (t : SG) (u : NU), S1.1 = (t, u, ρ, lo) ∧ Xt ad S1.2 ν u ∧ post r t u)) args s 478 6481 (Az z)) (F0 m 588 ls [.int y5, .int ((7 : Int32)), .int ((0 : Int32)), .int ((0 : Int32)), .int ((0 : Int32)), .ref (b1 0 0)]) := by
  obtain ⟨hx, hb, hr, hml, hown, hts, hlocks, hE, hz⟩ := id X
  intro kc ks hB1 hB2 a1 a2 b1 x3 x4 x5 x6 y0 y5 H locs ls hX9 hW hS hl h
  unfold jL_isRefused_588 at h
  refine kWA_Si (rest := []) (As := [.ref (b1 0 0), .int ((0 : Int32)), .int ((0 : Int32)), .int ((0 : Int32)), .int ((7 : Int32)), .int y5]) ⟨hx, hb, hml, hown, hts⟩ hE hz hS hW (mtL_silent_0 l hlt z G b1 a1 a2 ρ lo ((0 : Int32)) ((0 : Int32)) ((7 : Int32)) y5 _ h) (vx_cwSW 6 hts gL_isRefused_L_silent rfl rfl rfl (by decide +kernel) ⟨Nat.le_of_ble_eq_true rfl, Nat.le_of_ble_eq_true rfl⟩) rfl hl.1 rfl (Nat.le_of_ble_eq_true rfl) dL_isRefused_588 ⟨by show _ ≤ 478; omega, by show _ ≤ 6481; omega⟩ (fun r123 S1 ad126 H locs hp hW hS => ?_)
  obtain ⟨t124, vv125, rfl, q127, h⟩ := hp
  have z128 : ad126 0 0 = b1 0 0 := (q127 0 0 (by decide) rfl).2
  have z129 : ad126 100 0 = b1 100 0 := (q127 100 0 (by decide) ⟨rfl, by decide, by decide⟩).2
  have hl : lv_has ls 10 [(0, .ref (ad126 0 0)), (1, .ref (ad126 100 0)), (2, .int p2), (3, .int x3), (4, .int x4), (5, .int x5), (6, .long x6)] := by rw [z128, z129]; exact hl
  refine lv_sipush (v := (-1382 : Int32)) hx hb dL_isRefused_591 (by decide) ?_
  refine r_icmp_ne hx hb rfl (show (-1382 : Int32).toInt = (-1382) by decide) (tgt := 649) dL_isRefused_594 (by decide) (fun c130 => ?_) (fun c130 => ?_)
  · have h := ite_f c130 h
    refine lv_iconst (v := (0 : Int32)) hx hb dL_isRefused_649 (by decide) ?_
    exact tL_isRefused_650 (σ := σ) (ρ := ρ) X hlt p2 post  _ _ (by omega) (by omega) t124 vv125 ad126 x3 x4 x6 ((0 : Int32)) (Xt.tr hX9 q127) hW hS (lv_sub hl [0, 1, 2, 3, 4, 6] rfl) h
  · have h := ite_t c130 h
    refine lv_aload_n hx hb dL_isRefused_597 rfl (lv_at hl 0 rfl) ?_
    refine lv_iconst (v := (1 : Int32)) hx hb dL_isRefused_598 (by decide) ?_
    refine lv_iload hx hb dL_isRefused_599 (lv_at hl 5 rfl) ?_
    refine lv_iconst (v := (-1 : Int32)) hx hb dL_isRefused_601 (by decide) ?_
    refine lv_iconst (v := (0 : Int32)) hx hb dL_isRefused_602 (by decide) ?_
    refine lv_iconst (v := (0 : Int32)) hx hb dL_isRefused_603 (by decide) ?_
    refine kWA_Si (rest := []) (As := [.ref (ad126 0 0), .int ((1 : Int32)), .int x5, .int ((-1 : Int32)), .int ((0 : Int32)), .int ((0 : Int32))]) ⟨hx, hb, hml, hown, hts⟩ hE hz hS hW (mtL_silent_1 l hlt z G ad126 t124 vv125 ρ lo x5 ((-1 : Int32)) ((0 : Int32)) ((0 : Int32)) _ h) (vx_cwSW 6 hts gL_isRefused_L_silent rfl rfl rfl (by decide +kernel) ⟨Nat.le_of_ble_eq_true rfl, Nat.le_of_ble_eq_true rfl⟩) rfl hl.1 rfl (Nat.le_of_ble_eq_true rfl) dL_isRefused_604 ⟨by show _ ≤ 478; omega, by show _ ≤ 6481; omega⟩ (fun r131 S1 ad134 H locs hp hW hS => ?_)
    obtain ⟨t132, vv133, rfl, q135, h⟩ := hp
    have z136 : ad134 0 0 = ad126 0 0 := (q135 0 0 (by decide) rfl).2
    have z137 : ad134 100 0 = ad126 100 0 := (q135 100 0 (by decide) ⟨rfl, by decide, by decide⟩).2
    have hl : lv_has ls 10 [(0, .ref (ad134 0 0)), (1, .ref (ad134 100 0)), (2, .int p2), (3, .int x3), (4, .int x4), (5, .int x5), (6, .long x6)] := by rw [z136, z137]; exact hl
    refine lv_sipush (v := (-1381 : Int32)) hx hb dL_isRefused_607 (by decide) ?_
    refine r_icmp_ne hx hb rfl (show (-1381 : Int32).toInt = (-1381) by decide) (tgt := 649) dL_isRefused_610 (by decide) (fun c138 => ?_) (fun c138 => ?_)
    · have h := ite_f c138 h
      refine lv_iconst (v := (0 : Int32)) hx hb dL_isRefused_649 (by decide) ?_
      exact tL_isRefused_650 (σ := σ) (ρ := ρ) X hlt p2 post  _ _ (by omega) (by omega) t132 vv133 ad134 x3 x4 x6 ((0 : Int32)) (Xt.tr (Xt.tr hX9 q127) q135) hW hS (lv_sub hl [0, 1, 2, 3, 4, 6] rfl) h
    · have h := ite_t c138 h
      refine lv_aload_n hx hb dL_isRefused_613 rfl (lv_at hl 0 rfl) ?_
      refine lv_iconst (v := (2 : Int32)) hx hb dL_isRefused_614 (by decide) ?_
      refine lv_iload hx hb dL_isRefused_615 (lv_at hl 5 rfl) ?_
      refine lv_iconst (v := (-1 : Int32)) hx hb dL_isRefused_617 (by decide) ?_
      refine lv_iconst (v := (0 : Int32)) hx hb dL_isRefused_618 (by decide) ?_
      refine lv_iconst (v := (0 : Int32)) hx hb dL_isRefused_619 (by decide) ?_
      refine kWA_Si (rest := []) (As := [.ref (ad134 0 0), .int ((2 : Int32)), .int x5, .int ((-1 : Int32)), .int ((0 : Int32)), .int ((0 : Int32))]) ⟨hx, hb, hml, hown, hts⟩ hE hz hS hW (mtL_silent_2 l hlt z G ad134 t132 vv133 ρ lo x5 ((-1 : Int32)) ((0 : Int32)) ((0 : Int32)) _ h) (vx_cwSW 6 hts gL_isRefused_L_silent rfl rfl rfl (by decide +kernel) ⟨Nat.le_of_ble_eq_true rfl, Nat.le_of_ble_eq_true rfl⟩) rfl hl.1 rfl (Nat.le_of_ble_eq_true rfl) dL_isRefused_620 ⟨by show _ ≤ 478; omega, by show _ ≤ 6481; omega⟩ (fun r139 S1 ad142 H locs hp hW hS => ?_)
      obtain ⟨t140, vv141, rfl, q143, h⟩ := hp
      have z144 : ad142 0 0 = ad134 0 0 := (q143 0 0 (by decide) rfl).2
      have z145 : ad142 100 0 = ad134 100 0 := (q143 100 0 (by decide) ⟨rfl, by decide, by decide⟩).2
      have hl : lv_has ls 10 [(0, .ref (ad142 0 0)), (1, .ref (ad142 100 0)), (2, .int p2), (3, .int x3), (4, .int x4), (5, .int x5), (6, .long x6)] := by rw [z144, z145]; exact hl
      refine lv_sipush (v := (-1381 : Int32)) hx hb dL_isRefused_623 (by decide) ?_
      refine r_icmp_ne hx hb rfl (show (-1381 : Int32).toInt = (-1381) by decide) (tgt := 649) dL_isRefused_626 (by decide) (fun c146 => ?_) (fun c146 => ?_)
      · have h := ite_f c146 h
        refine lv_iconst (v := (0 : Int32)) hx hb dL_isRefused_649 (by decide) ?_
        exact tL_isRefused_650 (σ := σ) (ρ := ρ) X hlt p2 post  _ _ (by omega) (by omega) t140 vv141 ad142 x3 x4 x6 ((0 : Int32)) (Xt.tr (Xt.tr (Xt.tr hX9 q127) q135) q143) hW hS (lv_sub hl [0, 1, 2, 3, 4, 6] rfl) h
      · have h := ite_t c146 h
        refine lv_aload_n hx hb dL_isRefused_629 rfl (lv_at hl 0 rfl) ?_
        refine lv_iconst (v := (3 : Int32)) hx hb dL_isRefused_630 (by decide) ?_
        refine lv_iload hx hb dL_isRefused_631 (lv_at hl 5 rfl) ?_
        refine lv_iconst (v := (-1 : Int32)) hx hb dL_isRefused_633 (by decide) ?_
        refine lv_iconst (v := (0 : Int32)) hx hb dL_isRefused_634 (by decide) ?_
        refine lv_iconst (v := (0 : Int32)) hx hb dL_isRefused_635 (by decide) ?_
        refine kWA_Si (rest := []) (As := [.ref (ad142 0 0), .int ((3 : Int32)), .int x5, .int ((-1 : Int32)), .int ((0 : Int32)), .int ((0 : Int32))]) ⟨hx, hb, hml, hown, hts⟩ hE hz hS hW (mtL_silent_3 l hlt z G ad142 t140 vv141 ρ lo x5 ((-1 : Int32)) ((0 : Int32)) ((0 : Int32)) _ h) (vx_cwSW 6 hts gL_isRefused_L_silent rfl rfl rfl (by decide +kernel) ⟨Nat.le_of_ble_eq_true rfl, Nat.le_of_ble_eq_true rfl⟩) rfl hl.1 rfl (Nat.le_of_ble_eq_true rfl) dL_isRefused_636 ⟨by show _ ≤ 478; omega, by show _ ≤ 6481; omega⟩ (fun r147 S1 ad150 H locs hp hW hS => ?_)
        obtain ⟨t148, vv149, rfl, q151, h⟩ := hp
        have z152 : ad150 0 0 = ad142 0 0 := (q151 0 0 (by decide) rfl).2
        have z153 : ad150 100 0 = ad142 100 0 := (q151 100 0 (by decide) ⟨rfl, by decide, by decide⟩).2
        have hl : lv_has ls 10 [(0, .ref (ad150 0 0)), (1, .ref (ad150 100 0)), (2, .int p2), (3, .int x3), (4, .int x4), (5, .int x5), (6, .long x6)] := by rw [z152, z153]; exact hl
        refine lv_sipush (v := (-1381 : Int32)) hx hb dL_isRefused_639 (by decide) ?_
        refine r_icmp_ne hx hb rfl (show (-1381 : Int32).toInt = (-1381) by decide) (tgt := 649) dL_isRefused_642 (by decide) (fun c154 => ?_) (fun c154 => ?_)
        · have h := ite_f c154 h
          refine lv_iconst (v := (0 : Int32)) hx hb dL_isRefused_649 (by decide) ?_
          exact tL_isRefused_650 (σ := σ) (ρ := ρ) X hlt p2 post  _ _ (by omega) (by omega) t148 vv149 ad150 x3 x4 x6 ((0 : Int32)) (Xt.tr (Xt.tr (Xt.tr (Xt.tr hX9 q127) q135) q143) q151) hW hS (lv_sub hl [0, 1, 2, 3, 4, 6] rfl) h
        · have h := ite_t c154 h
          refine lv_iconst (v := (1 : Int32)) hx hb dL_isRefused_645 (by decide) ?_
          refine lv_goto (tgt := 650) hx hb dL_isRefused_646 (by decide) ?_
          exact tL_isRefused_650 (σ := σ) (ρ := ρ) X hlt p2 post  _ _ (by omega) (by omega) t148 vv149 ad150 x3 x4 x6 ((1 : Int32)) (Xt.tr (Xt.tr (Xt.tr (Xt.tr hX9 q127) q135) q143) q151) hW hS (lv_sub hl [0, 1, 2, 3, 4, 6] rfl) h
set_option maxHeartbeats 4000000 in
set_option maxRecDepth 100000 in
theorem tL_isRefused_555 {p : Program} {l : Launch} {e : Env} {s : State} {m : MethodId} {args : Array Value} {below : List Frame} {meth : Method} {c : Code} {z : Nat} {G : Gl} {ad : Nat → Nat → Nat} {σ : SG} {ν : NU} {ρ : RH} {lo : Int64} (X : Cx p l e s m args below meth c cL_isRefused (some .boolean) 10 RL wsL_isRefused z G) (hlt : l.stackTraces = false) (p2 : Int32)  (post : Int32 → SG → NU → Prop) : ∀ (kc ks : Nat), kc + 144 ≤ 478 → ks + 2070 ≤ 6481 → ∀ (a1 : SG) (a2 : NU) (b1 : Nat → Nat → Nat) (x3 : Int32) (x4 : Int32) (x5 : Int32) (x6 : Int64) (y0 : Nat) (y4 : Int32) {H : Heap} {locs : List Loc} {ls : Array Slot}, Xt ad b1 ν a2 → WP z G b1 (a1, a2, ρ, lo) H → va_S (Az z) s.heap H locs → lv_has ls 10 [(0, .ref (b1 0 0)), (1, .ref (b1 100 0)), (2, .int p2), (3, .int x3), (4, .int x4), (5, .int x5), (6, .long x6)] → jL_isRefused_555 p2 post a1 a2 ρ x3 x4 x5 x6 y0 y4 → W p l e ({ frames := 12, cells := 478, slots := 6481, locals := 296 } : Room) s m args below meth c H locs kc ks (MQ below (Qia z G (fun r S1 => ∃ (t : SG) (u : NU), S1.1 = (t, u, ρ, lo) ∧ Xt ad S1.2 ν u ∧ post r t u)) args s 478 6481 (Az z)) (F0 m 555 ls [.int y4, .int ((0 : Int32)), .int ((0 : Int32)), .int ((0 : Int32)), .ref (b1 0 0)]) := by
  obtain ⟨hx, hb, hr, hml, hown, hts, hlocks, hE, hz⟩ := id X
  intro kc ks hB1 hB2 a1 a2 b1 x3 x4 x5 x6 y0 y4 H locs ls hX9 hW hS hl h
  unfold jL_isRefused_555 at h
  refine lv_iconst (v := (-1 : Int32)) hx hb dL_isRefused_555 (by decide) ?_
  refine kWA_Si (rest := []) (As := [.ref (b1 0 0), .int ((0 : Int32)), .int ((0 : Int32)), .int ((0 : Int32)), .int y4, .int ((-1 : Int32))]) ⟨hx, hb, hml, hown, hts⟩ hE hz hS hW (mtL_silent_0 l hlt z G b1 a1 a2 ρ lo ((0 : Int32)) ((0 : Int32)) y4 ((-1 : Int32)) _ h) (vx_cwSW 6 hts gL_isRefused_L_silent rfl rfl rfl (by decide +kernel) ⟨Nat.le_of_ble_eq_true rfl, Nat.le_of_ble_eq_true rfl⟩) rfl hl.1 rfl (Nat.le_of_ble_eq_true rfl) dL_isRefused_556 ⟨by show _ ≤ 478; omega, by show _ ≤ 6481; omega⟩ (fun r114 S1 ad117 H locs hp hW hS => ?_)
  obtain ⟨t115, vv116, rfl, q118, h⟩ := hp
  have z119 : ad117 0 0 = b1 0 0 := (q118 0 0 (by decide) rfl).2
  have z120 : ad117 100 0 = b1 100 0 := (q118 100 0 (by decide) ⟨rfl, by decide, by decide⟩).2
  have hl : lv_has ls 10 [(0, .ref (ad117 0 0)), (1, .ref (ad117 100 0)), (2, .int p2), (3, .int x3), (4, .int x4), (5, .int x5), (6, .long x6)] := by rw [z119, z120]; exact hl
  refine lv_sipush (v := (-1382 : Int32)) hx hb dL_isRefused_559 (by decide) ?_
  refine r_icmp_ne hx hb rfl (show (-1382 : Int32).toInt = (-1382) by decide) (tgt := 649) dL_isRefused_562 (by decide) (fun c121 => ?_) (fun c121 => ?_)
  · have h := ite_f c121 h
    refine lv_iconst (v := (0 : Int32)) hx hb dL_isRefused_649 (by decide) ?_
    exact tL_isRefused_650 (σ := σ) (ρ := ρ) X hlt p2 post  _ _ (by omega) (by omega) t115 vv116 ad117 x3 x4 x6 ((0 : Int32)) (Xt.tr hX9 q118) hW hS (lv_sub hl [0, 1, 2, 3, 4, 6] rfl) h
  · have h := ite_t c121 h
    refine lv_aload_n hx hb dL_isRefused_565 rfl (lv_at hl 0 rfl) ?_
    refine lv_iconst (v := (0 : Int32)) hx hb dL_isRefused_566 (by decide) ?_
    refine lv_iconst (v := (0 : Int32)) hx hb dL_isRefused_567 (by decide) ?_
    refine lv_iconst (v := (0 : Int32)) hx hb dL_isRefused_568 (by decide) ?_
    refine lv_bipush (v := (7 : Int32)) hx hb dL_isRefused_569 (by decide) ?_
    refine lv_iload_n hx hb dL_isRefused_571 rfl (lv_at hl 3 rfl) ?_
    generalize hg9 : ((-2 : Int32)) - (p2 - p2 / ((30 : Int32)) * ((30 : Int32))) = g9 at h
    refine r_if_eq hx hb rfl (tgt := 585) dL_isRefused_572 (by decide) (fun c122 => ?_) (fun c122 => ?_)
    · have h := ite_t c122 h
      refine lv_sipush (v := (5001 : Int32)) hx hb dL_isRefused_585 (by decide) ?_
      exact tL_isRefused_588 (σ := σ) (ρ := ρ) X hlt p2 post  _ _ (by omega) (by omega) t115 vv116 ad117 x3 x4 x5 x6 0 ((5001 : Int32)) (Xt.tr hX9 q118) hW hS (lv_sub hl [0, 1, 2, 3, 4, 5, 6] rfl) h
    · have h := ite_f c122 h
      refine lv_bipush (v := (-2 : Int32)) hx hb dL_isRefused_575 (by decide) ?_
      refine lv_iload_n hx hb dL_isRefused_577 rfl (lv_at hl 2 rfl) ?_
      refine lv_bipush (v := (30 : Int32)) hx hb dL_isRefused_578 (by decide) ?_
      refine lv_irem hx hb dL_isRefused_580 (by decide) ?_
      refine lv_isub hx hb dL_isRefused_581 ?_
      rw [hg9]
      refine lv_goto (tgt := 588) hx hb dL_isRefused_582 (by decide) ?_
      exact tL_isRefused_588 (σ := σ) (ρ := ρ) X hlt p2 post  _ _ (by omega) (by omega) t115 vv116 ad117 x3 x4 x5 x6 0 g9 (Xt.tr hX9 q118) hW hS (lv_sub hl [0, 1, 2, 3, 4, 5, 6] rfl) h
set_option maxHeartbeats 4000000 in
set_option maxRecDepth 100000 in
theorem tL_isRefused_524 {p : Program} {l : Launch} {e : Env} {s : State} {m : MethodId} {args : Array Value} {below : List Frame} {meth : Method} {c : Code} {z : Nat} {G : Gl} {ad : Nat → Nat → Nat} {σ : SG} {ν : NU} {ρ : RH} {lo : Int64} (X : Cx p l e s m args below meth c cL_isRefused (some .boolean) 10 RL wsL_isRefused z G) (hlt : l.stackTraces = false) (p2 : Int32)  (post : Int32 → SG → NU → Prop) : ∀ (kc ks : Nat), kc + 148 ≤ 478 → ks + 2092 ≤ 6481 → ∀ (a1 : SG) (a2 : NU) (b1 : Nat → Nat → Nat) (x3 : Int32) (x4 : Int32) (x5 : Int32) (x6 : Int64) (y0 : Nat) (y3 : Int32) {H : Heap} {locs : List Loc} {ls : Array Slot}, Xt ad b1 ν a2 → WP z G b1 (a1, a2, ρ, lo) H → va_S (Az z) s.heap H locs → lv_has ls 10 [(0, .ref (b1 0 0)), (1, .ref (b1 100 0)), (2, .int p2), (3, .int x3), (4, .int x4), (5, .int x5), (6, .long x6)] → jL_isRefused_524 p2 post a1 a2 ρ x3 x4 x5 x6 y0 y3 → W p l e ({ frames := 12, cells := 478, slots := 6481, locals := 296 } : Room) s m args below meth c H locs kc ks (MQ below (Qia z G (fun r S1 => ∃ (t : SG) (u : NU), S1.1 = (t, u, ρ, lo) ∧ Xt ad S1.2 ν u ∧ post r t u)) args s 478 6481 (Az z)) (F0 m 524 ls [.int y3, .int ((0 : Int32)), .int ((0 : Int32)), .ref (b1 0 0)]) := by
  obtain ⟨hx, hb, hr, hml, hown, hts, hlocks, hE, hz⟩ := id X
  intro kc ks hB1 hB2 a1 a2 b1 x3 x4 x5 x6 y0 y3 H locs ls hX9 hW hS hl h
  unfold jL_isRefused_524 at h
  refine lv_bipush (v := (7 : Int32)) hx hb dL_isRefused_524 (by decide) ?_
  refine lv_iconst (v := (-1 : Int32)) hx hb dL_isRefused_526 (by decide) ?_
  refine kWA_Si (rest := []) (As := [.ref (b1 0 0), .int ((0 : Int32)), .int ((0 : Int32)), .int y3, .int ((7 : Int32)), .int ((-1 : Int32))]) ⟨hx, hb, hml, hown, hts⟩ hE hz hS hW (mtL_silent_0 l hlt z G b1 a1 a2 ρ lo ((0 : Int32)) y3 ((7 : Int32)) ((-1 : Int32)) _ h) (vx_cwSW 6 hts gL_isRefused_L_silent rfl rfl rfl (by decide +kernel) ⟨Nat.le_of_ble_eq_true rfl, Nat.le_of_ble_eq_true rfl⟩) rfl hl.1 rfl (Nat.le_of_ble_eq_true rfl) dL_isRefused_527 ⟨by show _ ≤ 478; omega, by show _ ≤ 6481; omega⟩ (fun r105 S1 ad108 H locs hp hW hS => ?_)
  obtain ⟨t106, vv107, rfl, q109, h⟩ := hp
  have z110 : ad108 0 0 = b1 0 0 := (q109 0 0 (by decide) rfl).2
  have z111 : ad108 100 0 = b1 100 0 := (q109 100 0 (by decide) ⟨rfl, by decide, by decide⟩).2
  have hl : lv_has ls 10 [(0, .ref (ad108 0 0)), (1, .ref (ad108 100 0)), (2, .int p2), (3, .int x3), (4, .int x4), (5, .int x5), (6, .long x6)] := by rw [z110, z111]; exact hl
  refine lv_sipush (v := (-1382 : Int32)) hx hb dL_isRefused_530 (by decide) ?_
  refine r_icmp_ne hx hb rfl (show (-1382 : Int32).toInt = (-1382) by decide) (tgt := 649) dL_isRefused_533 (by decide) (fun c112 => ?_) (fun c112 => ?_)
  · have h := ite_f c112 h
    refine lv_iconst (v := (0 : Int32)) hx hb dL_isRefused_649 (by decide) ?_
    exact tL_isRefused_650 (σ := σ) (ρ := ρ) X hlt p2 post  _ _ (by omega) (by omega) t106 vv107 ad108 x3 x4 x6 ((0 : Int32)) (Xt.tr hX9 q109) hW hS (lv_sub hl [0, 1, 2, 3, 4, 6] rfl) h
  · have h := ite_t c112 h
    refine lv_aload_n hx hb dL_isRefused_536 rfl (lv_at hl 0 rfl) ?_
    refine lv_iconst (v := (0 : Int32)) hx hb dL_isRefused_537 (by decide) ?_
    refine lv_iconst (v := (0 : Int32)) hx hb dL_isRefused_538 (by decide) ?_
    refine lv_iconst (v := (0 : Int32)) hx hb dL_isRefused_539 (by decide) ?_
    refine lv_iload_n hx hb dL_isRefused_540 rfl (lv_at hl 3 rfl) ?_
    refine r_if_eq hx hb rfl (tgt := 553) dL_isRefused_541 (by decide) (fun c113 => ?_) (fun c113 => ?_)
    · have h := ite_t c113 h
      refine lv_bipush (v := (8 : Int32)) hx hb dL_isRefused_553 (by decide) ?_
      exact tL_isRefused_555 (σ := σ) (ρ := ρ) X hlt p2 post  _ _ (by omega) (by omega) t106 vv107 ad108 x3 x4 x5 x6 0 ((8 : Int32)) (Xt.tr hX9 q109) hW hS (lv_sub hl [0, 1, 2, 3, 4, 5, 6] rfl) h
    · have h := ite_f c113 h
      refine lv_iconst (v := (0 : Int32)) hx hb dL_isRefused_544 (by decide) ?_
      refine lv_iload_n hx hb dL_isRefused_545 rfl (lv_at hl 2 rfl) ?_
      refine lv_bipush (v := (30 : Int32)) hx hb dL_isRefused_546 (by decide) ?_
      refine lv_irem hx hb dL_isRefused_548 (by decide) ?_
      refine lv_isub hx hb dL_isRefused_549 ?_
      refine lv_goto (tgt := 555) hx hb dL_isRefused_550 (by decide) ?_
      exact tL_isRefused_555 (σ := σ) (ρ := ρ) X hlt p2 post  _ _ (by omega) (by omega) t106 vv107 ad108 x3 x4 x5 x6 0 (((0 : Int32)) - (p2 - p2 / ((30 : Int32)) * ((30 : Int32)))) (Xt.tr hX9 q109) hW hS (lv_sub hl [0, 1, 2, 3, 4, 5, 6] rfl) h
set_option maxHeartbeats 4000000 in
set_option maxRecDepth 100000 in
theorem tL_isRefused_492 {p : Program} {l : Launch} {e : Env} {s : State} {m : MethodId} {args : Array Value} {below : List Frame} {meth : Method} {c : Code} {z : Nat} {G : Gl} {ad : Nat → Nat → Nat} {σ : SG} {ν : NU} {ρ : RH} {lo : Int64} (X : Cx p l e s m args below meth c cL_isRefused (some .boolean) 10 RL wsL_isRefused z G) (hlt : l.stackTraces = false) (p2 : Int32)  (post : Int32 → SG → NU → Prop) : ∀ (kc ks : Nat), kc + 152 ≤ 478 → ks + 2114 ≤ 6481 → ∀ (a1 : SG) (a2 : NU) (b1 : Nat → Nat → Nat) (x3 : Int32) (x4 : Int32) (x5 : Int32) (x6 : Int64) (y0 : Nat) (y2 : Int32) {H : Heap} {locs : List Loc} {ls : Array Slot}, Xt ad b1 ν a2 → WP z G b1 (a1, a2, ρ, lo) H → va_S (Az z) s.heap H locs → lv_has ls 10 [(0, .ref (b1 0 0)), (1, .ref (b1 100 0)), (2, .int p2), (3, .int x3), (4, .int x4), (5, .int x5), (6, .long x6)] → jL_isRefused_492 p2 post a1 a2 ρ x3 x4 x5 x6 y0 y2 → W p l e ({ frames := 12, cells := 478, slots := 6481, locals := 296 } : Room) s m args below meth c H locs kc ks (MQ below (Qia z G (fun r S1 => ∃ (t : SG) (u : NU), S1.1 = (t, u, ρ, lo) ∧ Xt ad S1.2 ν u ∧ post r t u)) args s 478 6481 (Az z)) (F0 m 492 ls [.int y2, .int ((0 : Int32)), .ref (b1 0 0)]) := by
  obtain ⟨hx, hb, hr, hml, hown, hts, hlocks, hE, hz⟩ := id X
  intro kc ks hB1 hB2 a1 a2 b1 x3 x4 x5 x6 y0 y2 H locs ls hX9 hW hS hl h
  unfold jL_isRefused_492 at h
  refine lv_iconst (v := (0 : Int32)) hx hb dL_isRefused_492 (by decide) ?_
  refine lv_bipush (v := (7 : Int32)) hx hb dL_isRefused_493 (by decide) ?_
  refine lv_iconst (v := (-1 : Int32)) hx hb dL_isRefused_495 (by decide) ?_
  refine kWA_Si (rest := []) (As := [.ref (b1 0 0), .int ((0 : Int32)), .int y2, .int ((0 : Int32)), .int ((7 : Int32)), .int ((-1 : Int32))]) ⟨hx, hb, hml, hown, hts⟩ hE hz hS hW (mtL_silent_0 l hlt z G b1 a1 a2 ρ lo y2 ((0 : Int32)) ((7 : Int32)) ((-1 : Int32)) _ h) (vx_cwSW 6 hts gL_isRefused_L_silent rfl rfl rfl (by decide +kernel) ⟨Nat.le_of_ble_eq_true rfl, Nat.le_of_ble_eq_true rfl⟩) rfl hl.1 rfl (Nat.le_of_ble_eq_true rfl) dL_isRefused_496 ⟨by show _ ≤ 478; omega, by show _ ≤ 6481; omega⟩ (fun r96 S1 ad99 H locs hp hW hS => ?_)
  obtain ⟨t97, vv98, rfl, q100, h⟩ := hp
  have z101 : ad99 0 0 = b1 0 0 := (q100 0 0 (by decide) rfl).2
  have z102 : ad99 100 0 = b1 100 0 := (q100 100 0 (by decide) ⟨rfl, by decide, by decide⟩).2
  have hl : lv_has ls 10 [(0, .ref (ad99 0 0)), (1, .ref (ad99 100 0)), (2, .int p2), (3, .int x3), (4, .int x4), (5, .int x5), (6, .long x6)] := by rw [z101, z102]; exact hl
  refine lv_sipush (v := (-1382 : Int32)) hx hb dL_isRefused_499 (by decide) ?_
  refine r_icmp_ne hx hb rfl (show (-1382 : Int32).toInt = (-1382) by decide) (tgt := 649) dL_isRefused_502 (by decide) (fun c103 => ?_) (fun c103 => ?_)
  · have h := ite_f c103 h
    refine lv_iconst (v := (0 : Int32)) hx hb dL_isRefused_649 (by decide) ?_
    exact tL_isRefused_650 (σ := σ) (ρ := ρ) X hlt p2 post  _ _ (by omega) (by omega) t97 vv98 ad99 x3 x4 x6 ((0 : Int32)) (Xt.tr hX9 q100) hW hS (lv_sub hl [0, 1, 2, 3, 4, 6] rfl) h
  · have h := ite_t c103 h
    refine lv_aload_n hx hb dL_isRefused_505 rfl (lv_at hl 0 rfl) ?_
    refine lv_iconst (v := (0 : Int32)) hx hb dL_isRefused_506 (by decide) ?_
    refine lv_iconst (v := (0 : Int32)) hx hb dL_isRefused_507 (by decide) ?_
    refine lv_iload_n hx hb dL_isRefused_508 rfl (lv_at hl 3 rfl) ?_
    refine r_if_eq hx hb rfl (tgt := 516) dL_isRefused_509 (by decide) (fun c104 => ?_) (fun c104 => ?_)
    · have h := ite_t c104 h
      refine lv_sipush (v := (5001 : Int32)) hx hb dL_isRefused_516 (by decide) ?_
      refine lv_iload_n hx hb dL_isRefused_519 rfl (lv_at hl 2 rfl) ?_
      refine lv_bipush (v := (30 : Int32)) hx hb dL_isRefused_520 (by decide) ?_
      refine lv_irem hx hb dL_isRefused_522 (by decide) ?_
      refine lv_iadd hx hb dL_isRefused_523 ?_
      exact tL_isRefused_524 (σ := σ) (ρ := ρ) X hlt p2 post  _ _ (by omega) (by omega) t97 vv98 ad99 x3 x4 x5 x6 0 (((5001 : Int32)) + (p2 - p2 / ((30 : Int32)) * ((30 : Int32)))) (Xt.tr hX9 q100) hW hS (lv_sub hl [0, 1, 2, 3, 4, 5, 6] rfl) h
    · have h := ite_f c104 h
      refine lv_iconst (v := (-1 : Int32)) hx hb dL_isRefused_512 (by decide) ?_
      refine lv_goto (tgt := 524) hx hb dL_isRefused_513 (by decide) ?_
      exact tL_isRefused_524 (σ := σ) (ρ := ρ) X hlt p2 post  _ _ (by omega) (by omega) t97 vv98 ad99 x3 x4 x5 x6 0 ((-1 : Int32)) (Xt.tr hX9 q100) hW hS (lv_sub hl [0, 1, 2, 3, 4, 5, 6] rfl) h
set_option maxHeartbeats 4000000 in
set_option maxRecDepth 100000 in
theorem tL_isRefused_421 {p : Program} {l : Launch} {e : Env} {s : State} {m : MethodId} {args : Array Value} {below : List Frame} {meth : Method} {c : Code} {z : Nat} {G : Gl} {ad : Nat → Nat → Nat} {σ : SG} {ν : NU} {ρ : RH} {lo : Int64} (X : Cx p l e s m args below meth c cL_isRefused (some .boolean) 10 RL wsL_isRefused z G) (hlt : l.stackTraces = false) (p2 : Int32)  (post : Int32 → SG → NU → Prop) : ∀ (kc ks : Nat), kc + 158 ≤ 478 → ks + 2148 ≤ 6481 → ∀ (a1 : SG) (a2 : NU) (b1 : Nat → Nat → Nat) (x3 : Int32) (x4 : Int32) (x5 : Int32) (x6 : Int64) (x8 : Int32) {H : Heap} {locs : List Loc} {ls : Array Slot}, Xt ad b1 ν a2 → WP z G b1 (a1, a2, ρ, lo) H → va_S (Az z) s.heap H locs → lv_has ls 10 [(0, .ref (b1 0 0)), (1, .ref (b1 100 0)), (2, .int p2), (3, .int x3), (4, .int x4), (5, .int x5), (6, .long x6), (8, .int x8)] → jL_isRefused_421 p2 post a1 a2 ρ x3 x4 x5 x6 x8 → W p l e ({ frames := 12, cells := 478, slots := 6481, locals := 296 } : Room) s m args below meth c H locs kc ks (MQ below (Qia z G (fun r S1 => ∃ (t : SG) (u : NU), S1.1 = (t, u, ρ, lo) ∧ Xt ad S1.2 ν u ∧ post r t u)) args s 478 6481 (Az z)) (F0 m 421 ls []) := by
  obtain ⟨hx, hb, hr, hml, hown, hts, hlocks, hE, hz⟩ := id X
  intro kc ks hB1 hB2 a1 a2 b1 x3 x4 x5 x6 x8 H locs ls hX9 hW hS hl h
  unfold jL_isRefused_421 at h
  refine lv_iload hx hb dL_isRefused_421 (lv_at hl 7 rfl) ?_
  refine r_if_eq hx hb rfl (tgt := 649) dL_isRefused_423 (by decide) (fun c12 => ?_) (fun c12 => ?_)
  · have h := ite_t c12 h
    refine lv_iconst (v := (0 : Int32)) hx hb dL_isRefused_649 (by decide) ?_
    exact tL_isRefused_650 (σ := σ) (ρ := ρ) X hlt p2 post  _ _ (by omega) (by omega) a1 a2 b1 x3 x4 x6 ((0 : Int32)) hX9 hW hS (lv_sub hl [0, 1, 2, 3, 4, 6] rfl) h
  · have h := ite_f c12 h
    refine lv_aload_n hx hb dL_isRefused_426 rfl (lv_at hl 0 rfl) ?_
    refine lv_bipush (v := (14 : Int32)) hx hb dL_isRefused_427 (by decide) ?_
    refine lv_iload hx hb dL_isRefused_429 (lv_at hl 5 rfl) ?_
    refine lv_iconst (v := (0 : Int32)) hx hb dL_isRefused_431 (by decide) ?_
    refine lv_iconst (v := (0 : Int32)) hx hb dL_isRefused_432 (by decide) ?_
    refine lv_iconst (v := (0 : Int32)) hx hb dL_isRefused_433 (by decide) ?_
    refine kW_Si (rest := []) (As := [.ref (b1 0 0), .int ((14 : Int32)), .int x5, .int ((0 : Int32)), .int ((0 : Int32)), .int ((0 : Int32))]) ⟨hx, hb, hml, hown, hts⟩ hE hz hS hW (mtL_does_14 l hlt z G b1 a1 a2 ρ lo x5 ((0 : Int32)) ((0 : Int32)) ((0 : Int32)) _ h) (vx_cwSW 6 hts gL_isRefused_L_does rfl rfl rfl (by decide +kernel) ⟨Nat.le_of_ble_eq_true rfl, Nat.le_of_ble_eq_true rfl⟩) rfl hl.1 rfl (Nat.le_of_ble_eq_true rfl) dL_isRefused_434 ⟨by show _ ≤ 478; omega, by show _ ≤ 6481; omega⟩ (fun r83 S1 H locs hp hW hS => ?_)
    obtain ⟨rfl, h⟩ := hp
    refine lv_sipush (v := (-1381 : Int32)) hx hb dL_isRefused_437 (by decide) ?_
    refine r_icmp_ne hx hb rfl (show (-1381 : Int32).toInt = (-1381) by decide) (tgt := 649) dL_isRefused_440 (by decide) (fun c84 => ?_) (fun c84 => ?_)
    · have h := ite_f c84 h
      refine lv_iconst (v := (0 : Int32)) hx hb dL_isRefused_649 (by decide) ?_
      exact tL_isRefused_650 (σ := σ) (ρ := ρ) X hlt p2 post  _ _ (by omega) (by omega) a1 a2 b1 x3 x4 x6 ((0 : Int32)) hX9 hW hS (lv_sub hl [0, 1, 2, 3, 4, 6] rfl) h
    · have h := ite_t c84 h
      refine lv_aload_n hx hb dL_isRefused_443 rfl (lv_at hl 0 rfl) ?_
      refine lv_bipush (v := (15 : Int32)) hx hb dL_isRefused_444 (by decide) ?_
      refine lv_iload hx hb dL_isRefused_446 (lv_at hl 5 rfl) ?_
      refine lv_iconst (v := (0 : Int32)) hx hb dL_isRefused_448 (by decide) ?_
      refine lv_iconst (v := (0 : Int32)) hx hb dL_isRefused_449 (by decide) ?_
      refine lv_iconst (v := (0 : Int32)) hx hb dL_isRefused_450 (by decide) ?_
      refine kW_Si (rest := []) (As := [.ref (b1 0 0), .int ((15 : Int32)), .int x5, .int ((0 : Int32)), .int ((0 : Int32)), .int ((0 : Int32))]) ⟨hx, hb, hml, hown, hts⟩ hE hz hS hW (mtL_does_15 l hlt z G b1 a1 a2 ρ lo x5 ((0 : Int32)) ((0 : Int32)) ((0 : Int32)) _ h) (vx_cwSW 6 hts gL_isRefused_L_does rfl rfl rfl (by decide +kernel) ⟨Nat.le_of_ble_eq_true rfl, Nat.le_of_ble_eq_true rfl⟩) rfl hl.1 rfl (Nat.le_of_ble_eq_true rfl) dL_isRefused_451 ⟨by show _ ≤ 478; omega, by show _ ≤ 6481; omega⟩ (fun r85 S1 H locs hp hW hS => ?_)
      obtain ⟨rfl, h⟩ := hp
      refine lv_sipush (v := (-1381 : Int32)) hx hb dL_isRefused_454 (by decide) ?_
      refine r_icmp_ne hx hb rfl (show (-1381 : Int32).toInt = (-1381) by decide) (tgt := 649) dL_isRefused_457 (by decide) (fun c86 => ?_) (fun c86 => ?_)
      · have h := ite_f c86 h
        refine lv_iconst (v := (0 : Int32)) hx hb dL_isRefused_649 (by decide) ?_
        exact tL_isRefused_650 (σ := σ) (ρ := ρ) X hlt p2 post  _ _ (by omega) (by omega) a1 a2 b1 x3 x4 x6 ((0 : Int32)) hX9 hW hS (lv_sub hl [0, 1, 2, 3, 4, 6] rfl) h
      · have h := ite_t c86 h
        refine lv_aload_n hx hb dL_isRefused_460 rfl (lv_at hl 0 rfl) ?_
        refine lv_iconst (v := (0 : Int32)) hx hb dL_isRefused_461 (by decide) ?_
        refine lv_iconst (v := (2 : Int32)) hx hb dL_isRefused_462 (by decide) ?_
        refine lv_iload hx hb dL_isRefused_463 (lv_at hl 5 rfl) ?_
        refine lv_iconst (v := (0 : Int32)) hx hb dL_isRefused_465 (by decide) ?_
        refine lv_iconst (v := (0 : Int32)) hx hb dL_isRefused_466 (by decide) ?_
        refine kWA_Si (rest := []) (As := [.ref (b1 0 0), .int ((0 : Int32)), .int ((2 : Int32)), .int x5, .int ((0 : Int32)), .int ((0 : Int32))]) ⟨hx, hb, hml, hown, hts⟩ hE hz hS hW (mtL_silent_0 l hlt z G b1 a1 a2 ρ lo ((2 : Int32)) x5 ((0 : Int32)) ((0 : Int32)) _ h) (vx_cwSW 6 hts gL_isRefused_L_silent rfl rfl rfl (by decide +kernel) ⟨Nat.le_of_ble_eq_true rfl, Nat.le_of_ble_eq_true rfl⟩) rfl hl.1 rfl (Nat.le_of_ble_eq_true rfl) dL_isRefused_467 ⟨by show _ ≤ 478; omega, by show _ ≤ 6481; omega⟩ (fun r87 S1 ad90 H locs hp hW hS => ?_)
        obtain ⟨t88, vv89, rfl, q91, h⟩ := hp
        have z92 : ad90 0 0 = b1 0 0 := (q91 0 0 (by decide) rfl).2
        have z93 : ad90 100 0 = b1 100 0 := (q91 100 0 (by decide) ⟨rfl, by decide, by decide⟩).2
        have hl : lv_has ls 10 [(0, .ref (ad90 0 0)), (1, .ref (ad90 100 0)), (2, .int p2), (3, .int x3), (4, .int x4), (5, .int x5), (6, .long x6), (8, .int x8)] := by rw [z92, z93]; exact hl
        refine lv_sipush (v := (-1381 : Int32)) hx hb dL_isRefused_470 (by decide) ?_
        refine r_icmp_ne hx hb rfl (show (-1381 : Int32).toInt = (-1381) by decide) (tgt := 649) dL_isRefused_473 (by decide) (fun c94 => ?_) (fun c94 => ?_)
        · have h := ite_f c94 h
          refine lv_iconst (v := (0 : Int32)) hx hb dL_isRefused_649 (by decide) ?_
          exact tL_isRefused_650 (σ := σ) (ρ := ρ) X hlt p2 post  _ _ (by omega) (by omega) t88 vv89 ad90 x3 x4 x6 ((0 : Int32)) (Xt.tr hX9 q91) hW hS (lv_sub hl [0, 1, 2, 3, 4, 6] rfl) h
        · have h := ite_t c94 h
          refine lv_aload_n hx hb dL_isRefused_476 rfl (lv_at hl 0 rfl) ?_
          refine lv_iconst (v := (0 : Int32)) hx hb dL_isRefused_477 (by decide) ?_
          refine lv_iload_n hx hb dL_isRefused_478 rfl (lv_at hl 3 rfl) ?_
          generalize hg9 : ((-1 : Int32)) - (p2 - p2 / ((30 : Int32)) * ((30 : Int32))) = g9 at h
          refine r_if_eq hx hb rfl (tgt := 491) dL_isRefused_479 (by decide) (fun c95 => ?_) (fun c95 => ?_)
          · have h := ite_t c95 h
            refine lv_iconst (v := (3 : Int32)) hx hb dL_isRefused_491 (by decide) ?_
            exact tL_isRefused_492 (σ := σ) (ρ := ρ) X hlt p2 post  _ _ (by omega) (by omega) t88 vv89 ad90 x3 x4 x5 x6 0 ((3 : Int32)) (Xt.tr hX9 q91) hW hS (lv_sub hl [0, 1, 2, 3, 4, 5, 6] rfl) h
          · have h := ite_f c95 h
            refine lv_iconst (v := (-1 : Int32)) hx hb dL_isRefused_482 (by decide) ?_
            refine lv_iload_n hx hb dL_isRefused_483 rfl (lv_at hl 2 rfl) ?_
            refine lv_bipush (v := (30 : Int32)) hx hb dL_isRefused_484 (by decide) ?_
            refine lv_irem hx hb dL_isRefused_486 (by decide) ?_
            refine lv_isub hx hb dL_isRefused_487 ?_
            rw [hg9]
            refine lv_goto (tgt := 492) hx hb dL_isRefused_488 (by decide) ?_
            exact tL_isRefused_492 (σ := σ) (ρ := ρ) X hlt p2 post  _ _ (by omega) (by omega) t88 vv89 ad90 x3 x4 x5 x6 0 g9 (Xt.tr hX9 q91) hW hS (lv_sub hl [0, 1, 2, 3, 4, 5, 6] rfl) h
set_option maxHeartbeats 4000000 in
set_option maxRecDepth 100000 in
theorem tL_isRefused_379 {p : Program} {l : Launch} {e : Env} {s : State} {m : MethodId} {args : Array Value} {below : List Frame} {meth : Method} {c : Code} {z : Nat} {G : Gl} {ad : Nat → Nat → Nat} {σ : SG} {ν : NU} {ρ : RH} {lo : Int64} (X : Cx p l e s m args below meth c cL_isRefused (some .boolean) 10 RL wsL_isRefused z G) (hlt : l.stackTraces = false) (p2 : Int32)  (post : Int32 → SG → NU → Prop) : ∀ (n kc ks : Nat), kc + (n * 21 + 158) ≤ 478 → ks + (n * 275 + 2148) ≤ 6481 → ∀ (a1 : SG) (a2 : NU) (b1 : Nat → Nat → Nat) (x3 : Int32) (x4 : Int32) (x5 : Int32) (x6 : Int64) (x8 : Int32) (x9 : Int32) {H : Heap} {locs : List Loc} {ls : Array Slot}, Xt ad b1 ν a2 → WP z G b1 (a1, a2, ρ, lo) H → va_S (Az z) s.heap H locs → lv_has ls 10 [(0, .ref (b1 0 0)), (1, .ref (b1 100 0)), (2, .int p2), (3, .int x3), (4, .int x4), (5, .int x5), (6, .long x6), (8, .int x8), (9, .int x9)] → wL_isRefused_379 p2 post n a1 a2 ρ x3 x4 x5 x6 x8 x9 → W p l e ({ frames := 12, cells := 478, slots := 6481, locals := 296 } : Room) s m args below meth c H locs kc ks (MQ below (Qia z G (fun r S1 => ∃ (t : SG) (u : NU), S1.1 = (t, u, ρ, lo) ∧ Xt ad S1.2 ν u ∧ post r t u)) args s 478 6481 (Az z)) (F0 m 379 ls []) := by
  obtain ⟨hx, hb, hr, hml, hown, hts, hlocks, hE, hz⟩ := id X
  intro n
  induction n with
  | zero =>
    intro kc ks hB1 hB2 a1 a2 b1 x3 x4 x5 x6 x8 x9 H locs ls hX9 hW hS hl h
    exact absurd h id
  | succ n ih =>
    intro kc ks hB1 hB2 a1 a2 b1 x3 x4 x5 x6 x8 x9 H locs ls hX9 hW hS hl h
    unfold wL_isRefused_379 at h
    refine lv_iload hx hb dL_isRefused_379 (lv_at hl 8 rfl) ?_
    refine lv_bipush (v := (14 : Int32)) hx hb dL_isRefused_381 (by decide) ?_
    refine r_icmp_ge hx hb rfl (show (14 : Int32).toInt = 14 by decide) (tgt := 421) dL_isRefused_383 (by decide) (fun c11 => ?_) (fun c11 => ?_)
    · have h := ite_f c11 h
      exact tL_isRefused_421 (σ := σ) (ρ := ρ) X hlt p2 post  _ _ (by omega) (by omega) a1 a2 b1 x3 x4 x5 x6 x8 hX9 hW hS (lv_sub hl [0, 1, 2, 3, 4, 5, 6, 7] rfl) h
    · have h := ite_t c11 h
      refine lv_iload hx hb dL_isRefused_386 (lv_at hl 7 rfl) ?_
      refine r_if_eq hx hb rfl (tgt := 421) dL_isRefused_388 (by decide) (fun c155 => ?_) (fun c155 => ?_)
      · have h := ite_t c155 h
        exact tL_isRefused_421 (σ := σ) (ρ := ρ) X hlt p2 post  _ _ (by omega) (by omega) a1 a2 b1 x3 x4 x5 x6 x8 hX9 hW hS (lv_sub hl [0, 1, 2, 3, 4, 5, 6, 7] rfl) h
      · have h := ite_f c155 h
        refine lv_aload_n hx hb dL_isRefused_391 rfl (lv_at hl 0 rfl) ?_
        refine lv_iload hx hb dL_isRefused_392 (lv_at hl 8 rfl) ?_
        refine lv_iload hx hb dL_isRefused_394 (lv_at hl 4 rfl) ?_
        refine lv_iconst (v := (0 : Int32)) hx hb dL_isRefused_396 (by decide) ?_
        refine lv_iconst (v := (0 : Int32)) hx hb dL_isRefused_397 (by decide) ?_
        refine lv_iconst (v := (0 : Int32)) hx hb dL_isRefused_398 (by decide) ?_
        refine kWA_Si (rest := []) (As := [.ref (b1 0 0), .int x9, .int x4, .int ((0 : Int32)), .int ((0 : Int32)), .int ((0 : Int32))]) ⟨hx, hb, hml, hown, hts⟩ hE hz hS hW (mtL_does l hlt z G b1 a1 a2 ρ lo x9 x4 ((0 : Int32)) ((0 : Int32)) ((0 : Int32)) _ h) (vx_cwSW 6 hts gL_isRefused_L_does rfl rfl rfl (by decide +kernel) ⟨Nat.le_of_ble_eq_true rfl, Nat.le_of_ble_eq_true rfl⟩) rfl hl.1 rfl (Nat.le_of_ble_eq_true rfl) dL_isRefused_399 ⟨by show _ ≤ 478; omega, by show _ ≤ 6481; omega⟩ (fun r156 S1 ad159 H locs hp hW hS => ?_)
        obtain ⟨t157, vv158, rfl, q160, h⟩ := hp
        have z161 : ad159 0 0 = b1 0 0 := (q160 0 0 (by decide) rfl).2
        have z162 : ad159 100 0 = b1 100 0 := (q160 100 0 (by decide) ⟨rfl, by decide, by decide⟩).2
        have hl : lv_has ls 10 [(0, .ref (ad159 0 0)), (1, .ref (ad159 100 0)), (2, .int p2), (3, .int x3), (4, .int x4), (5, .int x5), (6, .long x6), (8, .int x8), (9, .int x9)] := by rw [z161, z162]; exact hl
        refine lv_sipush (v := (-1381 : Int32)) hx hb dL_isRefused_402 (by decide) ?_
        refine r_icmp_ne hx hb rfl (show (-1381 : Int32).toInt = (-1381) by decide) (tgt := 412) dL_isRefused_405 (by decide) (fun c163 => ?_) (fun c163 => ?_)
        · have h := ite_f c163 h
          refine lv_iconst (v := (0 : Int32)) hx hb dL_isRefused_412 (by decide) ?_
          refine lv_istore (lv' := [(8, .int ((0 : Int32))), (0, .ref (ad159 0 0)), (1, .ref (ad159 100 0)), (2, .int p2), (3, .int x3), (4, .int x4), (5, .int x5), (6, .long x6), (9, .int x9)]) hx hb dL_isRefused_413 hl (by decide) rfl (fun ls hl => ?_)
          refine lv_iinc (v := x9 + (1 : Int32)) (lv' := [(9, .int (x9 + (1 : Int32))), (8, .int ((0 : Int32))), (0, .ref (ad159 0 0)), (1, .ref (ad159 100 0)), (2, .int p2), (3, .int x3), (4, .int x4), (5, .int x5), (6, .long x6)]) hx hb dL_isRefused_415 hl (k := 8) rfl rfl (by decide) rfl (fun ls hl => ?_)
          refine lv_goto (tgt := 379) hx hb dL_isRefused_418 (by decide) ?_
          exact ih _ _ (by omega) (by omega) t157 vv158 ad159 x3 x4 x5 x6 ((0 : Int32)) (x9 + (1 : Int32)) (Xt.tr hX9 q160) hW hS (lv_sub hl [2, 3, 4, 5, 6, 7, 8, 1, 0] rfl) h
        · have h := ite_t c163 h
          refine lv_iconst (v := (1 : Int32)) hx hb dL_isRefused_408 (by decide) ?_
          refine lv_goto (tgt := 413) hx hb dL_isRefused_409 (by decide) ?_
          refine lv_istore (lv' := [(8, .int ((1 : Int32))), (0, .ref (ad159 0 0)), (1, .ref (ad159 100 0)), (2, .int p2), (3, .int x3), (4, .int x4), (5, .int x5), (6, .long x6), (9, .int x9)]) hx hb dL_isRefused_413 hl (by decide) rfl (fun ls hl => ?_)
          refine lv_iinc (v := x9 + (1 : Int32)) (lv' := [(9, .int (x9 + (1 : Int32))), (8, .int ((1 : Int32))), (0, .ref (ad159 0 0)), (1, .ref (ad159 100 0)), (2, .int p2), (3, .int x3), (4, .int x4), (5, .int x5), (6, .long x6)]) hx hb dL_isRefused_415 hl (k := 8) rfl rfl (by decide) rfl (fun ls hl => ?_)
          refine lv_goto (tgt := 379) hx hb dL_isRefused_418 (by decide) ?_
          exact ih _ _ (by omega) (by omega) t157 vv158 ad159 x3 x4 x5 x6 ((1 : Int32)) (x9 + (1 : Int32)) (Xt.tr hX9 q160) hW hS (lv_sub hl [2, 3, 4, 5, 6, 7, 8, 1, 0] rfl) h
set_option maxHeartbeats 4000000 in
set_option maxRecDepth 100000 in
theorem tL_isRefused_337 {p : Program} {l : Launch} {e : Env} {s : State} {m : MethodId} {args : Array Value} {below : List Frame} {meth : Method} {c : Code} {z : Nat} {G : Gl} {ad : Nat → Nat → Nat} {σ : SG} {ν : NU} {ρ : RH} {lo : Int64} (X : Cx p l e s m args below meth c cL_isRefused (some .boolean) 10 RL wsL_isRefused z G) (hlt : l.stackTraces = false) (p2 : Int32)  (post : Int32 → SG → NU → Prop) : ∀ (kc ks : Nat), kc + 336 ≤ 478 → ks + 4517 ≤ 6481 → ∀ (a1 : SG) (a2 : NU) (b1 : Nat → Nat → Nat) (x3 : Int32) (x4 : Int32) (x5 : Int32) (x6 : Int64) (y0 : Nat) (y4 : Int32) {H : Heap} {locs : List Loc} {ls : Array Slot}, Xt ad b1 ν a2 → WP z G b1 (a1, a2, ρ, lo) H → va_S (Az z) s.heap H locs → lv_has ls 10 [(0, .ref (b1 0 0)), (1, .ref (b1 100 0)), (2, .int p2), (3, .int x3), (4, .int x4), (5, .int x5), (6, .long x6)] → jL_isRefused_337 p2 post a1 a2 ρ x3 x4 x5 x6 y0 y4 → W p l e ({ frames := 12, cells := 478, slots := 6481, locals := 296 } : Room) s m args below meth c H locs kc ks (MQ below (Qia z G (fun r S1 => ∃ (t : SG) (u : NU), S1.1 = (t, u, ρ, lo) ∧ Xt ad S1.2 ν u ∧ post r t u)) args s 478 6481 (Az z)) (F0 m 337 ls [.int y4, .int ((0 : Int32)), .int ((0 : Int32)), .int ((5 : Int32)), .ref (b1 0 0)]) := by
  obtain ⟨hx, hb, hr, hml, hown, hts, hlocks, hE, hz⟩ := id X
  intro kc ks hB1 hB2 a1 a2 b1 x3 x4 x5 x6 y0 y4 H locs ls hX9 hW hS hl h
  unfold jL_isRefused_337 at h
  refine lv_iconst (v := (0 : Int32)) hx hb dL_isRefused_337 (by decide) ?_
  refine kWA_Si (rest := []) (As := [.ref (b1 0 0), .int ((5 : Int32)), .int ((0 : Int32)), .int ((0 : Int32)), .int y4, .int ((0 : Int32))]) ⟨hx, hb, hml, hown, hts⟩ hE hz hS hW (mtL_does_5 l hlt z G b1 a1 a2 ρ lo ((0 : Int32)) ((0 : Int32)) y4 ((0 : Int32)) _ h) (vx_cwSW 6 hts gL_isRefused_L_does rfl rfl rfl (by decide +kernel) ⟨Nat.le_of_ble_eq_true rfl, Nat.le_of_ble_eq_true rfl⟩) rfl hl.1 rfl (Nat.le_of_ble_eq_true rfl) dL_isRefused_338 ⟨by show _ ≤ 478; omega, by show _ ≤ 6481; omega⟩ (fun r258 S1 ad261 H locs hp hW hS => ?_)
  obtain ⟨t259, vv260, rfl, q262, h⟩ := hp
  have z263 : ad261 0 0 = b1 0 0 := (q262 0 0 (by decide) rfl).2
  have z264 : ad261 100 0 = b1 100 0 := (q262 100 0 (by decide) ⟨rfl, by decide, by decide⟩).2
  have hl : lv_has ls 10 [(0, .ref (ad261 0 0)), (1, .ref (ad261 100 0)), (2, .int p2), (3, .int x3), (4, .int x4), (5, .int x5), (6, .long x6)] := by rw [z263, z264]; exact hl
  refine lv_sipush (v := (-1382 : Int32)) hx hb dL_isRefused_341 (by decide) ?_
  generalize hg9 : ((-1 : Int32)) - (p2 - p2 / ((30 : Int32)) * ((30 : Int32))) = g9 at h
  refine r_icmp_ne hx hb rfl (show (-1382 : Int32).toInt = (-1382) by decide) (tgt := 372) dL_isRefused_344 (by decide) (fun c265 => ?_) (fun c265 => ?_)
  · have h := ite_f c265 h
    refine lv_iconst (v := (0 : Int32)) hx hb dL_isRefused_372 (by decide) ?_
    refine lv_istore (lv' := [(8, .int ((0 : Int32))), (0, .ref (ad261 0 0)), (1, .ref (ad261 100 0)), (2, .int p2), (3, .int x3), (4, .int x4), (5, .int x5), (6, .long x6)]) hx hb dL_isRefused_373 hl (by decide) rfl (fun ls hl => ?_)
    refine lv_bipush (v := (7 : Int32)) hx hb dL_isRefused_375 (by decide) ?_
    refine lv_istore (lv' := [(9, .int ((7 : Int32))), (8, .int ((0 : Int32))), (0, .ref (ad261 0 0)), (1, .ref (ad261 100 0)), (2, .int p2), (3, .int x3), (4, .int x4), (5, .int x5), (6, .long x6)]) hx hb dL_isRefused_377 hl (by decide) rfl (fun ls hl => ?_)
    obtain ⟨n266, n267, h⟩ := h
    exact tL_isRefused_379 (σ := σ) (ρ := ρ) X hlt p2 post  n266 _ _ (by omega) (by omega) t259 vv260 ad261 x3 x4 x5 x6 ((0 : Int32)) ((7 : Int32)) (Xt.tr hX9 q262) hW hS (lv_sub hl [2, 3, 4, 5, 6, 7, 8, 1, 0] rfl) h
  · have h := ite_t c265 h
    refine lv_aload_n hx hb dL_isRefused_347 rfl (lv_at hl 0 rfl) ?_
    refine lv_bipush (v := (6 : Int32)) hx hb dL_isRefused_348 (by decide) ?_
    refine lv_iconst (v := (-1 : Int32)) hx hb dL_isRefused_350 (by decide) ?_
    refine lv_iload_n hx hb dL_isRefused_351 rfl (lv_at hl 2 rfl) ?_
    refine lv_bipush (v := (30 : Int32)) hx hb dL_isRefused_352 (by decide) ?_
    refine lv_irem hx hb dL_isRefused_354 (by decide) ?_
    refine lv_isub hx hb dL_isRefused_355 ?_
    rw [hg9]
    refine lv_iconst (v := (0 : Int32)) hx hb dL_isRefused_356 (by decide) ?_
    refine lv_iconst (v := (0 : Int32)) hx hb dL_isRefused_357 (by decide) ?_
    refine lv_iconst (v := (0 : Int32)) hx hb dL_isRefused_358 (by decide) ?_
    refine kW_Si (rest := []) (As := [.ref (ad261 0 0), .int ((6 : Int32)), .int g9, .int ((0 : Int32)), .int ((0 : Int32)), .int ((0 : Int32))]) ⟨hx, hb, hml, hown, hts⟩ hE hz hS hW (mtL_does_6 l hlt z G ad261 t259 vv260 ρ lo g9 ((0 : Int32)) ((0 : Int32)) ((0 : Int32)) _ h) (vx_cwSW 6 hts gL_isRefused_L_does rfl rfl rfl (by decide +kernel) ⟨Nat.le_of_ble_eq_true rfl, Nat.le_of_ble_eq_true rfl⟩) rfl hl.1 rfl (Nat.le_of_ble_eq_true rfl) dL_isRefused_359 ⟨by show _ ≤ 478; omega, by show _ ≤ 6481; omega⟩ (fun r268 S1 H locs hp hW hS => ?_)
    obtain ⟨rfl, h⟩ := hp
    refine lv_sipush (v := (-1381 : Int32)) hx hb dL_isRefused_362 (by decide) ?_
    refine r_icmp_ne hx hb rfl (show (-1381 : Int32).toInt = (-1381) by decide) (tgt := 372) dL_isRefused_365 (by decide) (fun c269 => ?_) (fun c269 => ?_)
    · have h := ite_f c269 h
      refine lv_iconst (v := (0 : Int32)) hx hb dL_isRefused_372 (by decide) ?_
      refine lv_istore (lv' := [(8, .int ((0 : Int32))), (0, .ref (ad261 0 0)), (1, .ref (ad261 100 0)), (2, .int p2), (3, .int x3), (4, .int x4), (5, .int x5), (6, .long x6)]) hx hb dL_isRefused_373 hl (by decide) rfl (fun ls hl => ?_)
      refine lv_bipush (v := (7 : Int32)) hx hb dL_isRefused_375 (by decide) ?_
      refine lv_istore (lv' := [(9, .int ((7 : Int32))), (8, .int ((0 : Int32))), (0, .ref (ad261 0 0)), (1, .ref (ad261 100 0)), (2, .int p2), (3, .int x3), (4, .int x4), (5, .int x5), (6, .long x6)]) hx hb dL_isRefused_377 hl (by decide) rfl (fun ls hl => ?_)
      obtain ⟨n270, n271, h⟩ := h
      exact tL_isRefused_379 (σ := σ) (ρ := ρ) X hlt p2 post  n270 _ _ (by omega) (by omega) t259 vv260 ad261 x3 x4 x5 x6 ((0 : Int32)) ((7 : Int32)) (Xt.tr hX9 q262) hW hS (lv_sub hl [2, 3, 4, 5, 6, 7, 8, 1, 0] rfl) h
    · have h := ite_t c269 h
      refine lv_iconst (v := (1 : Int32)) hx hb dL_isRefused_368 (by decide) ?_
      refine lv_goto (tgt := 373) hx hb dL_isRefused_369 (by decide) ?_
      refine lv_istore (lv' := [(8, .int ((1 : Int32))), (0, .ref (ad261 0 0)), (1, .ref (ad261 100 0)), (2, .int p2), (3, .int x3), (4, .int x4), (5, .int x5), (6, .long x6)]) hx hb dL_isRefused_373 hl (by decide) rfl (fun ls hl => ?_)
      refine lv_bipush (v := (7 : Int32)) hx hb dL_isRefused_375 (by decide) ?_
      refine lv_istore (lv' := [(9, .int ((7 : Int32))), (8, .int ((1 : Int32))), (0, .ref (ad261 0 0)), (1, .ref (ad261 100 0)), (2, .int p2), (3, .int x3), (4, .int x4), (5, .int x5), (6, .long x6)]) hx hb dL_isRefused_377 hl (by decide) rfl (fun ls hl => ?_)
      obtain ⟨n272, n273, h⟩ := h
      exact tL_isRefused_379 (σ := σ) (ρ := ρ) X hlt p2 post  n272 _ _ (by omega) (by omega) t259 vv260 ad261 x3 x4 x5 x6 ((1 : Int32)) ((7 : Int32)) (Xt.tr hX9 q262) hW hS (lv_sub hl [2, 3, 4, 5, 6, 7, 8, 1, 0] rfl) h
set_option maxHeartbeats 4000000 in
set_option maxRecDepth 100000 in
theorem tL_isRefused_308 {p : Program} {l : Launch} {e : Env} {s : State} {m : MethodId} {args : Array Value} {below : List Frame} {meth : Method} {c : Code} {z : Nat} {G : Gl} {ad : Nat → Nat → Nat} {σ : SG} {ν : NU} {ρ : RH} {lo : Int64} (X : Cx p l e s m args below meth c cL_isRefused (some .boolean) 10 RL wsL_isRefused z G) (hlt : l.stackTraces = false) (p2 : Int32)  (post : Int32 → SG → NU → Prop) : ∀ (kc ks : Nat), kc + 345 ≤ 478 → ks + 4680 ≤ 6481 → ∀ (a1 : SG) (a2 : NU) (b1 : Nat → Nat → Nat) (x3 : Int32) (x4 : Int32) (x5 : Int32) (x6 : Int64) (y0 : Nat) (y3 : Int32) {H : Heap} {locs : List Loc} {ls : Array Slot}, Xt ad b1 ν a2 → WP z G b1 (a1, a2, ρ, lo) H → va_S (Az z) s.heap H locs → lv_has ls 10 [(0, .ref (b1 0 0)), (1, .ref (b1 100 0)), (2, .int p2), (3, .int x3), (4, .int x4), (5, .int x5), (6, .long x6)] → jL_isRefused_308 p2 post a1 a2 ρ x3 x4 x5 x6 y0 y3 → W p l e ({ frames := 12, cells := 478, slots := 6481, locals := 296 } : Room) s m args below meth c H locs kc ks (MQ below (Qia z G (fun r S1 => ∃ (t : SG) (u : NU), S1.1 = (t, u, ρ, lo) ∧ Xt ad S1.2 ν u ∧ post r t u)) args s 478 6481 (Az z)) (F0 m 308 ls [.int y3, .int ((0 : Int32)), .int ((5 : Int32)), .ref (b1 0 0)]) := by
  obtain ⟨hx, hb, hr, hml, hown, hts, hlocks, hE, hz⟩ := id X
  intro kc ks hB1 hB2 a1 a2 b1 x3 x4 x5 x6 y0 y3 H locs ls hX9 hW hS hl h
  unfold jL_isRefused_308 at h
  refine lv_iconst (v := (0 : Int32)) hx hb dL_isRefused_308 (by decide) ?_
  refine lv_iconst (v := (0 : Int32)) hx hb dL_isRefused_309 (by decide) ?_
  refine kWA_Si (rest := []) (As := [.ref (b1 0 0), .int ((5 : Int32)), .int ((0 : Int32)), .int y3, .int ((0 : Int32)), .int ((0 : Int32))]) ⟨hx, hb, hml, hown, hts⟩ hE hz hS hW (mtL_does_5 l hlt z G b1 a1 a2 ρ lo ((0 : Int32)) y3 ((0 : Int32)) ((0 : Int32)) _ h) (vx_cwSW 6 hts gL_isRefused_L_does rfl rfl rfl (by decide +kernel) ⟨Nat.le_of_ble_eq_true rfl, Nat.le_of_ble_eq_true rfl⟩) rfl hl.1 rfl (Nat.le_of_ble_eq_true rfl) dL_isRefused_310 ⟨by show _ ≤ 478; omega, by show _ ≤ 6481; omega⟩ (fun r247 S1 ad250 H locs hp hW hS => ?_)
  obtain ⟨t248, vv249, rfl, q251, h⟩ := hp
  have z252 : ad250 0 0 = b1 0 0 := (q251 0 0 (by decide) rfl).2
  have z253 : ad250 100 0 = b1 100 0 := (q251 100 0 (by decide) ⟨rfl, by decide, by decide⟩).2
  have hl : lv_has ls 10 [(0, .ref (ad250 0 0)), (1, .ref (ad250 100 0)), (2, .int p2), (3, .int x3), (4, .int x4), (5, .int x5), (6, .long x6)] := by rw [z252, z253]; exact hl
  refine lv_sipush (v := (-1382 : Int32)) hx hb dL_isRefused_313 (by decide) ?_
  refine r_icmp_ne hx hb rfl (show (-1382 : Int32).toInt = (-1382) by decide) (tgt := 372) dL_isRefused_316 (by decide) (fun c254 => ?_) (fun c254 => ?_)
  · have h := ite_f c254 h
    refine lv_iconst (v := (0 : Int32)) hx hb dL_isRefused_372 (by decide) ?_
    refine lv_istore (lv' := [(8, .int ((0 : Int32))), (0, .ref (ad250 0 0)), (1, .ref (ad250 100 0)), (2, .int p2), (3, .int x3), (4, .int x4), (5, .int x5), (6, .long x6)]) hx hb dL_isRefused_373 hl (by decide) rfl (fun ls hl => ?_)
    refine lv_bipush (v := (7 : Int32)) hx hb dL_isRefused_375 (by decide) ?_
    refine lv_istore (lv' := [(9, .int ((7 : Int32))), (8, .int ((0 : Int32))), (0, .ref (ad250 0 0)), (1, .ref (ad250 100 0)), (2, .int p2), (3, .int x3), (4, .int x4), (5, .int x5), (6, .long x6)]) hx hb dL_isRefused_377 hl (by decide) rfl (fun ls hl => ?_)
    obtain ⟨n255, n256, h⟩ := h
    exact tL_isRefused_379 (σ := σ) (ρ := ρ) X hlt p2 post  n255 _ _ (by omega) (by omega) t248 vv249 ad250 x3 x4 x5 x6 ((0 : Int32)) ((7 : Int32)) (Xt.tr hX9 q251) hW hS (lv_sub hl [2, 3, 4, 5, 6, 7, 8, 1, 0] rfl) h
  · have h := ite_t c254 h
    refine lv_aload_n hx hb dL_isRefused_319 rfl (lv_at hl 0 rfl) ?_
    refine lv_iconst (v := (5 : Int32)) hx hb dL_isRefused_320 (by decide) ?_
    refine lv_iconst (v := (0 : Int32)) hx hb dL_isRefused_321 (by decide) ?_
    refine lv_iconst (v := (0 : Int32)) hx hb dL_isRefused_322 (by decide) ?_
    refine lv_iload_n hx hb dL_isRefused_323 rfl (lv_at hl 3 rfl) ?_
    refine r_if_eq hx hb rfl (tgt := 336) dL_isRefused_324 (by decide) (fun c257 => ?_) (fun c257 => ?_)
    · have h := ite_t c257 h
      refine lv_iconst (v := (3 : Int32)) hx hb dL_isRefused_336 (by decide) ?_
      exact tL_isRefused_337 (σ := σ) (ρ := ρ) X hlt p2 post  _ _ (by omega) (by omega) t248 vv249 ad250 x3 x4 x5 x6 0 ((3 : Int32)) (Xt.tr hX9 q251) hW hS (lv_sub hl [0, 1, 2, 3, 4, 5, 6] rfl) h
    · have h := ite_f c257 h
      refine lv_iconst (v := (-1 : Int32)) hx hb dL_isRefused_327 (by decide) ?_
      refine lv_iload_n hx hb dL_isRefused_328 rfl (lv_at hl 2 rfl) ?_
      refine lv_bipush (v := (30 : Int32)) hx hb dL_isRefused_329 (by decide) ?_
      refine lv_irem hx hb dL_isRefused_331 (by decide) ?_
      refine lv_isub hx hb dL_isRefused_332 ?_
      refine lv_goto (tgt := 337) hx hb dL_isRefused_333 (by decide) ?_
      exact tL_isRefused_337 (σ := σ) (ρ := ρ) X hlt p2 post  _ _ (by omega) (by omega) t248 vv249 ad250 x3 x4 x5 x6 0 (((-1 : Int32)) - (p2 - p2 / ((30 : Int32)) * ((30 : Int32)))) (Xt.tr hX9 q251) hW hS (lv_sub hl [0, 1, 2, 3, 4, 5, 6] rfl) h
set_option maxHeartbeats 4000000 in
set_option maxRecDepth 100000 in
theorem tL_isRefused_275 {p : Program} {l : Launch} {e : Env} {s : State} {m : MethodId} {args : Array Value} {below : List Frame} {meth : Method} {c : Code} {z : Nat} {G : Gl} {ad : Nat → Nat → Nat} {σ : SG} {ν : NU} {ρ : RH} {lo : Int64} (X : Cx p l e s m args below meth c cL_isRefused (some .boolean) 10 RL wsL_isRefused z G) (hlt : l.stackTraces = false) (p2 : Int32)  (post : Int32 → SG → NU → Prop) : ∀ (kc ks : Nat), kc + 354 ≤ 478 → ks + 4843 ≤ 6481 → ∀ (a1 : SG) (a2 : NU) (b1 : Nat → Nat → Nat) (x3 : Int32) (x4 : Int32) (x5 : Int32) (x6 : Int64) (y0 : Nat) (y2 : Int32) {H : Heap} {locs : List Loc} {ls : Array Slot}, Xt ad b1 ν a2 → WP z G b1 (a1, a2, ρ, lo) H → va_S (Az z) s.heap H locs → lv_has ls 10 [(0, .ref (b1 0 0)), (1, .ref (b1 100 0)), (2, .int p2), (3, .int x3), (4, .int x4), (5, .int x5), (6, .long x6)] → jL_isRefused_275 p2 post a1 a2 ρ x3 x4 x5 x6 y0 y2 → W p l e ({ frames := 12, cells := 478, slots := 6481, locals := 296 } : Room) s m args below meth c H locs kc ks (MQ below (Qia z G (fun r S1 => ∃ (t : SG) (u : NU), S1.1 = (t, u, ρ, lo) ∧ Xt ad S1.2 ν u ∧ post r t u)) args s 478 6481 (Az z)) (F0 m 275 ls [.int y2, .int ((5 : Int32)), .ref (b1 0 0)]) := by
  obtain ⟨hx, hb, hr, hml, hown, hts, hlocks, hE, hz⟩ := id X
  intro kc ks hB1 hB2 a1 a2 b1 x3 x4 x5 x6 y0 y2 H locs ls hX9 hW hS hl h
  unfold jL_isRefused_275 at h
  refine lv_iconst (v := (0 : Int32)) hx hb dL_isRefused_275 (by decide) ?_
  refine lv_iconst (v := (0 : Int32)) hx hb dL_isRefused_276 (by decide) ?_
  refine lv_iconst (v := (0 : Int32)) hx hb dL_isRefused_277 (by decide) ?_
  refine kWA_Si (rest := []) (As := [.ref (b1 0 0), .int ((5 : Int32)), .int y2, .int ((0 : Int32)), .int ((0 : Int32)), .int ((0 : Int32))]) ⟨hx, hb, hml, hown, hts⟩ hE hz hS hW (mtL_does_5 l hlt z G b1 a1 a2 ρ lo y2 ((0 : Int32)) ((0 : Int32)) ((0 : Int32)) _ h) (vx_cwSW 6 hts gL_isRefused_L_does rfl rfl rfl (by decide +kernel) ⟨Nat.le_of_ble_eq_true rfl, Nat.le_of_ble_eq_true rfl⟩) rfl hl.1 rfl (Nat.le_of_ble_eq_true rfl) dL_isRefused_278 ⟨by show _ ≤ 478; omega, by show _ ≤ 6481; omega⟩ (fun r235 S1 ad238 H locs hp hW hS => ?_)
  obtain ⟨t236, vv237, rfl, q239, h⟩ := hp
  have z240 : ad238 0 0 = b1 0 0 := (q239 0 0 (by decide) rfl).2
  have z241 : ad238 100 0 = b1 100 0 := (q239 100 0 (by decide) ⟨rfl, by decide, by decide⟩).2
  have hl : lv_has ls 10 [(0, .ref (ad238 0 0)), (1, .ref (ad238 100 0)), (2, .int p2), (3, .int x3), (4, .int x4), (5, .int x5), (6, .long x6)] := by rw [z240, z241]; exact hl
  refine lv_sipush (v := (-1382 : Int32)) hx hb dL_isRefused_281 (by decide) ?_
  refine r_icmp_ne hx hb rfl (show (-1382 : Int32).toInt = (-1382) by decide) (tgt := 372) dL_isRefused_284 (by decide) (fun c242 => ?_) (fun c242 => ?_)
  · have h := ite_f c242 h
    refine lv_iconst (v := (0 : Int32)) hx hb dL_isRefused_372 (by decide) ?_
    refine lv_istore (lv' := [(8, .int ((0 : Int32))), (0, .ref (ad238 0 0)), (1, .ref (ad238 100 0)), (2, .int p2), (3, .int x3), (4, .int x4), (5, .int x5), (6, .long x6)]) hx hb dL_isRefused_373 hl (by decide) rfl (fun ls hl => ?_)
    refine lv_bipush (v := (7 : Int32)) hx hb dL_isRefused_375 (by decide) ?_
    refine lv_istore (lv' := [(9, .int ((7 : Int32))), (8, .int ((0 : Int32))), (0, .ref (ad238 0 0)), (1, .ref (ad238 100 0)), (2, .int p2), (3, .int x3), (4, .int x4), (5, .int x5), (6, .long x6)]) hx hb dL_isRefused_377 hl (by decide) rfl (fun ls hl => ?_)
    obtain ⟨n243, n244, h⟩ := h
    exact tL_isRefused_379 (σ := σ) (ρ := ρ) X hlt p2 post  n243 _ _ (by omega) (by omega) t236 vv237 ad238 x3 x4 x5 x6 ((0 : Int32)) ((7 : Int32)) (Xt.tr hX9 q239) hW hS (lv_sub hl [2, 3, 4, 5, 6, 7, 8, 1, 0] rfl) h
  · have h := ite_t c242 h
    refine lv_aload_n hx hb dL_isRefused_287 rfl (lv_at hl 0 rfl) ?_
    refine lv_iconst (v := (5 : Int32)) hx hb dL_isRefused_288 (by decide) ?_
    refine lv_iconst (v := (0 : Int32)) hx hb dL_isRefused_289 (by decide) ?_
    refine lv_iload_n hx hb dL_isRefused_290 rfl (lv_at hl 3 rfl) ?_
    refine r_if_eq hx hb rfl (tgt := 298) dL_isRefused_291 (by decide) (fun c245 => ?_) (fun c245 => ?_)
    · have h := ite_t c245 h
      refine lv_aload_n hx hb dL_isRefused_298 rfl (lv_at hl 1 rfl) ?_
      refine lv_iconst (v := (0 : Int32)) hx hb dL_isRefused_299 (by decide) ?_
      obtain ⟨b246, h⟩ := h
      refine r_iald hx hb hE hW 100 0 ⟨rfl, by decide, by decide⟩ (n := 14) (f := ρ 0) rfl b246 (v := ρ 0 ((0 : Int32)).toNatClampNeg) rfl dL_isRefused_300 ?_
      refine lv_iconst (v := (1 : Int32)) hx hb dL_isRefused_301 (by decide) ?_
      refine lv_iadd hx hb dL_isRefused_302 ?_
      refine lv_iload_n hx hb dL_isRefused_303 rfl (lv_at hl 2 rfl) ?_
      refine lv_bipush (v := (30 : Int32)) hx hb dL_isRefused_304 (by decide) ?_
      refine lv_irem hx hb dL_isRefused_306 (by decide) ?_
      refine lv_iadd hx hb dL_isRefused_307 ?_
      exact tL_isRefused_308 (σ := σ) (ρ := ρ) X hlt p2 post  _ _ (by omega) (by omega) t236 vv237 ad238 x3 x4 x5 x6 0 (((ρ 0 ((0 : Int32)).toNatClampNeg) + ((1 : Int32))) + (p2 - p2 / ((30 : Int32)) * ((30 : Int32)))) (Xt.tr hX9 q239) hW hS (lv_sub hl [0, 1, 2, 3, 4, 5, 6] rfl) h
    · have h := ite_f c245 h
      refine lv_iconst (v := (-1 : Int32)) hx hb dL_isRefused_294 (by decide) ?_
      refine lv_goto (tgt := 308) hx hb dL_isRefused_295 (by decide) ?_
      exact tL_isRefused_308 (σ := σ) (ρ := ρ) X hlt p2 post  _ _ (by omega) (by omega) t236 vv237 ad238 x3 x4 x5 x6 0 ((-1 : Int32)) (Xt.tr hX9 q239) hW hS (lv_sub hl [0, 1, 2, 3, 4, 5, 6] rfl) h
set_option maxHeartbeats 4000000 in
set_option maxRecDepth 100000 in
theorem tL_isRefused_191 {p : Program} {l : Launch} {e : Env} {s : State} {m : MethodId} {args : Array Value} {below : List Frame} {meth : Method} {c : Code} {z : Nat} {G : Gl} {ad : Nat → Nat → Nat} {σ : SG} {ν : NU} {ρ : RH} {lo : Int64} (X : Cx p l e s m args below meth c cL_isRefused (some .boolean) 10 RL wsL_isRefused z G) (hlt : l.stackTraces = false) (p2 : Int32)  (post : Int32 → SG → NU → Prop) : ∀ (kc ks : Nat), kc + 436 ≤ 478 → ks + 5931 ≤ 6481 → ∀ (a1 : SG) (a2 : NU) (b1 : Nat → Nat → Nat) (x3 : Int32) (x4 : Int32) (x5 : Int32) (x6 : Int64) (y0 : Nat) (y4 : Int32) {H : Heap} {locs : List Loc} {ls : Array Slot}, Xt ad b1 ν a2 → WP z G b1 (a1, a2, ρ, lo) H → va_S (Az z) s.heap H locs → lv_has ls 10 [(0, .ref (b1 0 0)), (1, .ref (b1 100 0)), (2, .int p2), (3, .int x3), (4, .int x4), (5, .int x5), (6, .long x6)] → jL_isRefused_191 p2 post a1 a2 ρ x3 x4 x5 x6 y0 y4 → W p l e ({ frames := 12, cells := 478, slots := 6481, locals := 296 } : Room) s m args below meth c H locs kc ks (MQ below (Qia z G (fun r S1 => ∃ (t : SG) (u : NU), S1.1 = (t, u, ρ, lo) ∧ Xt ad S1.2 ν u ∧ post r t u)) args s 478 6481 (Az z)) (F0 m 191 ls [.int y4, .int ((5 : Int32)), .int ((-1 : Int32)), .int ((3 : Int32)), .ref (b1 0 0)]) := by
  obtain ⟨hx, hb, hr, hml, hown, hts, hlocks, hE, hz⟩ := id X
  intro kc ks hB1 hB2 a1 a2 b1 x3 x4 x5 x6 y0 y4 H locs ls hX9 hW hS hl h
  unfold jL_isRefused_191 at h
  refine lv_iconst (v := (0 : Int32)) hx hb dL_isRefused_191 (by decide) ?_
  refine kWA_Si (rest := []) (As := [.ref (b1 0 0), .int ((3 : Int32)), .int ((-1 : Int32)), .int ((5 : Int32)), .int y4, .int ((0 : Int32))]) ⟨hx, hb, hml, hown, hts⟩ hE hz hS hW (mtL_does_3 l hlt z G b1 a1 a2 ρ lo ((-1 : Int32)) ((5 : Int32)) y4 ((0 : Int32)) _ h) (vx_cwSW 6 hts gL_isRefused_L_does rfl rfl rfl (by decide +kernel) ⟨Nat.le_of_ble_eq_true rfl, Nat.le_of_ble_eq_true rfl⟩) rfl hl.1 rfl (Nat.le_of_ble_eq_true rfl) dL_isRefused_192 ⟨by show _ ≤ 478; omega, by show _ ≤ 6481; omega⟩ (fun r194 S1 ad197 H locs hp hW hS => ?_)
  obtain ⟨t195, vv196, rfl, q198, h⟩ := hp
  have z199 : ad197 0 0 = b1 0 0 := (q198 0 0 (by decide) rfl).2
  have z200 : ad197 100 0 = b1 100 0 := (q198 100 0 (by decide) ⟨rfl, by decide, by decide⟩).2
  have hl : lv_has ls 10 [(0, .ref (ad197 0 0)), (1, .ref (ad197 100 0)), (2, .int p2), (3, .int x3), (4, .int x4), (5, .int x5), (6, .long x6)] := by rw [z199, z200]; exact hl
  refine lv_sipush (v := (-1382 : Int32)) hx hb dL_isRefused_195 (by decide) ?_
  refine r_icmp_ne hx hb rfl (show (-1382 : Int32).toInt = (-1382) by decide) (tgt := 372) dL_isRefused_198 (by decide) (fun c201 => ?_) (fun c201 => ?_)
  · have h := ite_f c201 h
    refine lv_iconst (v := (0 : Int32)) hx hb dL_isRefused_372 (by decide) ?_
    refine lv_istore (lv' := [(8, .int ((0 : Int32))), (0, .ref (ad197 0 0)), (1, .ref (ad197 100 0)), (2, .int p2), (3, .int x3), (4, .int x4), (5, .int x5), (6, .long x6)]) hx hb dL_isRefused_373 hl (by decide) rfl (fun ls hl => ?_)
    refine lv_bipush (v := (7 : Int32)) hx hb dL_isRefused_375 (by decide) ?_
    refine lv_istore (lv' := [(9, .int ((7 : Int32))), (8, .int ((0 : Int32))), (0, .ref (ad197 0 0)), (1, .ref (ad197 100 0)), (2, .int p2), (3, .int x3), (4, .int x4), (5, .int x5), (6, .long x6)]) hx hb dL_isRefused_377 hl (by decide) rfl (fun ls hl => ?_)
    obtain ⟨n202, n203, h⟩ := h
    exact tL_isRefused_379 (σ := σ) (ρ := ρ) X hlt p2 post  n202 _ _ (by omega) (by omega) t195 vv196 ad197 x3 x4 x5 x6 ((0 : Int32)) ((7 : Int32)) (Xt.tr hX9 q198) hW hS (lv_sub hl [2, 3, 4, 5, 6, 7, 8, 1, 0] rfl) h
  · have h := ite_t c201 h
    refine lv_aload_n hx hb dL_isRefused_201 rfl (lv_at hl 0 rfl) ?_
    refine lv_iconst (v := (3 : Int32)) hx hb dL_isRefused_202 (by decide) ?_
    refine lv_iconst (v := (-1 : Int32)) hx hb dL_isRefused_203 (by decide) ?_
    refine lv_iconst (v := (5 : Int32)) hx hb dL_isRefused_204 (by decide) ?_
    refine lv_bipush (v := (27 : Int32)) hx hb dL_isRefused_205 (by decide) ?_
    refine lv_iconst (v := (1 : Int32)) hx hb dL_isRefused_207 (by decide) ?_
    refine lv_iload_n hx hb dL_isRefused_208 rfl (lv_at hl 2 rfl) ?_
    refine lv_bipush (v := (26 : Int32)) hx hb dL_isRefused_209 (by decide) ?_
    refine lv_irem hx hb dL_isRefused_211 (by decide) ?_
    refine lv_iadd hx hb dL_isRefused_212 ?_
    refine lv_imul hx hb dL_isRefused_213 ?_
    refine lv_iconst (v := (0 : Int32)) hx hb dL_isRefused_214 (by decide) ?_
    refine kWA_Si (rest := []) (As := [.ref (ad197 0 0), .int ((3 : Int32)), .int ((-1 : Int32)), .int ((5 : Int32)), .int (((27 : Int32)) * (((1 : Int32)) + (p2 - p2 / ((26 : Int32)) * ((26 : Int32))))), .int ((0 : Int32))]) ⟨hx, hb, hml, hown, hts⟩ hE hz hS hW (mtL_does_3 l hlt z G ad197 t195 vv196 ρ lo ((-1 : Int32)) ((5 : Int32)) (((27 : Int32)) * (((1 : Int32)) + (p2 - p2 / ((26 : Int32)) * ((26 : Int32))))) ((0 : Int32)) _ h) (vx_cwSW 6 hts gL_isRefused_L_does rfl rfl rfl (by decide +kernel) ⟨Nat.le_of_ble_eq_true rfl, Nat.le_of_ble_eq_true rfl⟩) rfl hl.1 rfl (Nat.le_of_ble_eq_true rfl) dL_isRefused_215 ⟨by show _ ≤ 478; omega, by show _ ≤ 6481; omega⟩ (fun r204 S1 ad207 H locs hp hW hS => ?_)
    obtain ⟨t205, vv206, rfl, q208, h⟩ := hp
    have z209 : ad207 0 0 = ad197 0 0 := (q208 0 0 (by decide) rfl).2
    have z210 : ad207 100 0 = ad197 100 0 := (q208 100 0 (by decide) ⟨rfl, by decide, by decide⟩).2
    have hl : lv_has ls 10 [(0, .ref (ad207 0 0)), (1, .ref (ad207 100 0)), (2, .int p2), (3, .int x3), (4, .int x4), (5, .int x5), (6, .long x6)] := by rw [z209, z210]; exact hl
    refine lv_sipush (v := (-1382 : Int32)) hx hb dL_isRefused_218 (by decide) ?_
    refine r_icmp_ne hx hb rfl (show (-1382 : Int32).toInt = (-1382) by decide) (tgt := 372) dL_isRefused_221 (by decide) (fun c211 => ?_) (fun c211 => ?_)
    · have h := ite_f c211 h
      refine lv_iconst (v := (0 : Int32)) hx hb dL_isRefused_372 (by decide) ?_
      refine lv_istore (lv' := [(8, .int ((0 : Int32))), (0, .ref (ad207 0 0)), (1, .ref (ad207 100 0)), (2, .int p2), (3, .int x3), (4, .int x4), (5, .int x5), (6, .long x6)]) hx hb dL_isRefused_373 hl (by decide) rfl (fun ls hl => ?_)
      refine lv_bipush (v := (7 : Int32)) hx hb dL_isRefused_375 (by decide) ?_
      refine lv_istore (lv' := [(9, .int ((7 : Int32))), (8, .int ((0 : Int32))), (0, .ref (ad207 0 0)), (1, .ref (ad207 100 0)), (2, .int p2), (3, .int x3), (4, .int x4), (5, .int x5), (6, .long x6)]) hx hb dL_isRefused_377 hl (by decide) rfl (fun ls hl => ?_)
      obtain ⟨n212, n213, h⟩ := h
      exact tL_isRefused_379 (σ := σ) (ρ := ρ) X hlt p2 post  n212 _ _ (by omega) (by omega) t205 vv206 ad207 x3 x4 x5 x6 ((0 : Int32)) ((7 : Int32)) (Xt.tr (Xt.tr hX9 q198) q208) hW hS (lv_sub hl [2, 3, 4, 5, 6, 7, 8, 1, 0] rfl) h
    · have h := ite_t c211 h
      refine lv_aload_n hx hb dL_isRefused_224 rfl (lv_at hl 0 rfl) ?_
      refine lv_iconst (v := (4 : Int32)) hx hb dL_isRefused_225 (by decide) ?_
      refine lv_iconst (v := (1 : Int32)) hx hb dL_isRefused_226 (by decide) ?_
      refine lv_iload hx hb dL_isRefused_227 (lv_at hl 4 rfl) ?_
      refine lv_iconst (v := (0 : Int32)) hx hb dL_isRefused_229 (by decide) ?_
      refine lv_iconst (v := (0 : Int32)) hx hb dL_isRefused_230 (by decide) ?_
      refine kWA_Si (rest := []) (As := [.ref (ad207 0 0), .int ((4 : Int32)), .int ((1 : Int32)), .int x4, .int ((0 : Int32)), .int ((0 : Int32))]) ⟨hx, hb, hml, hown, hts⟩ hE hz hS hW (mtL_does_4 l hlt z G ad207 t205 vv206 ρ lo ((1 : Int32)) x4 ((0 : Int32)) ((0 : Int32)) _ h) (vx_cwSW 6 hts gL_isRefused_L_does rfl rfl rfl (by decide +kernel) ⟨Nat.le_of_ble_eq_true rfl, Nat.le_of_ble_eq_true rfl⟩) rfl hl.1 rfl (Nat.le_of_ble_eq_true rfl) dL_isRefused_231 ⟨by show _ ≤ 478; omega, by show _ ≤ 6481; omega⟩ (fun r214 S1 ad217 H locs hp hW hS => ?_)
      obtain ⟨t215, vv216, rfl, q218, h⟩ := hp
      have z219 : ad217 0 0 = ad207 0 0 := (q218 0 0 (by decide) rfl).2
      have z220 : ad217 100 0 = ad207 100 0 := (q218 100 0 (by decide) ⟨rfl, by decide, by decide⟩).2
      have hl : lv_has ls 10 [(0, .ref (ad217 0 0)), (1, .ref (ad217 100 0)), (2, .int p2), (3, .int x3), (4, .int x4), (5, .int x5), (6, .long x6)] := by rw [z219, z220]; exact hl
      refine lv_sipush (v := (-1381 : Int32)) hx hb dL_isRefused_234 (by decide) ?_
      refine r_icmp_ne hx hb rfl (show (-1381 : Int32).toInt = (-1381) by decide) (tgt := 372) dL_isRefused_237 (by decide) (fun c221 => ?_) (fun c221 => ?_)
      · have h := ite_f c221 h
        refine lv_iconst (v := (0 : Int32)) hx hb dL_isRefused_372 (by decide) ?_
        refine lv_istore (lv' := [(8, .int ((0 : Int32))), (0, .ref (ad217 0 0)), (1, .ref (ad217 100 0)), (2, .int p2), (3, .int x3), (4, .int x4), (5, .int x5), (6, .long x6)]) hx hb dL_isRefused_373 hl (by decide) rfl (fun ls hl => ?_)
        refine lv_bipush (v := (7 : Int32)) hx hb dL_isRefused_375 (by decide) ?_
        refine lv_istore (lv' := [(9, .int ((7 : Int32))), (8, .int ((0 : Int32))), (0, .ref (ad217 0 0)), (1, .ref (ad217 100 0)), (2, .int p2), (3, .int x3), (4, .int x4), (5, .int x5), (6, .long x6)]) hx hb dL_isRefused_377 hl (by decide) rfl (fun ls hl => ?_)
        obtain ⟨n222, n223, h⟩ := h
        exact tL_isRefused_379 (σ := σ) (ρ := ρ) X hlt p2 post  n222 _ _ (by omega) (by omega) t215 vv216 ad217 x3 x4 x5 x6 ((0 : Int32)) ((7 : Int32)) (Xt.tr (Xt.tr (Xt.tr hX9 q198) q208) q218) hW hS (lv_sub hl [2, 3, 4, 5, 6, 7, 8, 1, 0] rfl) h
      · have h := ite_t c221 h
        refine lv_aload_n hx hb dL_isRefused_240 rfl (lv_at hl 0 rfl) ?_
        refine lv_iconst (v := (4 : Int32)) hx hb dL_isRefused_241 (by decide) ?_
        refine lv_bipush (v := (7 : Int32)) hx hb dL_isRefused_242 (by decide) ?_
        refine lv_iload hx hb dL_isRefused_244 (lv_at hl 5 rfl) ?_
        refine lv_iconst (v := (0 : Int32)) hx hb dL_isRefused_246 (by decide) ?_
        refine lv_iconst (v := (0 : Int32)) hx hb dL_isRefused_247 (by decide) ?_
        refine kWA_Si (rest := []) (As := [.ref (ad217 0 0), .int ((4 : Int32)), .int ((7 : Int32)), .int x5, .int ((0 : Int32)), .int ((0 : Int32))]) ⟨hx, hb, hml, hown, hts⟩ hE hz hS hW (mtL_does_4 l hlt z G ad217 t215 vv216 ρ lo ((7 : Int32)) x5 ((0 : Int32)) ((0 : Int32)) _ h) (vx_cwSW 6 hts gL_isRefused_L_does rfl rfl rfl (by decide +kernel) ⟨Nat.le_of_ble_eq_true rfl, Nat.le_of_ble_eq_true rfl⟩) rfl hl.1 rfl (Nat.le_of_ble_eq_true rfl) dL_isRefused_248 ⟨by show _ ≤ 478; omega, by show _ ≤ 6481; omega⟩ (fun r224 S1 ad227 H locs hp hW hS => ?_)
        obtain ⟨t225, vv226, rfl, q228, h⟩ := hp
        have z229 : ad227 0 0 = ad217 0 0 := (q228 0 0 (by decide) rfl).2
        have z230 : ad227 100 0 = ad217 100 0 := (q228 100 0 (by decide) ⟨rfl, by decide, by decide⟩).2
        have hl : lv_has ls 10 [(0, .ref (ad227 0 0)), (1, .ref (ad227 100 0)), (2, .int p2), (3, .int x3), (4, .int x4), (5, .int x5), (6, .long x6)] := by rw [z229, z230]; exact hl
        refine lv_sipush (v := (-1381 : Int32)) hx hb dL_isRefused_251 (by decide) ?_
        refine r_icmp_ne hx hb rfl (show (-1381 : Int32).toInt = (-1381) by decide) (tgt := 372) dL_isRefused_254 (by decide) (fun c231 => ?_) (fun c231 => ?_)
        · have h := ite_f c231 h
          refine lv_iconst (v := (0 : Int32)) hx hb dL_isRefused_372 (by decide) ?_
          refine lv_istore (lv' := [(8, .int ((0 : Int32))), (0, .ref (ad227 0 0)), (1, .ref (ad227 100 0)), (2, .int p2), (3, .int x3), (4, .int x4), (5, .int x5), (6, .long x6)]) hx hb dL_isRefused_373 hl (by decide) rfl (fun ls hl => ?_)
          refine lv_bipush (v := (7 : Int32)) hx hb dL_isRefused_375 (by decide) ?_
          refine lv_istore (lv' := [(9, .int ((7 : Int32))), (8, .int ((0 : Int32))), (0, .ref (ad227 0 0)), (1, .ref (ad227 100 0)), (2, .int p2), (3, .int x3), (4, .int x4), (5, .int x5), (6, .long x6)]) hx hb dL_isRefused_377 hl (by decide) rfl (fun ls hl => ?_)
          obtain ⟨n232, n233, h⟩ := h
          exact tL_isRefused_379 (σ := σ) (ρ := ρ) X hlt p2 post  n232 _ _ (by omega) (by omega) t225 vv226 ad227 x3 x4 x5 x6 ((0 : Int32)) ((7 : Int32)) (Xt.tr (Xt.tr (Xt.tr (Xt.tr hX9 q198) q208) q218) q228) hW hS (lv_sub hl [2, 3, 4, 5, 6, 7, 8, 1, 0] rfl) h
        · have h := ite_t c231 h
          refine lv_aload_n hx hb dL_isRefused_257 rfl (lv_at hl 0 rfl) ?_
          refine lv_iconst (v := (5 : Int32)) hx hb dL_isRefused_258 (by decide) ?_
          refine lv_iload_n hx hb dL_isRefused_259 rfl (lv_at hl 3 rfl) ?_
          generalize hg9 : ((-1 : Int32)) - (p2 - p2 / ((30 : Int32)) * ((30 : Int32))) = g9 at h
          refine r_if_eq hx hb rfl (tgt := 272) dL_isRefused_260 (by decide) (fun c234 => ?_) (fun c234 => ?_)
          · have h := ite_t c234 h
            refine lv_sipush (v := (5001 : Int32)) hx hb dL_isRefused_272 (by decide) ?_
            exact tL_isRefused_275 (σ := σ) (ρ := ρ) X hlt p2 post  _ _ (by omega) (by omega) t225 vv226 ad227 x3 x4 x5 x6 0 ((5001 : Int32)) (Xt.tr (Xt.tr (Xt.tr (Xt.tr hX9 q198) q208) q218) q228) hW hS (lv_sub hl [0, 1, 2, 3, 4, 5, 6] rfl) h
          · have h := ite_f c234 h
            refine lv_iconst (v := (-1 : Int32)) hx hb dL_isRefused_263 (by decide) ?_
            refine lv_iload_n hx hb dL_isRefused_264 rfl (lv_at hl 2 rfl) ?_
            refine lv_bipush (v := (30 : Int32)) hx hb dL_isRefused_265 (by decide) ?_
            refine lv_irem hx hb dL_isRefused_267 (by decide) ?_
            refine lv_isub hx hb dL_isRefused_268 ?_
            rw [hg9]
            refine lv_goto (tgt := 275) hx hb dL_isRefused_269 (by decide) ?_
            exact tL_isRefused_275 (σ := σ) (ρ := ρ) X hlt p2 post  _ _ (by omega) (by omega) t225 vv226 ad227 x3 x4 x5 x6 0 g9 (Xt.tr (Xt.tr (Xt.tr (Xt.tr hX9 q198) q208) q218) q228) hW hS (lv_sub hl [0, 1, 2, 3, 4, 5, 6] rfl) h
set_option maxHeartbeats 4000000 in
set_option maxRecDepth 100000 in
theorem tL_isRefused_160 {p : Program} {l : Launch} {e : Env} {s : State} {m : MethodId} {args : Array Value} {below : List Frame} {meth : Method} {c : Code} {z : Nat} {G : Gl} {ad : Nat → Nat → Nat} {σ : SG} {ν : NU} {ρ : RH} {lo : Int64} (X : Cx p l e s m args below meth c cL_isRefused (some .boolean) 10 RL wsL_isRefused z G) (hlt : l.stackTraces = false) (p2 : Int32)  (post : Int32 → SG → NU → Prop) : ∀ (kc ks : Nat), kc + 456 ≤ 478 → ks + 6200 ≤ 6481 → ∀ (a1 : SG) (a2 : NU) (b1 : Nat → Nat → Nat) (x3 : Int32) (x4 : Int32) (x5 : Int32) (x6 : Int64) (y0 : Nat) (y3 : Int32) {H : Heap} {locs : List Loc} {ls : Array Slot}, Xt ad b1 ν a2 → WP z G b1 (a1, a2, ρ, lo) H → va_S (Az z) s.heap H locs → lv_has ls 10 [(0, .ref (b1 0 0)), (1, .ref (b1 100 0)), (2, .int p2), (3, .int x3), (4, .int x4), (5, .int x5), (6, .long x6)] → jL_isRefused_160 p2 post a1 a2 ρ x3 x4 x5 x6 y0 y3 → W p l e ({ frames := 12, cells := 478, slots := 6481, locals := 296 } : Room) s m args below meth c H locs kc ks (MQ below (Qia z G (fun r S1 => ∃ (t : SG) (u : NU), S1.1 = (t, u, ρ, lo) ∧ Xt ad S1.2 ν u ∧ post r t u)) args s 478 6481 (Az z)) (F0 m 160 ls [.int y3, .int ((-1 : Int32)), .int ((3 : Int32)), .ref (b1 0 0)]) := by
  obtain ⟨hx, hb, hr, hml, hown, hts, hlocks, hE, hz⟩ := id X
  intro kc ks hB1 hB2 a1 a2 b1 x3 x4 x5 x6 y0 y3 H locs ls hX9 hW hS hl h
  unfold jL_isRefused_160 at h
  refine lv_iconst (v := (0 : Int32)) hx hb dL_isRefused_160 (by decide) ?_
  refine lv_iconst (v := (0 : Int32)) hx hb dL_isRefused_161 (by decide) ?_
  refine kWA_Si (rest := []) (As := [.ref (b1 0 0), .int ((3 : Int32)), .int ((-1 : Int32)), .int y3, .int ((0 : Int32)), .int ((0 : Int32))]) ⟨hx, hb, hml, hown, hts⟩ hE hz hS hW (mtL_does_3 l hlt z G b1 a1 a2 ρ lo ((-1 : Int32)) y3 ((0 : Int32)) ((0 : Int32)) _ h) (vx_cwSW 6 hts gL_isRefused_L_does rfl rfl rfl (by decide +kernel) ⟨Nat.le_of_ble_eq_true rfl, Nat.le_of_ble_eq_true rfl⟩) rfl hl.1 rfl (Nat.le_of_ble_eq_true rfl) dL_isRefused_162 ⟨by show _ ≤ 478; omega, by show _ ≤ 6481; omega⟩ (fun r183 S1 ad186 H locs hp hW hS => ?_)
  obtain ⟨t184, vv185, rfl, q187, h⟩ := hp
  have z188 : ad186 0 0 = b1 0 0 := (q187 0 0 (by decide) rfl).2
  have z189 : ad186 100 0 = b1 100 0 := (q187 100 0 (by decide) ⟨rfl, by decide, by decide⟩).2
  have hl : lv_has ls 10 [(0, .ref (ad186 0 0)), (1, .ref (ad186 100 0)), (2, .int p2), (3, .int x3), (4, .int x4), (5, .int x5), (6, .long x6)] := by rw [z188, z189]; exact hl
  refine lv_sipush (v := (-1382 : Int32)) hx hb dL_isRefused_165 (by decide) ?_
  refine r_icmp_ne hx hb rfl (show (-1382 : Int32).toInt = (-1382) by decide) (tgt := 372) dL_isRefused_168 (by decide) (fun c190 => ?_) (fun c190 => ?_)
  · have h := ite_f c190 h
    refine lv_iconst (v := (0 : Int32)) hx hb dL_isRefused_372 (by decide) ?_
    refine lv_istore (lv' := [(8, .int ((0 : Int32))), (0, .ref (ad186 0 0)), (1, .ref (ad186 100 0)), (2, .int p2), (3, .int x3), (4, .int x4), (5, .int x5), (6, .long x6)]) hx hb dL_isRefused_373 hl (by decide) rfl (fun ls hl => ?_)
    refine lv_bipush (v := (7 : Int32)) hx hb dL_isRefused_375 (by decide) ?_
    refine lv_istore (lv' := [(9, .int ((7 : Int32))), (8, .int ((0 : Int32))), (0, .ref (ad186 0 0)), (1, .ref (ad186 100 0)), (2, .int p2), (3, .int x3), (4, .int x4), (5, .int x5), (6, .long x6)]) hx hb dL_isRefused_377 hl (by decide) rfl (fun ls hl => ?_)
    obtain ⟨n191, n192, h⟩ := h
    exact tL_isRefused_379 (σ := σ) (ρ := ρ) X hlt p2 post  n191 _ _ (by omega) (by omega) t184 vv185 ad186 x3 x4 x5 x6 ((0 : Int32)) ((7 : Int32)) (Xt.tr hX9 q187) hW hS (lv_sub hl [2, 3, 4, 5, 6, 7, 8, 1, 0] rfl) h
  · have h := ite_t c190 h
    refine lv_aload_n hx hb dL_isRefused_171 rfl (lv_at hl 0 rfl) ?_
    refine lv_iconst (v := (3 : Int32)) hx hb dL_isRefused_172 (by decide) ?_
    refine lv_iconst (v := (-1 : Int32)) hx hb dL_isRefused_173 (by decide) ?_
    refine lv_iconst (v := (5 : Int32)) hx hb dL_isRefused_174 (by decide) ?_
    refine lv_iload_n hx hb dL_isRefused_175 rfl (lv_at hl 3 rfl) ?_
    refine r_if_eq hx hb rfl (tgt := 183) dL_isRefused_176 (by decide) (fun c193 => ?_) (fun c193 => ?_)
    · have h := ite_t c193 h
      refine lv_sipush (v := (729 : Int32)) hx hb dL_isRefused_183 (by decide) ?_
      refine lv_iload_n hx hb dL_isRefused_186 rfl (lv_at hl 2 rfl) ?_
      refine lv_bipush (v := (30 : Int32)) hx hb dL_isRefused_187 (by decide) ?_
      refine lv_irem hx hb dL_isRefused_189 (by decide) ?_
      refine lv_iadd hx hb dL_isRefused_190 ?_
      exact tL_isRefused_191 (σ := σ) (ρ := ρ) X hlt p2 post  _ _ (by omega) (by omega) t184 vv185 ad186 x3 x4 x5 x6 0 (((729 : Int32)) + (p2 - p2 / ((30 : Int32)) * ((30 : Int32)))) (Xt.tr hX9 q187) hW hS (lv_sub hl [0, 1, 2, 3, 4, 5, 6] rfl) h
    · have h := ite_f c193 h
      refine lv_iconst (v := (-1 : Int32)) hx hb dL_isRefused_179 (by decide) ?_
      refine lv_goto (tgt := 191) hx hb dL_isRefused_180 (by decide) ?_
      exact tL_isRefused_191 (σ := σ) (ρ := ρ) X hlt p2 post  _ _ (by omega) (by omega) t184 vv185 ad186 x3 x4 x5 x6 0 ((-1 : Int32)) (Xt.tr hX9 q187) hW hS (lv_sub hl [0, 1, 2, 3, 4, 5, 6] rfl) h
set_option maxHeartbeats 4000000 in
set_option maxRecDepth 100000 in
theorem tL_isRefused_114 {p : Program} {l : Launch} {e : Env} {s : State} {m : MethodId} {args : Array Value} {below : List Frame} {meth : Method} {c : Code} {z : Nat} {G : Gl} {ad : Nat → Nat → Nat} {σ : SG} {ν : NU} {ρ : RH} {lo : Int64} (X : Cx p l e s m args below meth c cL_isRefused (some .boolean) 10 RL wsL_isRefused z G) (hlt : l.stackTraces = false) (p2 : Int32)  (post : Int32 → SG → NU → Prop) : ∀ (kc ks : Nat), kc + 477 ≤ 478 → ks + 6475 ≤ 6481 → ∀ (a1 : SG) (a2 : NU) (b1 : Nat → Nat → Nat) (x3 : Int32) (x4 : Int32) (x5 : Int32) (x6 : Int64) (y0 : Nat) (y2 : Int32) {H : Heap} {locs : List Loc} {ls : Array Slot}, Xt ad b1 ν a2 → WP z G b1 (a1, a2, ρ, lo) H → va_S (Az z) s.heap H locs → lv_has ls 10 [(0, .ref (b1 0 0)), (1, .ref (b1 100 0)), (2, .int p2), (3, .int x3), (4, .int x4), (5, .int x5), (6, .long x6)] → jL_isRefused_114 p2 post a1 a2 ρ x3 x4 x5 x6 y0 y2 → W p l e ({ frames := 12, cells := 478, slots := 6481, locals := 296 } : Room) s m args below meth c H locs kc ks (MQ below (Qia z G (fun r S1 => ∃ (t : SG) (u : NU), S1.1 = (t, u, ρ, lo) ∧ Xt ad S1.2 ν u ∧ post r t u)) args s 478 6481 (Az z)) (F0 m 114 ls [.int y2, .int ((2 : Int32)), .ref (b1 0 0)]) := by
  obtain ⟨hx, hb, hr, hml, hown, hts, hlocks, hE, hz⟩ := id X
  intro kc ks hB1 hB2 a1 a2 b1 x3 x4 x5 x6 y0 y2 H locs ls hX9 hW hS hl h
  unfold jL_isRefused_114 at h
  refine lv_iconst (v := (0 : Int32)) hx hb dL_isRefused_114 (by decide) ?_
  refine lv_iconst (v := (0 : Int32)) hx hb dL_isRefused_115 (by decide) ?_
  refine lv_iconst (v := (0 : Int32)) hx hb dL_isRefused_116 (by decide) ?_
  refine kW_Si (rest := []) (As := [.ref (b1 0 0), .int ((2 : Int32)), .int y2, .int ((0 : Int32)), .int ((0 : Int32)), .int ((0 : Int32))]) ⟨hx, hb, hml, hown, hts⟩ hE hz hS hW (mtL_does_2 l hlt z G b1 a1 a2 ρ lo y2 ((0 : Int32)) ((0 : Int32)) ((0 : Int32)) _ h) (vx_cwSW 6 hts gL_isRefused_L_does rfl rfl rfl (by decide +kernel) ⟨Nat.le_of_ble_eq_true rfl, Nat.le_of_ble_eq_true rfl⟩) rfl hl.1 rfl (Nat.le_of_ble_eq_true rfl) dL_isRefused_117 ⟨by show _ ≤ 478; omega, by show _ ≤ 6481; omega⟩ (fun r167 S1 H locs hp hW hS => ?_)
  obtain ⟨t168, rfl, h⟩ := hp
  refine lv_sipush (v := (-1382 : Int32)) hx hb dL_isRefused_120 (by decide) ?_
  refine r_icmp_ne hx hb rfl (show (-1382 : Int32).toInt = (-1382) by decide) (tgt := 372) dL_isRefused_123 (by decide) (fun c169 => ?_) (fun c169 => ?_)
  · have h := ite_f c169 h
    refine lv_iconst (v := (0 : Int32)) hx hb dL_isRefused_372 (by decide) ?_
    refine lv_istore (lv' := [(8, .int ((0 : Int32))), (0, .ref (b1 0 0)), (1, .ref (b1 100 0)), (2, .int p2), (3, .int x3), (4, .int x4), (5, .int x5), (6, .long x6)]) hx hb dL_isRefused_373 hl (by decide) rfl (fun ls hl => ?_)
    refine lv_bipush (v := (7 : Int32)) hx hb dL_isRefused_375 (by decide) ?_
    refine lv_istore (lv' := [(9, .int ((7 : Int32))), (8, .int ((0 : Int32))), (0, .ref (b1 0 0)), (1, .ref (b1 100 0)), (2, .int p2), (3, .int x3), (4, .int x4), (5, .int x5), (6, .long x6)]) hx hb dL_isRefused_377 hl (by decide) rfl (fun ls hl => ?_)
    obtain ⟨n170, n171, h⟩ := h
    exact tL_isRefused_379 (σ := σ) (ρ := ρ) X hlt p2 post  n170 _ _ (by omega) (by omega) t168 a2 b1 x3 x4 x5 x6 ((0 : Int32)) ((7 : Int32)) hX9 hW hS (lv_sub hl [2, 3, 4, 5, 6, 7, 8, 1, 0] rfl) h
  · have h := ite_t c169 h
    refine lv_aload_n hx hb dL_isRefused_126 rfl (lv_at hl 0 rfl) ?_
    refine lv_iconst (v := (3 : Int32)) hx hb dL_isRefused_127 (by decide) ?_
    refine lv_iload hx hb dL_isRefused_128 (lv_at hl 4 rfl) ?_
    refine lv_iconst (v := (0 : Int32)) hx hb dL_isRefused_130 (by decide) ?_
    refine lv_iconst (v := (0 : Int32)) hx hb dL_isRefused_131 (by decide) ?_
    refine lv_iconst (v := (0 : Int32)) hx hb dL_isRefused_132 (by decide) ?_
    refine kWA_Si (rest := []) (As := [.ref (b1 0 0), .int ((3 : Int32)), .int x4, .int ((0 : Int32)), .int ((0 : Int32)), .int ((0 : Int32))]) ⟨hx, hb, hml, hown, hts⟩ hE hz hS hW (mtL_does_3 l hlt z G b1 t168 a2 ρ lo x4 ((0 : Int32)) ((0 : Int32)) ((0 : Int32)) _ h) (vx_cwSW 6 hts gL_isRefused_L_does rfl rfl rfl (by decide +kernel) ⟨Nat.le_of_ble_eq_true rfl, Nat.le_of_ble_eq_true rfl⟩) rfl hl.1 rfl (Nat.le_of_ble_eq_true rfl) dL_isRefused_133 ⟨by show _ ≤ 478; omega, by show _ ≤ 6481; omega⟩ (fun r172 S1 ad175 H locs hp hW hS => ?_)
    obtain ⟨t173, vv174, rfl, q176, h⟩ := hp
    have z177 : ad175 0 0 = b1 0 0 := (q176 0 0 (by decide) rfl).2
    have z178 : ad175 100 0 = b1 100 0 := (q176 100 0 (by decide) ⟨rfl, by decide, by decide⟩).2
    have hl : lv_has ls 10 [(0, .ref (ad175 0 0)), (1, .ref (ad175 100 0)), (2, .int p2), (3, .int x3), (4, .int x4), (5, .int x5), (6, .long x6)] := by rw [z177, z178]; exact hl
    refine lv_sipush (v := (-1381 : Int32)) hx hb dL_isRefused_136 (by decide) ?_
    refine r_icmp_ne hx hb rfl (show (-1381 : Int32).toInt = (-1381) by decide) (tgt := 372) dL_isRefused_139 (by decide) (fun c179 => ?_) (fun c179 => ?_)
    · have h := ite_f c179 h
      refine lv_iconst (v := (0 : Int32)) hx hb dL_isRefused_372 (by decide) ?_
      refine lv_istore (lv' := [(8, .int ((0 : Int32))), (0, .ref (ad175 0 0)), (1, .ref (ad175 100 0)), (2, .int p2), (3, .int x3), (4, .int x4), (5, .int x5), (6, .long x6)]) hx hb dL_isRefused_373 hl (by decide) rfl (fun ls hl => ?_)
      refine lv_bipush (v := (7 : Int32)) hx hb dL_isRefused_375 (by decide) ?_
      refine lv_istore (lv' := [(9, .int ((7 : Int32))), (8, .int ((0 : Int32))), (0, .ref (ad175 0 0)), (1, .ref (ad175 100 0)), (2, .int p2), (3, .int x3), (4, .int x4), (5, .int x5), (6, .long x6)]) hx hb dL_isRefused_377 hl (by decide) rfl (fun ls hl => ?_)
      obtain ⟨n180, n181, h⟩ := h
      exact tL_isRefused_379 (σ := σ) (ρ := ρ) X hlt p2 post  n180 _ _ (by omega) (by omega) t173 vv174 ad175 x3 x4 x5 x6 ((0 : Int32)) ((7 : Int32)) (Xt.tr hX9 q176) hW hS (lv_sub hl [2, 3, 4, 5, 6, 7, 8, 1, 0] rfl) h
    · have h := ite_t c179 h
      refine lv_aload_n hx hb dL_isRefused_142 rfl (lv_at hl 0 rfl) ?_
      refine lv_iconst (v := (3 : Int32)) hx hb dL_isRefused_143 (by decide) ?_
      refine lv_iconst (v := (-1 : Int32)) hx hb dL_isRefused_144 (by decide) ?_
      refine lv_iload_n hx hb dL_isRefused_145 rfl (lv_at hl 3 rfl) ?_
      refine r_if_eq hx hb rfl (tgt := 158) dL_isRefused_146 (by decide) (fun c182 => ?_) (fun c182 => ?_)
      · have h := ite_t c182 h
        refine lv_bipush (v := (100 : Int32)) hx hb dL_isRefused_158 (by decide) ?_
        exact tL_isRefused_160 (σ := σ) (ρ := ρ) X hlt p2 post  _ _ (by omega) (by omega) t173 vv174 ad175 x3 x4 x5 x6 0 ((100 : Int32)) (Xt.tr hX9 q176) hW hS (lv_sub hl [0, 1, 2, 3, 4, 5, 6] rfl) h
      · have h := ite_f c182 h
        refine lv_iconst (v := (0 : Int32)) hx hb dL_isRefused_149 (by decide) ?_
        refine lv_iload_n hx hb dL_isRefused_150 rfl (lv_at hl 2 rfl) ?_
        refine lv_bipush (v := (30 : Int32)) hx hb dL_isRefused_151 (by decide) ?_
        refine lv_irem hx hb dL_isRefused_153 (by decide) ?_
        refine lv_isub hx hb dL_isRefused_154 ?_
        refine lv_goto (tgt := 160) hx hb dL_isRefused_155 (by decide) ?_
        exact tL_isRefused_160 (σ := σ) (ρ := ρ) X hlt p2 post  _ _ (by omega) (by omega) t173 vv174 ad175 x3 x4 x5 x6 0 (((0 : Int32)) - (p2 - p2 / ((30 : Int32)) * ((30 : Int32)))) (Xt.tr hX9 q176) hW hS (lv_sub hl [0, 1, 2, 3, 4, 5, 6] rfl) h
set_option maxHeartbeats 4000000 in
set_option maxRecDepth 100000 in
theorem tL_isRefused_84 {p : Program} {l : Launch} {e : Env} {s : State} {m : MethodId} {args : Array Value} {below : List Frame} {meth : Method} {c : Code} {z : Nat} {G : Gl} {ad : Nat → Nat → Nat} {σ : SG} {ν : NU} {ρ : RH} {lo : Int64} (X : Cx p l e s m args below meth c cL_isRefused (some .boolean) 10 RL wsL_isRefused z G) (hlt : l.stackTraces = false) (p2 : Int32)  (post : Int32 → SG → NU → Prop) : ∀ (kc ks : Nat), kc + 478 ≤ 478 → ks + 6481 ≤ 6481 → ∀ (a1 : SG) (a2 : NU) (b1 : Nat → Nat → Nat) (x3 : Int32) (x4 : Int32) (x5 : Int32) (x6 : Int64) (y0 : Nat) (y2 : Int32) {H : Heap} {locs : List Loc} {ls : Array Slot}, Xt ad b1 ν a2 → WP z G b1 (a1, a2, ρ, lo) H → va_S (Az z) s.heap H locs → lv_has ls 10 [(0, .ref (b1 0 0)), (1, .ref (b1 100 0)), (2, .int p2), (3, .int x3), (4, .int x4), (5, .int x5), (6, .long x6)] → jL_isRefused_84 p2 post a1 a2 ρ x3 x4 x5 x6 y0 y2 → W p l e ({ frames := 12, cells := 478, slots := 6481, locals := 296 } : Room) s m args below meth c H locs kc ks (MQ below (Qia z G (fun r S1 => ∃ (t : SG) (u : NU), S1.1 = (t, u, ρ, lo) ∧ Xt ad S1.2 ν u ∧ post r t u)) args s 478 6481 (Az z)) (F0 m 84 ls [.int y2, .int ((0 : Int32)), .ref (b1 0 0)]) := by
  obtain ⟨hx, hb, hr, hml, hown, hts, hlocks, hE, hz⟩ := id X
  intro kc ks hB1 hB2 a1 a2 b1 x3 x4 x5 x6 y0 y2 H locs ls hX9 hW hS hl h
  unfold jL_isRefused_84 at h
  refine lv_iconst (v := (0 : Int32)) hx hb dL_isRefused_84 (by decide) ?_
  refine lv_iconst (v := (0 : Int32)) hx hb dL_isRefused_85 (by decide) ?_
  refine lv_iconst (v := (0 : Int32)) hx hb dL_isRefused_86 (by decide) ?_
  refine kW_Si (rest := []) (As := [.ref (b1 0 0), .int ((0 : Int32)), .int y2, .int ((0 : Int32)), .int ((0 : Int32)), .int ((0 : Int32))]) ⟨hx, hb, hml, hown, hts⟩ hE hz hS hW (mtL_does_0 l hlt z G b1 a1 a2 ρ lo y2 ((0 : Int32)) ((0 : Int32)) ((0 : Int32)) _ h) (vx_cwSW 6 hts gL_isRefused_L_does rfl rfl rfl (by decide +kernel) ⟨Nat.le_of_ble_eq_true rfl, Nat.le_of_ble_eq_true rfl⟩) rfl hl.1 rfl (Nat.le_of_ble_eq_true rfl) dL_isRefused_87 ⟨by show _ ≤ 478; omega, by show _ ≤ 6481; omega⟩ (fun r8 S1 H locs hp hW hS => ?_)
  obtain ⟨t9, rfl, h⟩ := hp
  refine lv_sipush (v := (-1382 : Int32)) hx hb dL_isRefused_90 (by decide) ?_
  refine r_icmp_ne hx hb rfl (show (-1382 : Int32).toInt = (-1382) by decide) (tgt := 372) dL_isRefused_93 (by decide) (fun c10 => ?_) (fun c10 => ?_)
  · have h := ite_f c10 h
    refine lv_iconst (v := (0 : Int32)) hx hb dL_isRefused_372 (by decide) ?_
    refine lv_istore (lv' := [(8, .int ((0 : Int32))), (0, .ref (b1 0 0)), (1, .ref (b1 100 0)), (2, .int p2), (3, .int x3), (4, .int x4), (5, .int x5), (6, .long x6)]) hx hb dL_isRefused_373 hl (by decide) rfl (fun ls hl => ?_)
    refine lv_bipush (v := (7 : Int32)) hx hb dL_isRefused_375 (by decide) ?_
    refine lv_istore (lv' := [(9, .int ((7 : Int32))), (8, .int ((0 : Int32))), (0, .ref (b1 0 0)), (1, .ref (b1 100 0)), (2, .int p2), (3, .int x3), (4, .int x4), (5, .int x5), (6, .long x6)]) hx hb dL_isRefused_377 hl (by decide) rfl (fun ls hl => ?_)
    obtain ⟨n164, n165, h⟩ := h
    exact tL_isRefused_379 (σ := σ) (ρ := ρ) X hlt p2 post  n164 _ _ (by omega) (by omega) t9 a2 b1 x3 x4 x5 x6 ((0 : Int32)) ((7 : Int32)) hX9 hW hS (lv_sub hl [2, 3, 4, 5, 6, 7, 8, 1, 0] rfl) h
  · have h := ite_t c10 h
    refine lv_aload_n hx hb dL_isRefused_96 rfl (lv_at hl 0 rfl) ?_
    refine lv_iconst (v := (2 : Int32)) hx hb dL_isRefused_97 (by decide) ?_
    refine lv_iload_n hx hb dL_isRefused_98 rfl (lv_at hl 3 rfl) ?_
    generalize hg9 : ((-1 : Int32)) - (p2 - p2 / ((30 : Int32)) * ((30 : Int32))) = g9 at h
    refine r_if_eq hx hb rfl (tgt := 111) dL_isRefused_99 (by decide) (fun c166 => ?_) (fun c166 => ?_)
    · have h := ite_t c166 h
      refine lv_sipush (v := (140 : Int32)) hx hb dL_isRefused_111 (by decide) ?_
      exact tL_isRefused_114 (σ := σ) (ρ := ρ) X hlt p2 post  _ _ (by omega) (by omega) t9 a2 b1 x3 x4 x5 x6 0 ((140 : Int32)) hX9 hW hS (lv_sub hl [0, 1, 2, 3, 4, 5, 6] rfl) h
    · have h := ite_f c166 h
      refine lv_iconst (v := (-1 : Int32)) hx hb dL_isRefused_102 (by decide) ?_
      refine lv_iload_n hx hb dL_isRefused_103 rfl (lv_at hl 2 rfl) ?_
      refine lv_bipush (v := (30 : Int32)) hx hb dL_isRefused_104 (by decide) ?_
      refine lv_irem hx hb dL_isRefused_106 (by decide) ?_
      refine lv_isub hx hb dL_isRefused_107 ?_
      rw [hg9]
      refine lv_goto (tgt := 114) hx hb dL_isRefused_108 (by decide) ?_
      exact tL_isRefused_114 (σ := σ) (ρ := ρ) X hlt p2 post  _ _ (by omega) (by omega) t9 a2 b1 x3 x4 x5 x6 0 g9 hX9 hW hS (lv_sub hl [0, 1, 2, 3, 4, 5, 6] rfl) h
set_option maxHeartbeats 4000000 in
set_option maxRecDepth 100000 in
theorem tL_isRefused_57 {p : Program} {l : Launch} {e : Env} {s : State} {m : MethodId} {args : Array Value} {below : List Frame} {meth : Method} {c : Code} {z : Nat} {G : Gl} {ad : Nat → Nat → Nat} {σ : SG} {ν : NU} {ρ : RH} {lo : Int64} (X : Cx p l e s m args below meth c cL_isRefused (some .boolean) 10 RL wsL_isRefused z G) (hlt : l.stackTraces = false) (p2 : Int32)  (post : Int32 → SG → NU → Prop) : ∀ (kc ks : Nat), kc + 478 ≤ 478 → ks + 6481 ≤ 6481 → ∀ (a1 : SG) (a2 : NU) (b1 : Nat → Nat → Nat) (x3 : Int32) (x4 : Int32) (y0 : Int32) {H : Heap} {locs : List Loc} {ls : Array Slot}, Xt ad b1 ν a2 → WP z G b1 (a1, a2, ρ, lo) H → va_S (Az z) s.heap H locs → lv_has ls 10 [(0, .ref (b1 0 0)), (1, .ref (b1 100 0)), (2, .int p2), (3, .int x3), (4, .int x4)] → jL_isRefused_57 p2 post a1 a2 ρ x3 x4 y0 → W p l e ({ frames := 12, cells := 478, slots := 6481, locals := 296 } : Room) s m args below meth c H locs kc ks (MQ below (Qia z G (fun r S1 => ∃ (t : SG) (u : NU), S1.1 = (t, u, ρ, lo) ∧ Xt ad S1.2 ν u ∧ post r t u)) args s 478 6481 (Az z)) (F0 m 57 ls [.int y0]) := by
  obtain ⟨hx, hb, hr, hml, hown, hts, hlocks, hE, hz⟩ := id X
  intro kc ks hB1 hB2 a1 a2 b1 x3 x4 y0 H locs ls hX9 hW hS hl h
  unfold jL_isRefused_57 at h
  refine lv_istore (lv' := [(5, .int y0), (0, .ref (b1 0 0)), (1, .ref (b1 100 0)), (2, .int p2), (3, .int x3), (4, .int x4)]) hx hb dL_isRefused_57 hl (by decide) rfl (fun ls hl => ?_)
  refine lv_aload_n hx hb dL_isRefused_59 rfl (lv_at hl 1 rfl) ?_
  refine lv_aload_n hx hb dL_isRefused_60 rfl (lv_at hl 2 rfl) ?_
  refine k_Sl (rest := []) (As := [.ref (b1 0 0), .ref (b1 100 0)]) ⟨hx, hb, hml, hown, hts⟩ hE hz hS hW (mtL_all l hlt z G b1 a1 a2 ρ lo  _ h) (va_cwS 2 hts gL_isRefused_L_all rfl rfl rfl (by decide +kernel) ⟨Nat.le_of_ble_eq_true rfl, Nat.le_of_ble_eq_true rfl⟩) rfl hl.1 rfl (Nat.le_of_ble_eq_true rfl) dL_isRefused_61 ⟨by show _ ≤ 478; omega, by show _ ≤ 6481; omega⟩ (fun r6 S1 H locs hp hW hS => ?_)
  obtain ⟨rfl, h⟩ := hp
  refine lv_lstore (lv' := [(6, .long r6), (5, .int y0), (0, .ref (b1 0 0)), (1, .ref (b1 100 0)), (2, .int p2), (3, .int x3), (4, .int x4)]) hx hb dL_isRefused_64 hl (by decide) rfl (fun ls hl => ?_)
  refine lv_aload_n hx hb dL_isRefused_66 rfl (lv_at hl 2 rfl) ?_
  refine lv_iconst (v := (0 : Int32)) hx hb dL_isRefused_67 (by decide) ?_
  refine lv_iload_n hx hb dL_isRefused_68 rfl (lv_at hl 5 rfl) ?_
  refine r_if_eq hx hb rfl (tgt := 81) dL_isRefused_69 (by decide) (fun c7 => ?_) (fun c7 => ?_)
  · have h := ite_t c7 h
    refine lv_sipush (v := (501 : Int32)) hx hb dL_isRefused_81 (by decide) ?_
    exact tL_isRefused_84 (σ := σ) (ρ := ρ) X hlt p2 post  _ _ (by omega) (by omega) a1 a2 b1 x3 x4 y0 r6 0 ((501 : Int32)) hX9 hW hS (lv_sub hl [2, 3, 4, 5, 6, 1, 0] rfl) h
  · have h := ite_f c7 h
    refine lv_iconst (v := (0 : Int32)) hx hb dL_isRefused_72 (by decide) ?_
    refine lv_iload_n hx hb dL_isRefused_73 rfl (lv_at hl 4 rfl) ?_
    refine lv_bipush (v := (30 : Int32)) hx hb dL_isRefused_74 (by decide) ?_
    refine lv_irem hx hb dL_isRefused_76 (by decide) ?_
    refine lv_isub hx hb dL_isRefused_77 ?_
    refine lv_goto (tgt := 84) hx hb dL_isRefused_78 (by decide) ?_
    exact tL_isRefused_84 (σ := σ) (ρ := ρ) X hlt p2 post  _ _ (by omega) (by omega) a1 a2 b1 x3 x4 y0 r6 0 (((0 : Int32)) - (p2 - p2 / ((30 : Int32)) * ((30 : Int32)))) hX9 hW hS (lv_sub hl [2, 3, 4, 5, 6, 1, 0] rfl) h
set_option maxHeartbeats 4000000 in
set_option maxRecDepth 100000 in
theorem tL_isRefused_34 {p : Program} {l : Launch} {e : Env} {s : State} {m : MethodId} {args : Array Value} {below : List Frame} {meth : Method} {c : Code} {z : Nat} {G : Gl} {ad : Nat → Nat → Nat} {σ : SG} {ν : NU} {ρ : RH} {lo : Int64} (X : Cx p l e s m args below meth c cL_isRefused (some .boolean) 10 RL wsL_isRefused z G) (hlt : l.stackTraces = false) (p2 : Int32)  (post : Int32 → SG → NU → Prop) : ∀ (kc ks : Nat), kc + 478 ≤ 478 → ks + 6481 ≤ 6481 → ∀ (a1 : SG) (a2 : NU) (b1 : Nat → Nat → Nat) (x3 : Int32) (y0 : Int32) {H : Heap} {locs : List Loc} {ls : Array Slot}, Xt ad b1 ν a2 → WP z G b1 (a1, a2, ρ, lo) H → va_S (Az z) s.heap H locs → lv_has ls 10 [(0, .ref (b1 0 0)), (1, .ref (b1 100 0)), (2, .int p2), (3, .int x3)] → jL_isRefused_34 p2 post a1 a2 ρ x3 y0 → W p l e ({ frames := 12, cells := 478, slots := 6481, locals := 296 } : Room) s m args below meth c H locs kc ks (MQ below (Qia z G (fun r S1 => ∃ (t : SG) (u : NU), S1.1 = (t, u, ρ, lo) ∧ Xt ad S1.2 ν u ∧ post r t u)) args s 478 6481 (Az z)) (F0 m 34 ls [.int y0]) := by
  obtain ⟨hx, hb, hr, hml, hown, hts, hlocks, hE, hz⟩ := id X
  intro kc ks hB1 hB2 a1 a2 b1 x3 y0 H locs ls hX9 hW hS hl h
  unfold jL_isRefused_34 at h
  refine lv_istore (lv' := [(4, .int y0), (0, .ref (b1 0 0)), (1, .ref (b1 100 0)), (2, .int p2), (3, .int x3)]) hx hb dL_isRefused_34 hl (by decide) rfl (fun ls hl => ?_)
  refine lv_iload_n hx hb dL_isRefused_36 rfl (lv_at hl 4 rfl) ?_
  refine r_if_eq hx hb rfl (tgt := 49) dL_isRefused_37 (by decide) (fun c4 => ?_) (fun c4 => ?_)
  · have h := ite_t c4 h
    refine lv_aload_n hx hb dL_isRefused_49 rfl (lv_at hl 2 rfl) ?_
    refine lv_iconst (v := (2 : Int32)) hx hb dL_isRefused_50 (by decide) ?_
    obtain ⟨b5, h⟩ := h
    refine r_iald hx hb hE hW 100 0 ⟨rfl, by decide, by decide⟩ (n := 14) (f := ρ 0) rfl b5 (v := ρ 0 ((2 : Int32)).toNatClampNeg) rfl dL_isRefused_51 ?_
    refine lv_iload_n hx hb dL_isRefused_52 rfl (lv_at hl 3 rfl) ?_
    refine lv_bipush (v := (30 : Int32)) hx hb dL_isRefused_53 (by decide) ?_
    refine lv_irem hx hb dL_isRefused_55 (by decide) ?_
    refine lv_iadd hx hb dL_isRefused_56 ?_
    exact tL_isRefused_57 (σ := σ) (ρ := ρ) X hlt p2 post  _ _ (by omega) (by omega) a1 a2 b1 x3 y0 ((ρ 0 ((2 : Int32)).toNatClampNeg) + (p2 - p2 / ((30 : Int32)) * ((30 : Int32)))) hX9 hW hS (lv_sub hl [1, 2, 3, 4, 0] rfl) h
  · have h := ite_f c4 h
    refine lv_iconst (v := (-1 : Int32)) hx hb dL_isRefused_40 (by decide) ?_
    refine lv_iload_n hx hb dL_isRefused_41 rfl (lv_at hl 3 rfl) ?_
    refine lv_bipush (v := (30 : Int32)) hx hb dL_isRefused_42 (by decide) ?_
    refine lv_irem hx hb dL_isRefused_44 (by decide) ?_
    refine lv_isub hx hb dL_isRefused_45 ?_
    refine lv_goto (tgt := 57) hx hb dL_isRefused_46 (by decide) ?_
    exact tL_isRefused_57 (σ := σ) (ρ := ρ) X hlt p2 post  _ _ (by omega) (by omega) a1 a2 b1 x3 y0 (((-1 : Int32)) - (p2 - p2 / ((30 : Int32)) * ((30 : Int32)))) hX9 hW hS (lv_sub hl [1, 2, 3, 4, 0] rfl) h
set_option maxHeartbeats 4000000 in
set_option maxRecDepth 100000 in
theorem tL_isRefused_11 {p : Program} {l : Launch} {e : Env} {s : State} {m : MethodId} {args : Array Value} {below : List Frame} {meth : Method} {c : Code} {z : Nat} {G : Gl} {ad : Nat → Nat → Nat} {σ : SG} {ν : NU} {ρ : RH} {lo : Int64} (X : Cx p l e s m args below meth c cL_isRefused (some .boolean) 10 RL wsL_isRefused z G) (hlt : l.stackTraces = false) (p2 : Int32)  (post : Int32 → SG → NU → Prop) : ∀ (kc ks : Nat), kc + 478 ≤ 478 → ks + 6481 ≤ 6481 → ∀ (a1 : SG) (a2 : NU) (b1 : Nat → Nat → Nat) (y0 : Int32) {H : Heap} {locs : List Loc} {ls : Array Slot}, Xt ad b1 ν a2 → WP z G b1 (a1, a2, ρ, lo) H → va_S (Az z) s.heap H locs → lv_has ls 10 [(0, .ref (b1 0 0)), (1, .ref (b1 100 0)), (2, .int p2)] → jL_isRefused_11 p2 post a1 a2 ρ y0 → W p l e ({ frames := 12, cells := 478, slots := 6481, locals := 296 } : Room) s m args below meth c H locs kc ks (MQ below (Qia z G (fun r S1 => ∃ (t : SG) (u : NU), S1.1 = (t, u, ρ, lo) ∧ Xt ad S1.2 ν u ∧ post r t u)) args s 478 6481 (Az z)) (F0 m 11 ls [.int y0]) := by
  obtain ⟨hx, hb, hr, hml, hown, hts, hlocks, hE, hz⟩ := id X
  intro kc ks hB1 hB2 a1 a2 b1 y0 H locs ls hX9 hW hS hl h
  unfold jL_isRefused_11 at h
  refine lv_istore_n (lv' := [(3, .int y0), (0, .ref (b1 0 0)), (1, .ref (b1 100 0)), (2, .int p2)]) hx hb dL_isRefused_11 rfl hl (by decide) rfl (fun ls hl => ?_)
  refine lv_iload_n hx hb dL_isRefused_12 rfl (lv_at hl 0 rfl) ?_
  refine r_if_eq hx hb rfl (tgt := 26) dL_isRefused_13 (by decide) (fun c2 => ?_) (fun c2 => ?_)
  · have h := ite_t c2 h
    refine lv_aload_n hx hb dL_isRefused_26 rfl (lv_at hl 2 rfl) ?_
    refine lv_iconst (v := (3 : Int32)) hx hb dL_isRefused_27 (by decide) ?_
    obtain ⟨b3, h⟩ := h
    refine r_iald hx hb hE hW 100 0 ⟨rfl, by decide, by decide⟩ (n := 14) (f := ρ 0) rfl b3 (v := ρ 0 ((3 : Int32)).toNatClampNeg) rfl dL_isRefused_28 ?_
    refine lv_iload_n hx hb dL_isRefused_29 rfl (lv_at hl 3 rfl) ?_
    refine lv_bipush (v := (30 : Int32)) hx hb dL_isRefused_30 (by decide) ?_
    refine lv_irem hx hb dL_isRefused_32 (by decide) ?_
    refine lv_iadd hx hb dL_isRefused_33 ?_
    exact tL_isRefused_34 (σ := σ) (ρ := ρ) X hlt p2 post  _ _ (by omega) (by omega) a1 a2 b1 y0 ((ρ 0 ((3 : Int32)).toNatClampNeg) + (p2 - p2 / ((30 : Int32)) * ((30 : Int32)))) hX9 hW hS (lv_sub hl [1, 2, 3, 0] rfl) h
  · have h := ite_f c2 h
    refine lv_bipush (v := (-2 : Int32)) hx hb dL_isRefused_16 (by decide) ?_
    refine lv_iload_n hx hb dL_isRefused_18 rfl (lv_at hl 3 rfl) ?_
    refine lv_bipush (v := (30 : Int32)) hx hb dL_isRefused_19 (by decide) ?_
    refine lv_irem hx hb dL_isRefused_21 (by decide) ?_
    refine lv_isub hx hb dL_isRefused_22 ?_
    refine lv_goto (tgt := 34) hx hb dL_isRefused_23 (by decide) ?_
    exact tL_isRefused_34 (σ := σ) (ρ := ρ) X hlt p2 post  _ _ (by omega) (by omega) a1 a2 b1 y0 (((-2 : Int32)) - (p2 - p2 / ((30 : Int32)) * ((30 : Int32)))) hX9 hW hS (lv_sub hl [1, 2, 3, 0] rfl) h
set_option maxHeartbeats 4000000 in
set_option maxRecDepth 100000 in
theorem mtL_isRefused (l : Launch) (hlt : l.stackTraces = false) (z : Nat) (G : Gl) (ad : Nat → Nat → Nat) (σ : SG) (ν : NU) (ρ : RH) (lo : Int64) (p2 : Int32) (post : Int32 → SG → NU → Prop) (h : wpL_isRefused σ ν ρ p2 post) : Met l yL_isRefused wsL_isRefused ({ frames := 12, cells := 478, slots := 6481, locals := 296 } : Room) (Pcs z G ad (σ, ν, ρ, lo) [.ref (ad 0 0), .ref (ad 100 0), .int p2]) (Qia z G (fun r S1 => ∃ (t : SG) (u : NU), S1.1 = (t, u, ρ, lo) ∧ Xt ad S1.2 ν u ∧ post r t u)) 478 6481 (Az z) := by
  refine Met.ofW (cc := cL_isRefused) (maxL := 10) (ret := (some .boolean)) (by decide) rfl ?_
  intro p e s m args below meth c s₁ B hml hv
  obtain ⟨rfl, hz, hW, hE⟩ := hv
  have hx := B.exec
  have hb := B.bytes
  have hr := B.returns
  have hts := atoms_spec (ws := wsL_isRefused) B.pre
  have hown : s.vm.findClass RL = some m.cls := findClass_of_methodNamed B.named
  have hlocks := B.notSynchronized
  have X : Cx p l e s m _ below meth c cL_isRefused (some .boolean) 10 RL wsL_isRefused z G := ⟨hx, hb, hr, hml, hown, hts, hlocks, hE, hz⟩
  have hS : va_S (Az z) s.heap s.heap [] := va_S.rf
  have hl := lv_entry [.ref (ad 0 0), .ref (ad 100 0), .int p2] (n := 10) (Nat.le_of_ble_eq_true rfl)
  rw [lg_entry_eq]
  generalize (lg_sl [.ref (ad 0 0), .ref (ad 100 0), .int p2] ++ List.replicate (10 - (lg_sl [.ref (ad 0 0), .ref (ad 100 0), .int p2]).length) Slot.unset).toArray = ls at hl ⊢
  have hl : lv_has ls 10 [(0, .ref (ad 0 0)), (1, .ref (ad 100 0)), (2, .int p2)] := hl
  unfold wpL_isRefused at h
  refine lv_iload_n hx hb dL_isRefused_0 rfl (lv_at hl 2 rfl) ?_
  refine lv_iconst (v := (2 : Int32)) hx hb dL_isRefused_1 (by decide) ?_
  refine lv_irem hx hb dL_isRefused_2 (by decide) ?_
  refine r_if_ne hx hb rfl (tgt := 10) dL_isRefused_3 (by decide) (fun c1 => ?_) (fun c1 => ?_)
  · have h := ite_f c1 h
    refine lv_iconst (v := (0 : Int32)) hx hb dL_isRefused_10 (by decide) ?_
    exact tL_isRefused_11 (σ := σ) (ρ := ρ) X hlt p2 post  _ _ (by omega) (by omega) σ ν ad ((0 : Int32)) Xt.rf hW hS (lv_sub hl [0, 1, 2] rfl) h
  · have h := ite_t c1 h
    refine lv_iconst (v := (1 : Int32)) hx hb dL_isRefused_6 (by decide) ?_
    refine lv_goto (tgt := 11) hx hb dL_isRefused_7 (by decide) ?_
    exact tL_isRefused_11 (σ := σ) (ρ := ρ) X hlt p2 post  _ _ (by omega) (by omega) σ ν ad ((1 : Int32)) Xt.rf hW hS (lv_sub hl [0, 1, 2] rfl) h
