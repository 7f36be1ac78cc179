/-! the law method by method: its walk. Written by wip/gen25/genlaw.py -/
set_option maxHeartbeats 4000000 in
set_option maxRecDepth 100000 in
theorem tL_areSound_776 {p : Program} {l : Launch} {e : Env} {s : State} {m : MethodId} {args : Array Value} {below : List Frame} {meth : Method} {c : Code} {z : Nat} {G : Gl} {ad : Nat → Nat → Nat} {σ : SG} {ν : NU} {ρ : RH} {lo : Int64} (X : Cx p l e s m args below meth c cL_areSound (some .boolean) 18 RL wsL_areSound z G) (hlt : l.stackTraces = false) (p5 : Int32)  (post : Int32 → SG → NU → Prop) : ∀ (kc ks : Nat), kc + 0 ≤ 1500 → ks + 0 ≤ 28184 → ∀ (a1 : SG) (a2 : NU) (b1 : Nat → Nat → Nat) (x6 : Int32) {H : Heap} {locs : List Loc} {ls : Array Slot}, Xt ad b1 ν a2 → WP z G b1 (a1, a2, ρ, lo) H → va_S (Az z) s.heap H locs → lv_has ls 18 [(0, .ref (b1 0 0)), (6, .int x6)] → jL_areSound_776 p5 post a1 a2 ρ x6 → W p l e ({ frames := 10, cells := 1500, slots := 28184, locals := 245 } : Room) s m args below meth c H locs kc ks (MQ below (Qia z G (fun r S1 => ∃ (t : SG) (u : NU), S1.1 = (t, u, ρ, lo) ∧ Xt ad S1.2 ν u ∧ post r t u)) args s 1500 28184 (Az z)) (F0 m 776 ls []) := by
  obtain ⟨hx, hb, hr, hml, hown, hts, hlocks, hE, hz⟩ := id X
  intro kc ks hB1 hB2 a1 a2 b1 x6 H locs ls hX9 hW hS hl h
  unfold jL_areSound_776 at h
  refine lv_iload hx hb dL_areSound_776 (lv_at hl 1 rfl) ?_
  refine r_if_eq hx hb rfl (tgt := 792) dL_areSound_778 (by decide) (fun c7 => ?_) (fun c7 => ?_)
  · have h := ite_t c7 h
    refine lv_iconst (v := (0 : Int32)) hx hb dL_areSound_792 (by decide) ?_
    refine W.widen (k := 1500) (n := 28184) (by omega) (by omega) ?_
    exact W.zret (v := (0 : Int32)) (ty := .boolean) hx hb hr rfl (fun t ht _ => ⟨⟨_, ((a1, a2, ρ, lo), b1), rfl, ⟨_, _, rfl, hX9, h⟩, WP.at9 ht hW⟩, hS.F ht⟩) hS.2.2 dL_areSound_793 (hlocks := hlocks)
  · have h := ite_f c7 h
    refine lv_aload_n hx hb dL_areSound_781 rfl (lv_at hl 0 rfl) ?_
    refine k_Vi (rest := []) (As := []) ⟨hx, hb, hml, hown, hts⟩ hE hz hS hW (mtX6_conflicts l z G b1 a1 a2 ρ lo  _ h) (cwV 0 hts gL_areSound_X6_conflicts rfl rfl rfl (by decide +kernel) ⟨Nat.le_of_ble_eq_true rfl, Nat.le_of_ble_eq_true rfl⟩) (r_recv hE hW 0 0 rfl (ci := 9) rfl rfl) rfl hl.1 rfl (Nat.le_of_ble_eq_true rfl) dL_areSound_782 ⟨by show _ ≤ 1500; omega, by show _ ≤ 28184; omega⟩ (fun r8 S1 H locs hp hW hS => ?_)
    obtain ⟨rfl, h⟩ := hp
    refine r_if_lt hx hb rfl (tgt := 792) dL_areSound_785 (by decide) (fun c9 => ?_) (fun c9 => ?_)
    · have h := ite_t c9 h
      refine lv_iconst (v := (0 : Int32)) hx hb dL_areSound_792 (by decide) ?_
      refine W.widen (k := 1500) (n := 28184) (by omega) (by omega) ?_
      exact W.zret (v := (0 : Int32)) (ty := .boolean) hx hb hr rfl (fun t ht _ => ⟨⟨_, ((a1, a2, ρ, lo), b1), rfl, ⟨_, _, rfl, hX9, h⟩, WP.at9 ht hW⟩, hS.F ht⟩) hS.2.2 dL_areSound_793 (hlocks := hlocks)
    · have h := ite_f c9 h
      refine lv_iconst (v := (1 : Int32)) hx hb dL_areSound_788 (by decide) ?_
      refine lv_goto (tgt := 793) hx hb dL_areSound_789 (by decide) ?_
      refine W.widen (k := 1500) (n := 28184) (by omega) (by omega) ?_
      exact W.zret (v := (1 : Int32)) (ty := .boolean) hx hb hr rfl (fun t ht _ => ⟨⟨_, ((a1, a2, ρ, lo), b1), rfl, ⟨_, _, rfl, hX9, h⟩, WP.at9 ht hW⟩, hS.F ht⟩) hS.2.2 dL_areSound_793 (hlocks := hlocks)
set_option maxHeartbeats 4000000 in
set_option maxRecDepth 100000 in
theorem tL_areSound_730 {p : Program} {l : Launch} {e : Env} {s : State} {m : MethodId} {args : Array Value} {below : List Frame} {meth : Method} {c : Code} {z : Nat} {G : Gl} {ad : Nat → Nat → Nat} {σ : SG} {ν : NU} {ρ : RH} {lo : Int64} (X : Cx p l e s m args below meth c cL_areSound (some .boolean) 18 RL wsL_areSound z G) (hlt : l.stackTraces = false) (p5 : Int32) (κ687 : SG → NU → RH → Int32 → Int32 → Int32 → Prop) (post : Int32 → SG → NU → Prop) (bc687 bs687 : Nat) (hk687 : ∀ (kc ks : Nat), kc + bc687 ≤ 1500 → ks + bs687 ≤ 28184 → ∀ (a1 : SG) (a2 : NU) (b1 : Nat → Nat → Nat) (x6 : Int32) (x7 : Int32) (x9 : Int32) {H : Heap} {locs : List Loc} {ls : Array Slot}, Xt ad b1 ν a2 → WP z G b1 (a1, a2, ρ, lo) H → va_S (Az z) s.heap H locs → lv_has ls 18 [(0, .ref (b1 0 0)), (1, .ref (b1 100 0)), (6, .int x6), (7, .int x7), (9, .int x9)] → κ687 a1 a2 ρ x6 x7 x9 → W p l e ({ frames := 10, cells := 1500, slots := 28184, locals := 245 } : Room) s m args below meth c H locs kc ks (MQ below (Qia z G (fun r S1 => ∃ (t : SG) (u : NU), S1.1 = (t, u, ρ, lo) ∧ Xt ad S1.2 ν u ∧ post r t u)) args s 1500 28184 (Az z)) (F0 m 687 ls [])) : ∀ (kc ks : Nat), kc + 0 + bc687 ≤ 1500 → ks + 0 + bs687 ≤ 28184 → kc + 0 ≤ 1500 → ks + 0 ≤ 28184 → ∀ (a1 : SG) (a2 : NU) (b1 : Nat → Nat → Nat) (x7 : Int32) (x9 : Int32) (y0 : Int32) (y1 : Int32) {H : Heap} {locs : List Loc} {ls : Array Slot}, Xt ad b1 ν a2 → WP z G b1 (a1, a2, ρ, lo) H → va_S (Az z) s.heap H locs → lv_has ls 18 [(0, .ref (b1 0 0)), (1, .ref (b1 100 0)), (7, .int x7), (9, .int x9)] → jL_areSound_730 p5 κ687 post a1 a2 ρ x7 x9 y0 y1 → W p l e ({ frames := 10, cells := 1500, slots := 28184, locals := 245 } : Room) s m args below meth c H locs kc ks (MQ below (Qia z G (fun r S1 => ∃ (t : SG) (u : NU), S1.1 = (t, u, ρ, lo) ∧ Xt ad S1.2 ν u ∧ post r t u)) args s 1500 28184 (Az z)) (F0 m 730 ls [.int y1, .int y0]) := by
  obtain ⟨hx, hb, hr, hml, hown, hts, hlocks, hE, hz⟩ := id X
  intro kc ks hB1 hB2 hX1 hX2 a1 a2 b1 x7 x9 y0 y1 H locs ls hX9 hW hS hl h
  unfold jL_areSound_730 at h
  refine r_icmp_ne hx hb rfl rfl (tgt := 767) dL_areSound_730 (by decide) (fun c14 => ?_) (fun c14 => ?_)
  · have h := ite_f c14 h
    refine lv_iconst (v := (0 : Int32)) hx hb dL_areSound_767 (by decide) ?_
    refine lv_istore (lv' := [(6, .int ((0 : Int32))), (0, .ref (b1 0 0)), (1, .ref (b1 100 0)), (7, .int x7), (9, .int x9)]) hx hb dL_areSound_768 hl (by decide) rfl (fun ls hl => ?_)
    refine lv_iinc (v := x9 + (1 : Int32)) (lv' := [(9, .int (x9 + (1 : Int32))), (6, .int ((0 : Int32))), (0, .ref (b1 0 0)), (1, .ref (b1 100 0)), (7, .int x7)]) hx hb dL_areSound_770 hl (k := 4) rfl rfl (by decide) rfl (fun ls hl => ?_)
    refine lv_goto (tgt := 687) hx hb dL_areSound_773 (by decide) ?_
    exact hk687 _ _ (by omega) (by omega) a1 a2 b1 ((0 : Int32)) x7 (x9 + (1 : Int32)) hX9 hW hS (lv_sub hl [2, 3, 1, 4, 0] rfl) h
  · have h := ite_t c14 h
    refine lv_aload_n hx hb dL_areSound_733 rfl (lv_at hl 0 rfl) ?_
    refine lv_iload hx hb dL_areSound_734 (lv_at hl 3 rfl) ?_
    refine k_Vi (rest := []) (As := [.int x9]) ⟨hx, hb, hml, hown, hts⟩ hE hz hS hW (nmtX6_label l z G b1 a1 a2 ρ lo x9 _ h) (cwV 1 hts gL_areSound_X6_label rfl rfl rfl (by decide +kernel) ⟨Nat.le_of_ble_eq_true rfl, Nat.le_of_ble_eq_true rfl⟩) (r_recv hE hW 0 0 rfl (ci := 9) rfl rfl) rfl hl.1 rfl (Nat.le_of_ble_eq_true rfl) dL_areSound_736 ⟨by show _ ≤ 1500; omega, by show _ ≤ 28184; omega⟩ (fun r15 S1 H locs hp hW hS => ?_)
    obtain ⟨rfl, h⟩ := hp
    refine lv_iconst (v := (-1 : Int32)) hx hb dL_areSound_739 (by decide) ?_
    refine r_icmp_ne hx hb rfl (show (-1 : Int32).toInt = (-1) by decide) (tgt := 763) dL_areSound_740 (by decide) (fun c16 => ?_) (fun c16 => ?_)
    · have h := ite_f c16 h
      refine lv_iconst (v := (1 : Int32)) hx hb dL_areSound_763 (by decide) ?_
      refine lv_goto (tgt := 768) hx hb dL_areSound_764 (by decide) ?_
      refine lv_istore (lv' := [(6, .int ((1 : Int32))), (0, .ref (b1 0 0)), (1, .ref (b1 100 0)), (7, .int x7), (9, .int x9)]) hx hb dL_areSound_768 hl (by decide) rfl (fun ls hl => ?_)
      refine lv_iinc (v := x9 + (1 : Int32)) (lv' := [(9, .int (x9 + (1 : Int32))), (6, .int ((1 : Int32))), (0, .ref (b1 0 0)), (1, .ref (b1 100 0)), (7, .int x7)]) hx hb dL_areSound_770 hl (k := 4) rfl rfl (by decide) rfl (fun ls hl => ?_)
      refine lv_goto (tgt := 687) hx hb dL_areSound_773 (by decide) ?_
      exact hk687 _ _ (by omega) (by omega) a1 a2 b1 ((1 : Int32)) x7 (x9 + (1 : Int32)) hX9 hW hS (lv_sub hl [2, 3, 1, 4, 0] rfl) h
    · have h := ite_t c16 h
      refine lv_aload_n hx hb dL_areSound_743 rfl (lv_at hl 0 rfl) ?_
      refine lv_iload hx hb dL_areSound_744 (lv_at hl 3 rfl) ?_
      refine k_Vi (rest := []) (As := [.int x9]) ⟨hx, hb, hml, hown, hts⟩ hE hz hS hW (nmtX6_parent l z G b1 a1 a2 ρ lo x9 _ h) (cwV 1 hts gL_areSound_X6_parent rfl rfl rfl (by decide +kernel) ⟨Nat.le_of_ble_eq_true rfl, Nat.le_of_ble_eq_true rfl⟩) (r_recv hE hW 0 0 rfl (ci := 9) rfl rfl) rfl hl.1 rfl (Nat.le_of_ble_eq_true rfl) dL_areSound_746 ⟨by show _ ≤ 1500; omega, by show _ ≤ 28184; omega⟩ (fun r17 S1 H locs hp hW hS => ?_)
      obtain ⟨rfl, h⟩ := hp
      refine lv_iconst (v := (-1 : Int32)) hx hb dL_areSound_749 (by decide) ?_
      refine r_icmp_ne hx hb rfl (show (-1 : Int32).toInt = (-1) by decide) (tgt := 767) dL_areSound_750 (by decide) (fun c18 => ?_) (fun c18 => ?_)
      · have h := ite_f c18 h
        refine lv_iconst (v := (0 : Int32)) hx hb dL_areSound_767 (by decide) ?_
        refine lv_istore (lv' := [(6, .int ((0 : Int32))), (0, .ref (b1 0 0)), (1, .ref (b1 100 0)), (7, .int x7), (9, .int x9)]) hx hb dL_areSound_768 hl (by decide) rfl (fun ls hl => ?_)
        refine lv_iinc (v := x9 + (1 : Int32)) (lv' := [(9, .int (x9 + (1 : Int32))), (6, .int ((0 : Int32))), (0, .ref (b1 0 0)), (1, .ref (b1 100 0)), (7, .int x7)]) hx hb dL_areSound_770 hl (k := 4) rfl rfl (by decide) rfl (fun ls hl => ?_)
        refine lv_goto (tgt := 687) hx hb dL_areSound_773 (by decide) ?_
        exact hk687 _ _ (by omega) (by omega) a1 a2 b1 ((0 : Int32)) x7 (x9 + (1 : Int32)) hX9 hW hS (lv_sub hl [2, 3, 1, 4, 0] rfl) h
      · have h := ite_t c18 h
        refine lv_aload_n hx hb dL_areSound_753 rfl (lv_at hl 0 rfl) ?_
        refine lv_iload hx hb dL_areSound_754 (lv_at hl 3 rfl) ?_
        refine k_Vi (rest := []) (As := [.int x9]) ⟨hx, hb, hml, hown, hts⟩ hE hz hS hW (nmtX6_words l z G b1 a1 a2 ρ lo x9 _ h) (cwV 1 hts gL_areSound_X6_words rfl rfl rfl (by decide +kernel) ⟨Nat.le_of_ble_eq_true rfl, Nat.le_of_ble_eq_true rfl⟩) (r_recv hE hW 0 0 rfl (ci := 9) rfl rfl) rfl hl.1 rfl (Nat.le_of_ble_eq_true rfl) dL_areSound_756 ⟨by show _ ≤ 1500; omega, by show _ ≤ 28184; omega⟩ (fun r19 S1 H locs hp hW hS => ?_)
        obtain ⟨rfl, h⟩ := hp
        refine lv_iconst (v := (-1 : Int32)) hx hb dL_areSound_759 (by decide) ?_
        refine r_icmp_ne hx hb rfl (show (-1 : Int32).toInt = (-1) by decide) (tgt := 767) dL_areSound_760 (by decide) (fun c20 => ?_) (fun c20 => ?_)
        · have h := ite_f c20 h
          refine lv_iconst (v := (0 : Int32)) hx hb dL_areSound_767 (by decide) ?_
          refine lv_istore (lv' := [(6, .int ((0 : Int32))), (0, .ref (b1 0 0)), (1, .ref (b1 100 0)), (7, .int x7), (9, .int x9)]) hx hb dL_areSound_768 hl (by decide) rfl (fun ls hl => ?_)
          refine lv_iinc (v := x9 + (1 : Int32)) (lv' := [(9, .int (x9 + (1 : Int32))), (6, .int ((0 : Int32))), (0, .ref (b1 0 0)), (1, .ref (b1 100 0)), (7, .int x7)]) hx hb dL_areSound_770 hl (k := 4) rfl rfl (by decide) rfl (fun ls hl => ?_)
          refine lv_goto (tgt := 687) hx hb dL_areSound_773 (by decide) ?_
          exact hk687 _ _ (by omega) (by omega) a1 a2 b1 ((0 : Int32)) x7 (x9 + (1 : Int32)) hX9 hW hS (lv_sub hl [2, 3, 1, 4, 0] rfl) h
        · have h := ite_t c20 h
          refine lv_iconst (v := (1 : Int32)) hx hb dL_areSound_763 (by decide) ?_
          refine lv_goto (tgt := 768) hx hb dL_areSound_764 (by decide) ?_
          refine lv_istore (lv' := [(6, .int ((1 : Int32))), (0, .ref (b1 0 0)), (1, .ref (b1 100 0)), (7, .int x7), (9, .int x9)]) hx hb dL_areSound_768 hl (by decide) rfl (fun ls hl => ?_)
          refine lv_iinc (v := x9 + (1 : Int32)) (lv' := [(9, .int (x9 + (1 : Int32))), (6, .int ((1 : Int32))), (0, .ref (b1 0 0)), (1, .ref (b1 100 0)), (7, .int x7)]) hx hb dL_areSound_770 hl (k := 4) rfl rfl (by decide) rfl (fun ls hl => ?_)
          refine lv_goto (tgt := 687) hx hb dL_areSound_773 (by decide) ?_
          exact hk687 _ _ (by omega) (by omega) a1 a2 b1 ((1 : Int32)) x7 (x9 + (1 : Int32)) hX9 hW hS (lv_sub hl [2, 3, 1, 4, 0] rfl) h
set_option maxHeartbeats 4000000 in
set_option maxRecDepth 100000 in
theorem tL_areSound_715 {p : Program} {l : Launch} {e : Env} {s : State} {m : MethodId} {args : Array Value} {below : List Frame} {meth : Method} {c : Code} {z : Nat} {G : Gl} {ad : Nat → Nat → Nat} {σ : SG} {ν : NU} {ρ : RH} {lo : Int64} (X : Cx p l e s m args below meth c cL_areSound (some .boolean) 18 RL wsL_areSound z G) (hlt : l.stackTraces = false) (p5 : Int32) (κ687 : SG → NU → RH → Int32 → Int32 → Int32 → Prop) (post : Int32 → SG → NU → Prop) (bc687 bs687 : Nat) (hk687 : ∀ (kc ks : Nat), kc + bc687 ≤ 1500 → ks + bs687 ≤ 28184 → ∀ (a1 : SG) (a2 : NU) (b1 : Nat → Nat → Nat) (x6 : Int32) (x7 : Int32) (x9 : Int32) {H : Heap} {locs : List Loc} {ls : Array Slot}, Xt ad b1 ν a2 → WP z G b1 (a1, a2, ρ, lo) H → va_S (Az z) s.heap H locs → lv_has ls 18 [(0, .ref (b1 0 0)), (1, .ref (b1 100 0)), (6, .int x6), (7, .int x7), (9, .int x9)] → κ687 a1 a2 ρ x6 x7 x9 → W p l e ({ frames := 10, cells := 1500, slots := 28184, locals := 245 } : Room) s m args below meth c H locs kc ks (MQ below (Qia z G (fun r S1 => ∃ (t : SG) (u : NU), S1.1 = (t, u, ρ, lo) ∧ Xt ad S1.2 ν u ∧ post r t u)) args s 1500 28184 (Az z)) (F0 m 687 ls [])) : ∀ (kc ks : Nat), kc + 0 + bc687 ≤ 1500 → ks + 0 + bs687 ≤ 28184 → kc + 0 ≤ 1500 → ks + 0 ≤ 28184 → ∀ (a1 : SG) (a2 : NU) (b1 : Nat → Nat → Nat) (x7 : Int32) (x9 : Int32) (y0 : Int32) {H : Heap} {locs : List Loc} {ls : Array Slot}, Xt ad b1 ν a2 → WP z G b1 (a1, a2, ρ, lo) H → va_S (Az z) s.heap H locs → lv_has ls 18 [(0, .ref (b1 0 0)), (1, .ref (b1 100 0)), (7, .int x7), (9, .int x9)] → jL_areSound_715 p5 κ687 post a1 a2 ρ x7 x9 y0 → W p l e ({ frames := 10, cells := 1500, slots := 28184, locals := 245 } : Room) s m args below meth c H locs kc ks (MQ below (Qia z G (fun r S1 => ∃ (t : SG) (u : NU), S1.1 = (t, u, ρ, lo) ∧ Xt ad S1.2 ν u ∧ post r t u)) args s 1500 28184 (Az z)) (F0 m 715 ls [.int y0]) := by
  obtain ⟨hx, hb, hr, hml, hown, hts, hlocks, hE, hz⟩ := id X
  intro kc ks hB1 hB2 hX1 hX2 a1 a2 b1 x7 x9 y0 H locs ls hX9 hW hS hl h
  unfold jL_areSound_715 at h
  refine lv_iload hx hb dL_areSound_715 (lv_at hl 2 rfl) ?_
  refine lv_iload hx hb dL_areSound_717 (lv_at hl 3 rfl) ?_
  refine lv_ishr hx hb dL_areSound_719 ?_
  refine lv_iconst (v := (1 : Int32)) hx hb dL_areSound_720 (by decide) ?_
  refine lv_iand hx hb dL_areSound_721 ?_
  refine r_if_ne hx hb rfl (tgt := 729) dL_areSound_722 (by decide) (fun c13 => ?_) (fun c13 => ?_)
  · have h := ite_f c13 h
    refine lv_iconst (v := (0 : Int32)) hx hb dL_areSound_729 (by decide) ?_
    exact tL_areSound_730 (σ := σ) (ρ := ρ) X hlt p5 κ687 post bc687 bs687 hk687 _ _ (by omega) (by omega) (by omega) (by omega) a1 a2 b1 x7 x9 y0 ((0 : Int32)) hX9 hW hS (lv_sub hl [0, 1, 2, 3] rfl) h
  · have h := ite_t c13 h
    refine lv_iconst (v := (1 : Int32)) hx hb dL_areSound_725 (by decide) ?_
    refine lv_goto (tgt := 730) hx hb dL_areSound_726 (by decide) ?_
    exact tL_areSound_730 (σ := σ) (ρ := ρ) X hlt p5 κ687 post bc687 bs687 hk687 _ _ (by omega) (by omega) (by omega) (by omega) a1 a2 b1 x7 x9 y0 ((1 : Int32)) hX9 hW hS (lv_sub hl [0, 1, 2, 3] rfl) h
set_option maxHeartbeats 4000000 in
set_option maxRecDepth 100000 in
theorem tL_areSound_687 {p : Program} {l : Launch} {e : Env} {s : State} {m : MethodId} {args : Array Value} {below : List Frame} {meth : Method} {c : Code} {z : Nat} {G : Gl} {ad : Nat → Nat → Nat} {σ : SG} {ν : NU} {ρ : RH} {lo : Int64} (X : Cx p l e s m args below meth c cL_areSound (some .boolean) 18 RL wsL_areSound z G) (hlt : l.stackTraces = false) (p5 : Int32)  (post : Int32 → SG → NU → Prop) : ∀ (n kc ks : Nat), kc + (n * 0 + 0) ≤ 1500 → ks + (n * 0 + 0) ≤ 28184 → ∀ (a1 : SG) (a2 : NU) (b1 : Nat → Nat → Nat) (x6 : Int32) (x7 : Int32) (x9 : Int32) {H : Heap} {locs : List Loc} {ls : Array Slot}, Xt ad b1 ν a2 → WP z G b1 (a1, a2, ρ, lo) H → va_S (Az z) s.heap H locs → lv_has ls 18 [(0, .ref (b1 0 0)), (1, .ref (b1 100 0)), (6, .int x6), (7, .int x7), (9, .int x9)] → wL_areSound_687 p5 post n a1 a2 ρ x6 x7 x9 → W p l e ({ frames := 10, cells := 1500, slots := 28184, locals := 245 } : Room) s m args below meth c H locs kc ks (MQ below (Qia z G (fun r S1 => ∃ (t : SG) (u : NU), S1.1 = (t, u, ρ, lo) ∧ Xt ad S1.2 ν u ∧ post r t u)) args s 1500 28184 (Az z)) (F0 m 687 ls []) := by
  obtain ⟨hx, hb, hr, hml, hown, hts, hlocks, hE, hz⟩ := id X
  intro n
  induction n with
  | zero =>
    intro kc ks hB1 hB2 a1 a2 b1 x6 x7 x9 H locs ls hX9 hW hS hl h
    exact absurd h id
  | succ n ih =>
    intro kc ks hB1 hB2 a1 a2 b1 x6 x7 x9 H locs ls hX9 hW hS hl h
    unfold wL_areSound_687 at h
    refine lv_iload hx hb dL_areSound_687 (lv_at hl 4 rfl) ?_
    refine lv_aload_n hx hb dL_areSound_689 rfl (lv_at hl 1 rfl) ?_
    refine lv_iconst (v := (3 : Int32)) hx hb dL_areSound_690 (by decide) ?_
    obtain ⟨b5, h⟩ := h
    refine r_iald hx hb hE hW 100 0 ⟨rfl, by decide, by decide⟩ (n := 14) (f := ρ 0) rfl b5 (v := ρ 0 ((3 : Int32)).toNatClampNeg) rfl dL_areSound_691 ?_
    refine r_icmp_ge hx hb rfl rfl (tgt := 776) dL_areSound_692 (by decide) (fun c6 => ?_) (fun c6 => ?_)
    · have h := ite_f c6 h
      exact tL_areSound_776 (σ := σ) (ρ := ρ) X hlt p5 post  _ _ (by omega) (by omega) a1 a2 b1 x6 hX9 hW hS (lv_sub hl [0, 2] rfl) h
    · have h := ite_t c6 h
      refine lv_iload hx hb dL_areSound_695 (lv_at hl 2 rfl) ?_
      refine r_if_eq hx hb rfl (tgt := 776) dL_areSound_697 (by decide) (fun c10 => ?_) (fun c10 => ?_)
      · have h := ite_t c10 h
        exact tL_areSound_776 (σ := σ) (ρ := ρ) X hlt p5 post  _ _ (by omega) (by omega) a1 a2 b1 x6 hX9 hW hS (lv_sub hl [0, 2] rfl) h
      · have h := ite_f c10 h
        refine lv_aload_n hx hb dL_areSound_700 rfl (lv_at hl 0 rfl) ?_
        refine lv_iload hx hb dL_areSound_701 (lv_at hl 4 rfl) ?_
        refine k_Vi (rest := []) (As := [.int x9]) ⟨hx, hb, hml, hown, hts⟩ hE hz hS hW (nmtX6_label l z G b1 a1 a2 ρ lo x9 _ h) (cwV 1 hts gL_areSound_X6_label rfl rfl rfl (by decide +kernel) ⟨Nat.le_of_ble_eq_true rfl, Nat.le_of_ble_eq_true rfl⟩) (r_recv hE hW 0 0 rfl (ci := 9) rfl rfl) rfl hl.1 rfl (Nat.le_of_ble_eq_true rfl) dL_areSound_703 ⟨by show _ ≤ 1500; omega, by show _ ≤ 28184; omega⟩ (fun r11 S1 H locs hp hW hS => ?_)
        obtain ⟨rfl, h⟩ := hp
        refine lv_iconst (v := (-1 : Int32)) hx hb dL_areSound_706 (by decide) ?_
        refine r_icmp_ne hx hb rfl (show (-1 : Int32).toInt = (-1) by decide) (tgt := 714) dL_areSound_707 (by decide) (fun c12 => ?_) (fun c12 => ?_)
        · have h := ite_f c12 h
          refine lv_iconst (v := (0 : Int32)) hx hb dL_areSound_714 (by decide) ?_
          exact tL_areSound_715 (σ := σ) (ρ := ρ) X hlt p5 (wL_areSound_687 p5 post n) post (n * 0 + 0) (n * 0 + 0) ih _ _ (by omega) (by omega) (by omega) (by omega) a1 a2 b1 x7 x9 ((0 : Int32)) hX9 hW hS (lv_sub hl [0, 1, 3, 4] rfl) h
        · have h := ite_t c12 h
          refine lv_iconst (v := (1 : Int32)) hx hb dL_areSound_710 (by decide) ?_
          refine lv_goto (tgt := 715) hx hb dL_areSound_711 (by decide) ?_
          exact tL_areSound_715 (σ := σ) (ρ := ρ) X hlt p5 (wL_areSound_687 p5 post n) post (n * 0 + 0) (n * 0 + 0) ih _ _ (by omega) (by omega) (by omega) (by omega) a1 a2 b1 x7 x9 ((1 : Int32)) hX9 hW hS (lv_sub hl [0, 1, 3, 4] rfl) h
set_option maxHeartbeats 4000000 in
set_option maxRecDepth 100000 in
theorem tL_areSound_641 {p : Program} {l : Launch} {e : Env} {s : State} {m : MethodId} {args : Array Value} {below : List Frame} {meth : Method} {c : Code} {z : Nat} {G : Gl} {ad : Nat → Nat → Nat} {σ : SG} {ν : NU} {ρ : RH} {lo : Int64} (X : Cx p l e s m args below meth c cL_areSound (some .boolean) 18 RL wsL_areSound z G) (hlt : l.stackTraces = false) (p5 : Int32) (κ152 : SG → NU → RH → Int32 → Int32 → Int32 → Int32 → Prop) (post : Int32 → SG → NU → Prop) (bc152 bs152 : Nat) (hk152 : ∀ (kc ks : Nat), kc + bc152 ≤ 1500 → ks + bs152 ≤ 28184 → ∀ (a1 : SG) (a2 : NU) (b1 : Nat → Nat → Nat) (x6 : Int32) (x7 : Int32) (x8 : Int32) (x9 : Int32) {H : Heap} {locs : List Loc} {ls : Array Slot}, Xt ad b1 ν a2 → WP z G b1 (a1, a2, ρ, lo) H → va_S (Az z) s.heap H locs → lv_has ls 18 [(0, .ref (b1 0 0)), (1, .ref (b1 100 0)), (5, .int p5), (6, .int x6), (7, .int x7), (8, .int x8), (9, .int x9)] → κ152 a1 a2 ρ x6 x7 x8 x9 → W p l e ({ frames := 10, cells := 1500, slots := 28184, locals := 245 } : Room) s m args below meth c H locs kc ks (MQ below (Qia z G (fun r S1 => ∃ (t : SG) (u : NU), S1.1 = (t, u, ρ, lo) ∧ Xt ad S1.2 ν u ∧ post r t u)) args s 1500 28184 (Az z)) (F0 m 152 ls [])) : ∀ (kc ks : Nat), kc + 0 + bc152 ≤ 1500 → ks + 0 + bs152 ≤ 28184 → kc + 0 ≤ 1500 → ks + 0 ≤ 28184 → ∀ (a1 : SG) (a2 : NU) (b1 : Nat → Nat → Nat) (x6 : Int32) (x7 : Int32) (x9 : Int32) (x10 : Int32) {H : Heap} {locs : List Loc} {ls : Array Slot}, Xt ad b1 ν a2 → WP z G b1 (a1, a2, ρ, lo) H → va_S (Az z) s.heap H locs → lv_has ls 18 [(0, .ref (b1 0 0)), (1, .ref (b1 100 0)), (5, .int p5), (6, .int x6), (7, .int x7), (9, .int x9), (10, .int x10)] → jL_areSound_641 p5 κ152 post a1 a2 ρ x6 x7 x9 x10 → W p l e ({ frames := 10, cells := 1500, slots := 28184, locals := 245 } : Room) s m args below meth c H locs kc ks (MQ below (Qia z G (fun r S1 => ∃ (t : SG) (u : NU), S1.1 = (t, u, ρ, lo) ∧ Xt ad S1.2 ν u ∧ post r t u)) args s 1500 28184 (Az z)) (F0 m 641 ls []) := by
  obtain ⟨hx, hb, hr, hml, hown, hts, hlocks, hE, hz⟩ := id X
  intro kc ks hB1 hB2 hX1 hX2 a1 a2 b1 x6 x7 x9 x10 H locs ls hX9 hW hS hl h
  unfold jL_areSound_641 at h
  refine lv_iload hx hb dL_areSound_641 (lv_at hl 4 rfl) ?_
  refine lv_iconst (v := (1 : Int32)) hx hb dL_areSound_643 (by decide) ?_
  refine lv_iload hx hb dL_areSound_644 (lv_at hl 6 rfl) ?_
  refine lv_ishl hx hb dL_areSound_646 ?_
  refine lv_ior hx hb dL_areSound_647 ?_
  refine lv_istore (lv' := [(7, .int (x7 ||| (((1 : Int32)) <<< (x10 &&& 31)))), (0, .ref (b1 0 0)), (1, .ref (b1 100 0)), (5, .int p5), (6, .int x6), (9, .int x9), (10, .int x10)]) hx hb dL_areSound_648 hl (by decide) rfl (fun ls hl => ?_)
  refine lv_iload hx hb dL_areSound_650 (lv_at hl 6 rfl) ?_
  refine lv_istore (lv' := [(8, .int x10), (7, .int (x7 ||| (((1 : Int32)) <<< (x10 &&& 31)))), (0, .ref (b1 0 0)), (1, .ref (b1 100 0)), (5, .int p5), (6, .int x6), (9, .int x9), (10, .int x10)]) hx hb dL_areSound_652 hl (by decide) rfl (fun ls hl => ?_)
  refine lv_goto (tgt := 678) hx hb dL_areSound_654 (by decide) ?_
  refine lv_iinc (v := x9 + (1 : Int32)) (lv' := [(9, .int (x9 + (1 : Int32))), (8, .int x10), (7, .int (x7 ||| (((1 : Int32)) <<< (x10 &&& 31)))), (0, .ref (b1 0 0)), (1, .ref (b1 100 0)), (5, .int p5), (6, .int x6), (10, .int x10)]) hx hb dL_areSound_678 hl (k := 6) rfl rfl (by decide) rfl (fun ls hl => ?_)
  refine lv_goto (tgt := 152) hx hb dL_areSound_681 (by decide) ?_
  exact hk152 _ _ (by omega) (by omega) a1 a2 b1 x6 (x7 ||| (((1 : Int32)) <<< (x10 &&& 31))) x10 (x9 + (1 : Int32)) hX9 hW hS (lv_sub hl [3, 4, 5, 6, 2, 1, 0] rfl) h
set_option maxHeartbeats 4000000 in
set_option maxRecDepth 100000 in
theorem tL_areSound_611 {p : Program} {l : Launch} {e : Env} {s : State} {m : MethodId} {args : Array Value} {below : List Frame} {meth : Method} {c : Code} {z : Nat} {G : Gl} {ad : Nat → Nat → Nat} {σ : SG} {ν : NU} {ρ : RH} {lo : Int64} (X : Cx p l e s m args below meth c cL_areSound (some .boolean) 18 RL wsL_areSound z G) (hlt : l.stackTraces = false) (p5 : Int32) (κ152 : SG → NU → RH → Int32 → Int32 → Int32 → Int32 → Prop) (κ417 : SG → NU → RH → Int32 → Int32 → Int32 → Int32 → Int32 → Int32 → Prop) (post : Int32 → SG → NU → Prop) (bc152 bs152 : Nat) (hk152 : ∀ (kc ks : Nat), kc + bc152 ≤ 1500 → ks + bs152 ≤ 28184 → ∀ (a1 : SG) (a2 : NU) (b1 : Nat → Nat → Nat) (x6 : Int32) (x7 : Int32) (x8 : Int32) (x9 : Int32) {H : Heap} {locs : List Loc} {ls : Array Slot}, Xt ad b1 ν a2 → WP z G b1 (a1, a2, ρ, lo) H → va_S (Az z) s.heap H locs → lv_has ls 18 [(0, .ref (b1 0 0)), (1, .ref (b1 100 0)), (5, .int p5), (6, .int x6), (7, .int x7), (8, .int x8), (9, .int x9)] → κ152 a1 a2 ρ x6 x7 x8 x9 → W p l e ({ frames := 10, cells := 1500, slots := 28184, locals := 245 } : Room) s m args below meth c H locs kc ks (MQ below (Qia z G (fun r S1 => ∃ (t : SG) (u : NU), S1.1 = (t, u, ρ, lo) ∧ Xt ad S1.2 ν u ∧ post r t u)) args s 1500 28184 (Az z)) (F0 m 152 ls [])) (bc417 bs417 : Nat) (hb417 : bc152 ≤ bc417 ∧ bs152 ≤ bs417) (hk417 : ∀ (kc ks : Nat), kc + bc417 ≤ 1500 → ks + bs417 ≤ 28184 → ∀ (a1 : SG) (a2 : NU) (b1 : Nat → Nat → Nat) (x6 : Int32) (x7 : Int32) (x9 : Int32) (x10 : Int32) (x12 : Int32) (x14 : Int32) {H : Heap} {locs : List Loc} {ls : Array Slot}, Xt ad b1 ν a2 → WP z G b1 (a1, a2, ρ, lo) H → va_S (Az z) s.heap H locs → lv_has ls 18 [(0, .ref (b1 0 0)), (1, .ref (b1 100 0)), (5, .int p5), (6, .int x6), (7, .int x7), (9, .int x9), (10, .int x10), (12, .int x12), (14, .int x14)] → κ417 a1 a2 ρ x6 x7 x9 x10 x12 x14 → W p l e ({ frames := 10, cells := 1500, slots := 28184, locals := 245 } : Room) s m args below meth c H locs kc ks (MQ below (Qia z G (fun r S1 => ∃ (t : SG) (u : NU), S1.1 = (t, u, ρ, lo) ∧ Xt ad S1.2 ν u ∧ post r t u)) args s 1500 28184 (Az z)) (F0 m 417 ls [])) : ∀ (kc ks : Nat), kc + 0 + bc417 ≤ 1500 → ks + 0 + bs417 ≤ 28184 → kc + 0 + bc152 ≤ 1500 → ks + 0 + bs152 ≤ 28184 → ∀ (a1 : SG) (a2 : NU) (b1 : Nat → Nat → Nat) (x7 : Int32) (x9 : Int32) (x10 : Int32) (x12 : Int32) (x14 : Int32) (x15 : Int32) (x17 : Int32) {H : Heap} {locs : List Loc} {ls : Array Slot}, Xt ad b1 ν a2 → WP z G b1 (a1, a2, ρ, lo) H → va_S (Az z) s.heap H locs → lv_has ls 18 [(0, .ref (b1 0 0)), (1, .ref (b1 100 0)), (5, .int p5), (7, .int x7), (9, .int x9), (10, .int x10), (12, .int x12), (14, .int x14), (15, .int x15), (17, .int x17)] → jL_areSound_611 p5 κ152 κ417 post a1 a2 ρ x7 x9 x10 x12 x14 x15 x17 → W p l e ({ frames := 10, cells := 1500, slots := 28184, locals := 245 } : Room) s m args below meth c H locs kc ks (MQ below (Qia z G (fun r S1 => ∃ (t : SG) (u : NU), S1.1 = (t, u, ρ, lo) ∧ Xt ad S1.2 ν u ∧ post r t u)) args s 1500 28184 (Az z)) (F0 m 611 ls []) := by
  obtain ⟨hx, hb, hr, hml, hown, hts, hlocks, hE, hz⟩ := id X
  intro kc ks hB1 hB2 hX1 hX2 a1 a2 b1 x7 x9 x10 x12 x14 x15 x17 H locs ls hX9 hW hS hl h
  unfold jL_areSound_611 at h
  refine lv_iload hx hb dL_areSound_611 (lv_at hl 8 rfl) ?_
  refine lv_bipush (v := (100 : Int32)) hx hb dL_areSound_613 (by decide) ?_
  refine lv_isub hx hb dL_areSound_615 ?_
  refine lv_aload_n hx hb dL_areSound_616 rfl (lv_at hl 1 rfl) ?_
  refine lv_iconst (v := (3 : Int32)) hx hb dL_areSound_617 (by decide) ?_
  obtain ⟨b55, h⟩ := h
  refine r_iald hx hb hE hW 100 0 ⟨rfl, by decide, by decide⟩ (n := 14) (f := ρ 0) rfl b55 (v := ρ 0 ((3 : Int32)).toNatClampNeg) rfl dL_areSound_618 ?_
  refine r_icmp_lt hx hb rfl rfl (tgt := 632) dL_areSound_619 (by decide) (fun c56 => ?_) (fun c56 => ?_)
  · have h := ite_t c56 h
    refine lv_iconst (v := (0 : Int32)) hx hb dL_areSound_632 (by decide) ?_
    refine lv_istore (lv' := [(6, .int ((0 : Int32))), (0, .ref (b1 0 0)), (1, .ref (b1 100 0)), (5, .int p5), (7, .int x7), (9, .int x9), (10, .int x10), (12, .int x12), (14, .int x14), (15, .int x15), (17, .int x17)]) hx hb dL_areSound_633 hl (by decide) rfl (fun ls hl => ?_)
    refine lv_iinc (v := x14 + (2 : Int32)) (lv' := [(14, .int (x14 + (2 : Int32))), (6, .int ((0 : Int32))), (0, .ref (b1 0 0)), (1, .ref (b1 100 0)), (5, .int p5), (7, .int x7), (9, .int x9), (10, .int x10), (12, .int x12), (15, .int x15), (17, .int x17)]) hx hb dL_areSound_635 hl (k := 8) rfl rfl (by decide) rfl (fun ls hl => ?_)
    refine lv_goto (tgt := 417) hx hb dL_areSound_638 (by decide) ?_
    exact hk417 _ _ (by omega) (by omega) a1 a2 b1 ((0 : Int32)) x7 x9 x10 x12 (x14 + (2 : Int32)) hX9 hW hS (lv_sub hl [2, 3, 4, 1, 5, 6, 7, 8, 0] rfl) h
  · have h := ite_f c56 h
    refine lv_iload hx hb dL_areSound_622 (lv_at hl 9 rfl) ?_
    refine lv_iconst (v := (-1 : Int32)) hx hb dL_areSound_624 (by decide) ?_
    refine r_icmp_ne hx hb rfl (show (-1 : Int32).toInt = (-1) by decide) (tgt := 632) dL_areSound_625 (by decide) (fun c57 => ?_) (fun c57 => ?_)
    · have h := ite_f c57 h
      refine lv_iconst (v := (0 : Int32)) hx hb dL_areSound_632 (by decide) ?_
      refine lv_istore (lv' := [(6, .int ((0 : Int32))), (0, .ref (b1 0 0)), (1, .ref (b1 100 0)), (5, .int p5), (7, .int x7), (9, .int x9), (10, .int x10), (12, .int x12), (14, .int x14), (15, .int x15), (17, .int x17)]) hx hb dL_areSound_633 hl (by decide) rfl (fun ls hl => ?_)
      refine lv_iinc (v := x14 + (2 : Int32)) (lv' := [(14, .int (x14 + (2 : Int32))), (6, .int ((0 : Int32))), (0, .ref (b1 0 0)), (1, .ref (b1 100 0)), (5, .int p5), (7, .int x7), (9, .int x9), (10, .int x10), (12, .int x12), (15, .int x15), (17, .int x17)]) hx hb dL_areSound_635 hl (k := 8) rfl rfl (by decide) rfl (fun ls hl => ?_)
      refine lv_goto (tgt := 417) hx hb dL_areSound_638 (by decide) ?_
      exact hk417 _ _ (by omega) (by omega) a1 a2 b1 ((0 : Int32)) x7 x9 x10 x12 (x14 + (2 : Int32)) hX9 hW hS (lv_sub hl [2, 3, 4, 1, 5, 6, 7, 8, 0] rfl) h
    · have h := ite_t c57 h
      refine lv_iconst (v := (1 : Int32)) hx hb dL_areSound_628 (by decide) ?_
      refine lv_goto (tgt := 633) hx hb dL_areSound_629 (by decide) ?_
      refine lv_istore (lv' := [(6, .int ((1 : Int32))), (0, .ref (b1 0 0)), (1, .ref (b1 100 0)), (5, .int p5), (7, .int x7), (9, .int x9), (10, .int x10), (12, .int x12), (14, .int x14), (15, .int x15), (17, .int x17)]) hx hb dL_areSound_633 hl (by decide) rfl (fun ls hl => ?_)
      refine lv_iinc (v := x14 + (2 : Int32)) (lv' := [(14, .int (x14 + (2 : Int32))), (6, .int ((1 : Int32))), (0, .ref (b1 0 0)), (1, .ref (b1 100 0)), (5, .int p5), (7, .int x7), (9, .int x9), (10, .int x10), (12, .int x12), (15, .int x15), (17, .int x17)]) hx hb dL_areSound_635 hl (k := 8) rfl rfl (by decide) rfl (fun ls hl => ?_)
      refine lv_goto (tgt := 417) hx hb dL_areSound_638 (by decide) ?_
      exact hk417 _ _ (by omega) (by omega) a1 a2 b1 ((1 : Int32)) x7 x9 x10 x12 (x14 + (2 : Int32)) hX9 hW hS (lv_sub hl [2, 3, 4, 1, 5, 6, 7, 8, 0] rfl) h
set_option maxHeartbeats 4000000 in
set_option maxRecDepth 100000 in
theorem tL_areSound_565 {p : Program} {l : Launch} {e : Env} {s : State} {m : MethodId} {args : Array Value} {below : List Frame} {meth : Method} {c : Code} {z : Nat} {G : Gl} {ad : Nat → Nat → Nat} {σ : SG} {ν : NU} {ρ : RH} {lo : Int64} (X : Cx p l e s m args below meth c cL_areSound (some .boolean) 18 RL wsL_areSound z G) (hlt : l.stackTraces = false) (p5 : Int32) (κ152 : SG → NU → RH → Int32 → Int32 → Int32 → Int32 → Prop) (κ417 : SG → NU → RH → Int32 → Int32 → Int32 → Int32 → Int32 → Int32 → Prop) (post : Int32 → SG → NU → Prop) (bc152 bs152 : Nat) (hk152 : ∀ (kc ks : Nat), kc + bc152 ≤ 1500 → ks + bs152 ≤ 28184 → ∀ (a1 : SG) (a2 : NU) (b1 : Nat → Nat → Nat) (x6 : Int32) (x7 : Int32) (x8 : Int32) (x9 : Int32) {H : Heap} {locs : List Loc} {ls : Array Slot}, Xt ad b1 ν a2 → WP z G b1 (a1, a2, ρ, lo) H → va_S (Az z) s.heap H locs → lv_has ls 18 [(0, .ref (b1 0 0)), (1, .ref (b1 100 0)), (5, .int p5), (6, .int x6), (7, .int x7), (8, .int x8), (9, .int x9)] → κ152 a1 a2 ρ x6 x7 x8 x9 → W p l e ({ frames := 10, cells := 1500, slots := 28184, locals := 245 } : Room) s m args below meth c H locs kc ks (MQ below (Qia z G (fun r S1 => ∃ (t : SG) (u : NU), S1.1 = (t, u, ρ, lo) ∧ Xt ad S1.2 ν u ∧ post r t u)) args s 1500 28184 (Az z)) (F0 m 152 ls [])) (bc417 bs417 : Nat) (hb417 : bc152 ≤ bc417 ∧ bs152 ≤ bs417) (hk417 : ∀ (kc ks : Nat), kc + bc417 ≤ 1500 → ks + bs417 ≤ 28184 → ∀ (a1 : SG) (a2 : NU) (b1 : Nat → Nat → Nat) (x6 : Int32) (x7 : Int32) (x9 : Int32) (x10 : Int32) (x12 : Int32) (x14 : Int32) {H : Heap} {locs : List Loc} {ls : Array Slot}, Xt ad b1 ν a2 → WP z G b1 (a1, a2, ρ, lo) H → va_S (Az z) s.heap H locs → lv_has ls 18 [(0, .ref (b1 0 0)), (1, .ref (b1 100 0)), (5, .int p5), (6, .int x6), (7, .int x7), (9, .int x9), (10, .int x10), (12, .int x12), (14, .int x14)] → κ417 a1 a2 ρ x6 x7 x9 x10 x12 x14 → W p l e ({ frames := 10, cells := 1500, slots := 28184, locals := 245 } : Room) s m args below meth c H locs kc ks (MQ below (Qia z G (fun r S1 => ∃ (t : SG) (u : NU), S1.1 = (t, u, ρ, lo) ∧ Xt ad S1.2 ν u ∧ post r t u)) args s 1500 28184 (Az z)) (F0 m 417 ls [])) : ∀ (kc ks : Nat), kc + 0 + bc417 ≤ 1500 → ks + 0 + bs417 ≤ 28184 → kc + 0 + bc152 ≤ 1500 → ks + 0 + bs152 ≤ 28184 → ∀ (a1 : SG) (a2 : NU) (b1 : Nat → Nat → Nat) (x7 : Int32) (x9 : Int32) (x10 : Int32) (x12 : Int32) (x14 : Int32) (x15 : Int32) (x17 : Int32) (y0 : Int32) {H : Heap} {locs : List Loc} {ls : Array Slot}, Xt ad b1 ν a2 → WP z G b1 (a1, a2, ρ, lo) H → va_S (Az z) s.heap H locs → lv_has ls 18 [(0, .ref (b1 0 0)), (1, .ref (b1 100 0)), (5, .int p5), (7, .int x7), (9, .int x9), (10, .int x10), (12, .int x12), (14, .int x14), (15, .int x15), (17, .int x17)] → jL_areSound_565 p5 κ152 κ417 post a1 a2 ρ x7 x9 x10 x12 x14 x15 x17 y0 → W p l e ({ frames := 10, cells := 1500, slots := 28184, locals := 245 } : Room) s m args below meth c H locs kc ks (MQ below (Qia z G (fun r S1 => ∃ (t : SG) (u : NU), S1.1 = (t, u, ρ, lo) ∧ Xt ad S1.2 ν u ∧ post r t u)) args s 1500 28184 (Az z)) (F0 m 565 ls [.int y0]) := by
  obtain ⟨hx, hb, hr, hml, hown, hts, hlocks, hE, hz⟩ := id X
  intro kc ks hB1 hB2 hX1 hX2 a1 a2 b1 x7 x9 x10 x12 x14 x15 x17 y0 H locs ls hX9 hW hS hl h
  unfold jL_areSound_565 at h
  refine lv_istore (lv' := [(6, .int y0), (0, .ref (b1 0 0)), (1, .ref (b1 100 0)), (5, .int p5), (7, .int x7), (9, .int x9), (10, .int x10), (12, .int x12), (14, .int x14), (15, .int x15), (17, .int x17)]) hx hb dL_areSound_565 hl (by decide) rfl (fun ls hl => ?_)
  refine lv_iload hx hb dL_areSound_567 (lv_at hl 0 rfl) ?_
  refine r_if_eq hx hb rfl (tgt := 632) dL_areSound_569 (by decide) (fun c50 => ?_) (fun c50 => ?_)
  · have h := ite_t c50 h
    refine lv_iconst (v := (0 : Int32)) hx hb dL_areSound_632 (by decide) ?_
    refine lv_istore (lv' := [(6, .int ((0 : Int32))), (0, .ref (b1 0 0)), (1, .ref (b1 100 0)), (5, .int p5), (7, .int x7), (9, .int x9), (10, .int x10), (12, .int x12), (14, .int x14), (15, .int x15), (17, .int x17)]) hx hb dL_areSound_633 hl (by decide) rfl (fun ls hl => ?_)
    refine lv_iinc (v := x14 + (2 : Int32)) (lv' := [(14, .int (x14 + (2 : Int32))), (6, .int ((0 : Int32))), (0, .ref (b1 0 0)), (1, .ref (b1 100 0)), (5, .int p5), (7, .int x7), (9, .int x9), (10, .int x10), (12, .int x12), (15, .int x15), (17, .int x17)]) hx hb dL_areSound_635 hl (k := 8) rfl rfl (by decide) rfl (fun ls hl => ?_)
    refine lv_goto (tgt := 417) hx hb dL_areSound_638 (by decide) ?_
    exact hk417 _ _ (by omega) (by omega) a1 a2 b1 ((0 : Int32)) x7 x9 x10 x12 (x14 + (2 : Int32)) hX9 hW hS (lv_sub hl [2, 3, 4, 1, 5, 6, 7, 8, 0] rfl) h
  · have h := ite_f c50 h
    refine lv_iload hx hb dL_areSound_572 (lv_at hl 9 rfl) ?_
    refine lv_bipush (v := (100 : Int32)) hx hb dL_areSound_574 (by decide) ?_
    refine r_icmp_lt hx hb rfl (show (100 : Int32).toInt = 100 by decide) (tgt := 628) dL_areSound_576 (by decide) (fun c51 => ?_) (fun c51 => ?_)
    · have h := ite_t c51 h
      refine lv_iconst (v := (1 : Int32)) hx hb dL_areSound_628 (by decide) ?_
      refine lv_goto (tgt := 633) hx hb dL_areSound_629 (by decide) ?_
      refine lv_istore (lv' := [(6, .int ((1 : Int32))), (0, .ref (b1 0 0)), (1, .ref (b1 100 0)), (5, .int p5), (7, .int x7), (9, .int x9), (10, .int x10), (12, .int x12), (14, .int x14), (15, .int x15), (17, .int x17)]) hx hb dL_areSound_633 hl (by decide) rfl (fun ls hl => ?_)
      refine lv_iinc (v := x14 + (2 : Int32)) (lv' := [(14, .int (x14 + (2 : Int32))), (6, .int ((1 : Int32))), (0, .ref (b1 0 0)), (1, .ref (b1 100 0)), (5, .int p5), (7, .int x7), (9, .int x9), (10, .int x10), (12, .int x12), (15, .int x15), (17, .int x17)]) hx hb dL_areSound_635 hl (k := 8) rfl rfl (by decide) rfl (fun ls hl => ?_)
      refine lv_goto (tgt := 417) hx hb dL_areSound_638 (by decide) ?_
      exact hk417 _ _ (by omega) (by omega) a1 a2 b1 ((1 : Int32)) x7 x9 x10 x12 (x14 + (2 : Int32)) hX9 hW hS (lv_sub hl [2, 3, 4, 1, 5, 6, 7, 8, 0] rfl) h
    · have h := ite_f c51 h
      refine lv_iload hx hb dL_areSound_579 (lv_at hl 9 rfl) ?_
      refine lv_bipush (v := (119 : Int32)) hx hb dL_areSound_581 (by decide) ?_
      refine r_icmp_gt hx hb rfl (show (119 : Int32).toInt = 119 by decide) (tgt := 628) dL_areSound_583 (by decide) (fun c52 => ?_) (fun c52 => ?_)
      · have h := ite_f c52 h
        refine lv_iconst (v := (1 : Int32)) hx hb dL_areSound_628 (by decide) ?_
        refine lv_goto (tgt := 633) hx hb dL_areSound_629 (by decide) ?_
        refine lv_istore (lv' := [(6, .int ((1 : Int32))), (0, .ref (b1 0 0)), (1, .ref (b1 100 0)), (5, .int p5), (7, .int x7), (9, .int x9), (10, .int x10), (12, .int x12), (14, .int x14), (15, .int x15), (17, .int x17)]) hx hb dL_areSound_633 hl (by decide) rfl (fun ls hl => ?_)
        refine lv_iinc (v := x14 + (2 : Int32)) (lv' := [(14, .int (x14 + (2 : Int32))), (6, .int ((1 : Int32))), (0, .ref (b1 0 0)), (1, .ref (b1 100 0)), (5, .int p5), (7, .int x7), (9, .int x9), (10, .int x10), (12, .int x12), (15, .int x15), (17, .int x17)]) hx hb dL_areSound_635 hl (k := 8) rfl rfl (by decide) rfl (fun ls hl => ?_)
        refine lv_goto (tgt := 417) hx hb dL_areSound_638 (by decide) ?_
        exact hk417 _ _ (by omega) (by omega) a1 a2 b1 ((1 : Int32)) x7 x9 x10 x12 (x14 + (2 : Int32)) hX9 hW hS (lv_sub hl [2, 3, 4, 1, 5, 6, 7, 8, 0] rfl) h
      · have h := ite_t c52 h
        refine lv_iload hx hb dL_areSound_586 (lv_at hl 9 rfl) ?_
        refine lv_bipush (v := (100 : Int32)) hx hb dL_areSound_588 (by decide) ?_
        refine lv_isub hx hb dL_areSound_590 ?_
        refine lv_aload_n hx hb dL_areSound_591 rfl (lv_at hl 2 rfl) ?_
        refine lv_iconst (v := (3 : Int32)) hx hb dL_areSound_592 (by decide) ?_
        obtain ⟨b53, h⟩ := h
        refine r_iald hx hb hE hW 100 0 ⟨rfl, by decide, by decide⟩ (n := 14) (f := ρ 0) rfl b53 (v := ρ 0 ((3 : Int32)).toNatClampNeg) rfl dL_areSound_593 ?_
        refine r_icmp_ge hx hb rfl rfl (tgt := 611) dL_areSound_594 (by decide) (fun c54 => ?_) (fun c54 => ?_)
        · have h := ite_f c54 h
          exact tL_areSound_611 (σ := σ) (ρ := ρ) X hlt p5 κ152 κ417 post bc152 bs152 hk152 bc417 bs417 hb417 hk417 _ _ (by omega) (by omega) (by omega) (by omega) a1 a2 b1 x7 x9 x10 x12 x14 x15 x17 hX9 hW hS (lv_sub hl [1, 2, 3, 4, 5, 6, 7, 8, 9, 10] rfl) h
        · have h := ite_t c54 h
          refine lv_iload hx hb dL_areSound_597 (lv_at hl 10 rfl) ?_
          refine lv_aload_n hx hb dL_areSound_599 rfl (lv_at hl 1 rfl) ?_
          refine lv_iload hx hb dL_areSound_600 (lv_at hl 9 rfl) ?_
          refine lv_bipush (v := (100 : Int32)) hx hb dL_areSound_602 (by decide) ?_
          refine lv_isub hx hb dL_areSound_604 ?_
          refine k_Vi (rest := [.int x17]) (As := [.int (x15 - ((100 : Int32)))]) ⟨hx, hb, hml, hown, hts⟩ hE hz hS hW (nmtX6_label l z G b1 a1 a2 ρ lo (x15 - ((100 : Int32))) _ h) (cwV 1 hts gL_areSound_X6_label rfl rfl rfl (by decide +kernel) ⟨Nat.le_of_ble_eq_true rfl, Nat.le_of_ble_eq_true rfl⟩) (r_recv hE hW 0 0 rfl (ci := 9) rfl rfl) rfl hl.1 rfl (Nat.le_of_ble_eq_true rfl) dL_areSound_605 ⟨by show _ ≤ 1500; omega, by show _ ≤ 28184; omega⟩ (fun r58 S1 H locs hp hW hS => ?_)
          obtain ⟨rfl, h⟩ := hp
          refine r_icmp_eq hx hb rfl rfl (tgt := 628) dL_areSound_608 (by decide) (fun c59 => ?_) (fun c59 => ?_)
          · have h := ite_t c59 h
            refine lv_iconst (v := (1 : Int32)) hx hb dL_areSound_628 (by decide) ?_
            refine lv_goto (tgt := 633) hx hb dL_areSound_629 (by decide) ?_
            refine lv_istore (lv' := [(6, .int ((1 : Int32))), (0, .ref (b1 0 0)), (1, .ref (b1 100 0)), (5, .int p5), (7, .int x7), (9, .int x9), (10, .int x10), (12, .int x12), (14, .int x14), (15, .int x15), (17, .int x17)]) hx hb dL_areSound_633 hl (by decide) rfl (fun ls hl => ?_)
            refine lv_iinc (v := x14 + (2 : Int32)) (lv' := [(14, .int (x14 + (2 : Int32))), (6, .int ((1 : Int32))), (0, .ref (b1 0 0)), (1, .ref (b1 100 0)), (5, .int p5), (7, .int x7), (9, .int x9), (10, .int x10), (12, .int x12), (15, .int x15), (17, .int x17)]) hx hb dL_areSound_635 hl (k := 8) rfl rfl (by decide) rfl (fun ls hl => ?_)
            refine lv_goto (tgt := 417) hx hb dL_areSound_638 (by decide) ?_
            exact hk417 _ _ (by omega) (by omega) a1 a2 b1 ((1 : Int32)) x7 x9 x10 x12 (x14 + (2 : Int32)) hX9 hW hS (lv_sub hl [2, 3, 4, 1, 5, 6, 7, 8, 0] rfl) h
          · have h := ite_f c59 h
            exact tL_areSound_611 (σ := σ) (ρ := ρ) X hlt p5 κ152 κ417 post bc152 bs152 hk152 bc417 bs417 hb417 hk417 _ _ (by omega) (by omega) (by omega) (by omega) a1 a2 b1 x7 x9 x10 x12 x14 x15 x17 hX9 hW hS (lv_sub hl [1, 2, 3, 4, 5, 6, 7, 8, 9, 10] rfl) h
set_option maxHeartbeats 4000000 in
set_option maxRecDepth 100000 in
theorem tL_areSound_479 {p : Program} {l : Launch} {e : Env} {s : State} {m : MethodId} {args : Array Value} {below : List Frame} {meth : Method} {c : Code} {z : Nat} {G : Gl} {ad : Nat → Nat → Nat} {σ : SG} {ν : NU} {ρ : RH} {lo : Int64} (X : Cx p l e s m args below meth c cL_areSound (some .boolean) 18 RL wsL_areSound z G) (hlt : l.stackTraces = false) (p5 : Int32) (κ152 : SG → NU → RH → Int32 → Int32 → Int32 → Int32 → Prop) (κ417 : SG → NU → RH → Int32 → Int32 → Int32 → Int32 → Int32 → Int32 → Prop) (post : Int32 → SG → NU → Prop) (bc152 bs152 : Nat) (hk152 : ∀ (kc ks : Nat), kc + bc152 ≤ 1500 → ks + bs152 ≤ 28184 → ∀ (a1 : SG) (a2 : NU) (b1 : Nat → Nat → Nat) (x6 : Int32) (x7 : Int32) (x8 : Int32) (x9 : Int32) {H : Heap} {locs : List Loc} {ls : Array Slot}, Xt ad b1 ν a2 → WP z G b1 (a1, a2, ρ, lo) H → va_S (Az z) s.heap H locs → lv_has ls 18 [(0, .ref (b1 0 0)), (1, .ref (b1 100 0)), (5, .int p5), (6, .int x6), (7, .int x7), (8, .int x8), (9, .int x9)] → κ152 a1 a2 ρ x6 x7 x8 x9 → W p l e ({ frames := 10, cells := 1500, slots := 28184, locals := 245 } : Room) s m args below meth c H locs kc ks (MQ below (Qia z G (fun r S1 => ∃ (t : SG) (u : NU), S1.1 = (t, u, ρ, lo) ∧ Xt ad S1.2 ν u ∧ post r t u)) args s 1500 28184 (Az z)) (F0 m 152 ls [])) (bc417 bs417 : Nat) (hb417 : bc152 ≤ bc417 ∧ bs152 ≤ bs417) (hk417 : ∀ (kc ks : Nat), kc + bc417 ≤ 1500 → ks + bs417 ≤ 28184 → ∀ (a1 : SG) (a2 : NU) (b1 : Nat → Nat → Nat) (x6 : Int32) (x7 : Int32) (x9 : Int32) (x10 : Int32) (x12 : Int32) (x14 : Int32) {H : Heap} {locs : List Loc} {ls : Array Slot}, Xt ad b1 ν a2 → WP z G b1 (a1, a2, ρ, lo) H → va_S (Az z) s.heap H locs → lv_has ls 18 [(0, .ref (b1 0 0)), (1, .ref (b1 100 0)), (5, .int p5), (6, .int x6), (7, .int x7), (9, .int x9), (10, .int x10), (12, .int x12), (14, .int x14)] → κ417 a1 a2 ρ x6 x7 x9 x10 x12 x14 → W p l e ({ frames := 10, cells := 1500, slots := 28184, locals := 245 } : Room) s m args below meth c H locs kc ks (MQ below (Qia z G (fun r S1 => ∃ (t : SG) (u : NU), S1.1 = (t, u, ρ, lo) ∧ Xt ad S1.2 ν u ∧ post r t u)) args s 1500 28184 (Az z)) (F0 m 417 ls [])) : ∀ (kc ks : Nat), kc + 0 + bc417 ≤ 1500 → ks + 0 + bs417 ≤ 28184 → kc + 0 + bc152 ≤ 1500 → ks + 0 + bs152 ≤ 28184 → ∀ (a1 : SG) (a2 : NU) (b1 : Nat → Nat → Nat) (x7 : Int32) (x9 : Int32) (x10 : Int32) (x12 : Int32) (x14 : Int32) (x15 : Int32) (x16 : Int32) (y0 : Int32) {H : Heap} {locs : List Loc} {ls : Array Slot}, Xt ad b1 ν a2 → WP z G b1 (a1, a2, ρ, lo) H → va_S (Az z) s.heap H locs → lv_has ls 18 [(0, .ref (b1 0 0)), (1, .ref (b1 100 0)), (5, .int p5), (7, .int x7), (9, .int x9), (10, .int x10), (12, .int x12), (14, .int x14), (15, .int x15), (16, .int x16)] → jL_areSound_479 p5 κ152 κ417 post a1 a2 ρ x7 x9 x10 x12 x14 x15 x16 y0 → W p l e ({ frames := 10, cells := 1500, slots := 28184, locals := 245 } : Room) s m args below meth c H locs kc ks (MQ below (Qia z G (fun r S1 => ∃ (t : SG) (u : NU), S1.1 = (t, u, ρ, lo) ∧ Xt ad S1.2 ν u ∧ post r t u)) args s 1500 28184 (Az z)) (F0 m 479 ls [.int y0]) := by
  obtain ⟨hx, hb, hr, hml, hown, hts, hlocks, hE, hz⟩ := id X
  intro kc ks hB1 hB2 hX1 hX2 a1 a2 b1 x7 x9 x10 x12 x14 x15 x16 y0 H locs ls hX9 hW hS hl h
  unfold jL_areSound_479 at h
  refine lv_istore (lv' := [(17, .int y0), (0, .ref (b1 0 0)), (1, .ref (b1 100 0)), (5, .int p5), (7, .int x7), (9, .int x9), (10, .int x10), (12, .int x12), (14, .int x14), (15, .int x15), (16, .int x16)]) hx hb dL_areSound_479 hl (by decide) rfl (fun ls hl => ?_)
  refine lv_iload hx hb dL_areSound_481 (lv_at hl 9 rfl) ?_
  refine r_if_lt hx hb rfl (tgt := 564) dL_areSound_483 (by decide) (fun c49 => ?_) (fun c49 => ?_)
  · have h := ite_t c49 h
    refine lv_iconst (v := (0 : Int32)) hx hb dL_areSound_564 (by decide) ?_
    exact tL_areSound_565 (σ := σ) (ρ := ρ) X hlt p5 κ152 κ417 post bc152 bs152 hk152 bc417 bs417 hb417 hk417 _ _ (by omega) (by omega) (by omega) (by omega) a1 a2 b1 x7 x9 x10 x12 x14 x15 y0 ((0 : Int32)) hX9 hW hS (lv_sub hl [1, 2, 3, 4, 5, 6, 7, 8, 9, 0] rfl) h
  · have h := ite_f c49 h
    refine lv_iload hx hb dL_areSound_486 (lv_at hl 9 rfl) ?_
    refine lv_sipush (v := (140 : Int32)) hx hb dL_areSound_488 (by decide) ?_
    refine r_icmp_ge hx hb rfl (show (140 : Int32).toInt = 140 by decide) (tgt := 564) dL_areSound_491 (by decide) (fun c60 => ?_) (fun c60 => ?_)
    · have h := ite_f c60 h
      refine lv_iconst (v := (0 : Int32)) hx hb dL_areSound_564 (by decide) ?_
      exact tL_areSound_565 (σ := σ) (ρ := ρ) X hlt p5 κ152 κ417 post bc152 bs152 hk152 bc417 bs417 hb417 hk417 _ _ (by omega) (by omega) (by omega) (by omega) a1 a2 b1 x7 x9 x10 x12 x14 x15 y0 ((0 : Int32)) hX9 hW hS (lv_sub hl [1, 2, 3, 4, 5, 6, 7, 8, 9, 0] rfl) h
    · have h := ite_t c60 h
      refine lv_aload_n hx hb dL_areSound_494 rfl (lv_at hl 1 rfl) ?_
      refine lv_iload hx hb dL_areSound_495 (lv_at hl 6 rfl) ?_
      refine lv_iload hx hb dL_areSound_497 (lv_at hl 8 rfl) ?_
      refine k_Vi (rest := []) (As := [.int x10, .int x14]) ⟨hx, hb, hml, hown, hts⟩ hE hz hS hW (nmtX6_wordAnew l z G b1 a1 a2 ρ lo x10 x14 _ h) (cwV 2 hts gL_areSound_X6_wordAnew rfl rfl rfl (by decide +kernel) ⟨Nat.le_of_ble_eq_true rfl, Nat.le_of_ble_eq_true rfl⟩) (r_recv hE hW 0 0 rfl (ci := 9) rfl rfl) rfl hl.1 rfl (Nat.le_of_ble_eq_true rfl) dL_areSound_499 ⟨by show _ ≤ 1500; omega, by show _ ≤ 28184; omega⟩ (fun r61 S1 H locs hp hW hS => ?_)
      obtain ⟨t62, rfl, h⟩ := hp
      refine lv_iload hx hb dL_areSound_502 (lv_at hl 9 rfl) ?_
      refine r_icmp_ne hx hb rfl rfl (tgt := 564) dL_areSound_504 (by decide) (fun c63 => ?_) (fun c63 => ?_)
      · have h := ite_f c63 h
        refine lv_iconst (v := (0 : Int32)) hx hb dL_areSound_564 (by decide) ?_
        exact tL_areSound_565 (σ := σ) (ρ := ρ) X hlt p5 κ152 κ417 post bc152 bs152 hk152 bc417 bs417 hb417 hk417 _ _ (by omega) (by omega) (by omega) (by omega) t62 a2 b1 x7 x9 x10 x12 x14 x15 y0 ((0 : Int32)) hX9 hW hS (lv_sub hl [1, 2, 3, 4, 5, 6, 7, 8, 9, 0] rfl) h
      · have h := ite_t c63 h
        refine lv_iload hx hb dL_areSound_507 (lv_at hl 10 rfl) ?_
        refine r_if_lt hx hb rfl (tgt := 564) dL_areSound_509 (by decide) (fun c64 => ?_) (fun c64 => ?_)
        · have h := ite_t c64 h
          refine lv_iconst (v := (0 : Int32)) hx hb dL_areSound_564 (by decide) ?_
          exact tL_areSound_565 (σ := σ) (ρ := ρ) X hlt p5 κ152 κ417 post bc152 bs152 hk152 bc417 bs417 hb417 hk417 _ _ (by omega) (by omega) (by omega) (by omega) t62 a2 b1 x7 x9 x10 x12 x14 x15 y0 ((0 : Int32)) hX9 hW hS (lv_sub hl [1, 2, 3, 4, 5, 6, 7, 8, 9, 0] rfl) h
        · have h := ite_f c64 h
          refine lv_iload hx hb dL_areSound_512 (lv_at hl 10 rfl) ?_
          refine lv_aload_n hx hb dL_areSound_514 rfl (lv_at hl 2 rfl) ?_
          refine lv_iconst (v := (2 : Int32)) hx hb dL_areSound_515 (by decide) ?_
          obtain ⟨b65, h⟩ := h
          refine r_iald hx hb hE hW 100 0 ⟨rfl, by decide, by decide⟩ (n := 14) (f := ρ 0) rfl b65 (v := ρ 0 ((2 : Int32)).toNatClampNeg) rfl dL_areSound_516 ?_
          refine r_icmp_ge hx hb rfl rfl (tgt := 564) dL_areSound_517 (by decide) (fun c66 => ?_) (fun c66 => ?_)
          · have h := ite_f c66 h
            refine lv_iconst (v := (0 : Int32)) hx hb dL_areSound_564 (by decide) ?_
            exact tL_areSound_565 (σ := σ) (ρ := ρ) X hlt p5 κ152 κ417 post bc152 bs152 hk152 bc417 bs417 hb417 hk417 _ _ (by omega) (by omega) (by omega) (by omega) t62 a2 b1 x7 x9 x10 x12 x14 x15 y0 ((0 : Int32)) hX9 hW hS (lv_sub hl [1, 2, 3, 4, 5, 6, 7, 8, 9, 0] rfl) h
          · have h := ite_t c66 h
            refine lv_aload_n hx hb dL_areSound_520 rfl (lv_at hl 1 rfl) ?_
            refine lv_iload hx hb dL_areSound_521 (lv_at hl 10 rfl) ?_
            refine k_Vi (rest := []) (As := [.int x16]) ⟨hx, hb, hml, hown, hts⟩ hE hz hS hW (nmtX6_state l z G b1 t62 a2 ρ lo x16 _ h) (cwV 1 hts gL_areSound_X6_state rfl rfl rfl (by decide +kernel) ⟨Nat.le_of_ble_eq_true rfl, Nat.le_of_ble_eq_true rfl⟩) (r_recv hE hW 0 0 rfl (ci := 9) rfl rfl) rfl hl.1 rfl (Nat.le_of_ble_eq_true rfl) dL_areSound_523 ⟨by show _ ≤ 1500; omega, by show _ ≤ 28184; omega⟩ (fun r67 S1 H locs hp hW hS => ?_)
            obtain ⟨rfl, h⟩ := hp
            refine lv_iconst (v := (1 : Int32)) hx hb dL_areSound_526 (by decide) ?_
            refine r_icmp_ne hx hb rfl (show (1 : Int32).toInt = 1 by decide) (tgt := 564) dL_areSound_527 (by decide) (fun c68 => ?_) (fun c68 => ?_)
            · have h := ite_f c68 h
              refine lv_iconst (v := (0 : Int32)) hx hb dL_areSound_564 (by decide) ?_
              exact tL_areSound_565 (σ := σ) (ρ := ρ) X hlt p5 κ152 κ417 post bc152 bs152 hk152 bc417 bs417 hb417 hk417 _ _ (by omega) (by omega) (by omega) (by omega) t62 a2 b1 x7 x9 x10 x12 x14 x15 y0 ((0 : Int32)) hX9 hW hS (lv_sub hl [1, 2, 3, 4, 5, 6, 7, 8, 9, 0] rfl) h
            · have h := ite_t c68 h
              refine lv_iload hx hb dL_areSound_530 (lv_at hl 9 rfl) ?_
              refine lv_bipush (v := (99 : Int32)) hx hb dL_areSound_532 (by decide) ?_
              refine r_icmp_le hx hb rfl (show (99 : Int32).toInt = 99 by decide) (tgt := 554) dL_areSound_534 (by decide) (fun c69 => ?_) (fun c69 => ?_)
              · have h := ite_t c69 h
                refine lv_iload hx hb dL_areSound_554 (lv_at hl 0 rfl) ?_
                refine lv_iconst (v := (-1 : Int32)) hx hb dL_areSound_556 (by decide) ?_
                refine r_icmp_ne hx hb rfl (show (-1 : Int32).toInt = (-1) by decide) (tgt := 564) dL_areSound_557 (by decide) (fun c70 => ?_) (fun c70 => ?_)
                · have h := ite_f c70 h
                  refine lv_iconst (v := (0 : Int32)) hx hb dL_areSound_564 (by decide) ?_
                  exact tL_areSound_565 (σ := σ) (ρ := ρ) X hlt p5 κ152 κ417 post bc152 bs152 hk152 bc417 bs417 hb417 hk417 _ _ (by omega) (by omega) (by omega) (by omega) t62 a2 b1 x7 x9 x10 x12 x14 x15 y0 ((0 : Int32)) hX9 hW hS (lv_sub hl [1, 2, 3, 4, 5, 6, 7, 8, 9, 0] rfl) h
                · have h := ite_t c70 h
                  refine lv_iconst (v := (1 : Int32)) hx hb dL_areSound_560 (by decide) ?_
                  refine lv_goto (tgt := 565) hx hb dL_areSound_561 (by decide) ?_
                  exact tL_areSound_565 (σ := σ) (ρ := ρ) X hlt p5 κ152 κ417 post bc152 bs152 hk152 bc417 bs417 hb417 hk417 _ _ (by omega) (by omega) (by omega) (by omega) t62 a2 b1 x7 x9 x10 x12 x14 x15 y0 ((1 : Int32)) hX9 hW hS (lv_sub hl [1, 2, 3, 4, 5, 6, 7, 8, 9, 0] rfl) h
              · have h := ite_f c69 h
                refine lv_iload hx hb dL_areSound_537 (lv_at hl 0 rfl) ?_
                refine lv_iconst (v := (-1 : Int32)) hx hb dL_areSound_539 (by decide) ?_
                refine r_icmp_eq hx hb rfl (show (-1 : Int32).toInt = (-1) by decide) (tgt := 560) dL_areSound_540 (by decide) (fun c71 => ?_) (fun c71 => ?_)
                · have h := ite_t c71 h
                  refine lv_iconst (v := (1 : Int32)) hx hb dL_areSound_560 (by decide) ?_
                  refine lv_goto (tgt := 565) hx hb dL_areSound_561 (by decide) ?_
                  exact tL_areSound_565 (σ := σ) (ρ := ρ) X hlt p5 κ152 κ417 post bc152 bs152 hk152 bc417 bs417 hb417 hk417 _ _ (by omega) (by omega) (by omega) (by omega) t62 a2 b1 x7 x9 x10 x12 x14 x15 y0 ((1 : Int32)) hX9 hW hS (lv_sub hl [1, 2, 3, 4, 5, 6, 7, 8, 9, 0] rfl) h
                · have h := ite_f c71 h
                  refine lv_iload hx hb dL_areSound_543 (lv_at hl 0 rfl) ?_
                  refine lv_sipush (v := (999 : Int32)) hx hb dL_areSound_545 (by decide) ?_
                  refine r_icmp_le hx hb rfl (show (999 : Int32).toInt = 999 by decide) (tgt := 564) dL_areSound_548 (by decide) (fun c72 => ?_) (fun c72 => ?_)
                  · have h := ite_t c72 h
                    refine lv_iconst (v := (0 : Int32)) hx hb dL_areSound_564 (by decide) ?_
                    exact tL_areSound_565 (σ := σ) (ρ := ρ) X hlt p5 κ152 κ417 post bc152 bs152 hk152 bc417 bs417 hb417 hk417 _ _ (by omega) (by omega) (by omega) (by omega) t62 a2 b1 x7 x9 x10 x12 x14 x15 y0 ((0 : Int32)) hX9 hW hS (lv_sub hl [1, 2, 3, 4, 5, 6, 7, 8, 9, 0] rfl) h
                  · have h := ite_f c72 h
                    refine lv_goto (tgt := 560) hx hb dL_areSound_551 (by decide) ?_
                    refine lv_iconst (v := (1 : Int32)) hx hb dL_areSound_560 (by decide) ?_
                    refine lv_goto (tgt := 565) hx hb dL_areSound_561 (by decide) ?_
                    exact tL_areSound_565 (σ := σ) (ρ := ρ) X hlt p5 κ152 κ417 post bc152 bs152 hk152 bc417 bs417 hb417 hk417 _ _ (by omega) (by omega) (by omega) (by omega) t62 a2 b1 x7 x9 x10 x12 x14 x15 y0 ((1 : Int32)) hX9 hW hS (lv_sub hl [1, 2, 3, 4, 5, 6, 7, 8, 9, 0] rfl) h
set_option maxHeartbeats 4000000 in
set_option maxRecDepth 100000 in
theorem tL_areSound_467 {p : Program} {l : Launch} {e : Env} {s : State} {m : MethodId} {args : Array Value} {below : List Frame} {meth : Method} {c : Code} {z : Nat} {G : Gl} {ad : Nat → Nat → Nat} {σ : SG} {ν : NU} {ρ : RH} {lo : Int64} (X : Cx p l e s m args below meth c cL_areSound (some .boolean) 18 RL wsL_areSound z G) (hlt : l.stackTraces = false) (p5 : Int32) (κ152 : SG → NU → RH → Int32 → Int32 → Int32 → Int32 → Prop) (κ417 : SG → NU → RH → Int32 → Int32 → Int32 → Int32 → Int32 → Int32 → Prop) (post : Int32 → SG → NU → Prop) (bc152 bs152 : Nat) (hk152 : ∀ (kc ks : Nat), kc + bc152 ≤ 1500 → ks + bs152 ≤ 28184 → ∀ (a1 : SG) (a2 : NU) (b1 : Nat → Nat → Nat) (x6 : Int32) (x7 : Int32) (x8 : Int32) (x9 : Int32) {H : Heap} {locs : List Loc} {ls : Array Slot}, Xt ad b1 ν a2 → WP z G b1 (a1, a2, ρ, lo) H → va_S (Az z) s.heap H locs → lv_has ls 18 [(0, .ref (b1 0 0)), (1, .ref (b1 100 0)), (5, .int p5), (6, .int x6), (7, .int x7), (8, .int x8), (9, .int x9)] → κ152 a1 a2 ρ x6 x7 x8 x9 → W p l e ({ frames := 10, cells := 1500, slots := 28184, locals := 245 } : Room) s m args below meth c H locs kc ks (MQ below (Qia z G (fun r S1 => ∃ (t : SG) (u : NU), S1.1 = (t, u, ρ, lo) ∧ Xt ad S1.2 ν u ∧ post r t u)) args s 1500 28184 (Az z)) (F0 m 152 ls [])) (bc417 bs417 : Nat) (hb417 : bc152 ≤ bc417 ∧ bs152 ≤ bs417) (hk417 : ∀ (kc ks : Nat), kc + bc417 ≤ 1500 → ks + bs417 ≤ 28184 → ∀ (a1 : SG) (a2 : NU) (b1 : Nat → Nat → Nat) (x6 : Int32) (x7 : Int32) (x9 : Int32) (x10 : Int32) (x12 : Int32) (x14 : Int32) {H : Heap} {locs : List Loc} {ls : Array Slot}, Xt ad b1 ν a2 → WP z G b1 (a1, a2, ρ, lo) H → va_S (Az z) s.heap H locs → lv_has ls 18 [(0, .ref (b1 0 0)), (1, .ref (b1 100 0)), (5, .int p5), (6, .int x6), (7, .int x7), (9, .int x9), (10, .int x10), (12, .int x12), (14, .int x14)] → κ417 a1 a2 ρ x6 x7 x9 x10 x12 x14 → W p l e ({ frames := 10, cells := 1500, slots := 28184, locals := 245 } : Room) s m args below meth c H locs kc ks (MQ below (Qia z G (fun r S1 => ∃ (t : SG) (u : NU), S1.1 = (t, u, ρ, lo) ∧ Xt ad S1.2 ν u ∧ post r t u)) args s 1500 28184 (Az z)) (F0 m 417 ls [])) : ∀ (kc ks : Nat), kc + 8 + bc417 ≤ 1500 → ks + 157 + bs417 ≤ 28184 → kc + 8 + bc152 ≤ 1500 → ks + 157 + bs152 ≤ 28184 → ∀ (a1 : SG) (a2 : NU) (b1 : Nat → Nat → Nat) (x7 : Int32) (x9 : Int32) (x10 : Int32) (x12 : Int32) (x14 : Int32) (x15 : Int32) (x16 : Int32) {H : Heap} {locs : List Loc} {ls : Array Slot}, Xt ad b1 ν a2 → WP z G b1 (a1, a2, ρ, lo) H → va_S (Az z) s.heap H locs → lv_has ls 18 [(0, .ref (b1 0 0)), (1, .ref (b1 100 0)), (5, .int p5), (7, .int x7), (9, .int x9), (10, .int x10), (12, .int x12), (14, .int x14), (15, .int x15), (16, .int x16)] → jL_areSound_467 p5 κ152 κ417 post a1 a2 ρ x7 x9 x10 x12 x14 x15 x16 → W p l e ({ frames := 10, cells := 1500, slots := 28184, locals := 245 } : Room) s m args below meth c H locs kc ks (MQ below (Qia z G (fun r S1 => ∃ (t : SG) (u : NU), S1.1 = (t, u, ρ, lo) ∧ Xt ad S1.2 ν u ∧ post r t u)) args s 1500 28184 (Az z)) (F0 m 467 ls []) := by
  obtain ⟨hx, hb, hr, hml, hown, hts, hlocks, hE, hz⟩ := id X
  intro kc ks hB1 hB2 hX1 hX2 a1 a2 b1 x7 x9 x10 x12 x14 x15 x16 H locs ls hX9 hW hS hl h
  unfold jL_areSound_467 at h
  refine lv_aload_n hx hb dL_areSound_467 rfl (lv_at hl 0 rfl) ?_
  refine lv_iload hx hb dL_areSound_468 (lv_at hl 5 rfl) ?_
  refine lv_iload hx hb dL_areSound_470 (lv_at hl 7 rfl) ?_
  refine kA_Vi (rest := []) (As := [.int x10, .int x14]) ⟨hx, hb, hml, hown, hts⟩ hE hz hS hW (nmtX6_refers l z G b1 a1 a2 ρ lo x10 x14 _ h) (cwV 2 hts gL_areSound_X6_refers rfl rfl rfl (by decide +kernel) ⟨Nat.le_of_ble_eq_true rfl, Nat.le_of_ble_eq_true rfl⟩) (r_recv hE hW 0 0 rfl (ci := 9) rfl rfl) rfl hl.1 rfl (Nat.le_of_ble_eq_true rfl) dL_areSound_472 ⟨by show _ ≤ 1500; omega, by show _ ≤ 28184; omega⟩ (fun r42 S1 ad45 H locs hp hW hS => ?_)
  obtain ⟨t43, vv44, rfl, q46, h⟩ := hp
  have z47 : ad45 0 0 = b1 0 0 := (q46 0 0 (by decide) rfl).2
  have z48 : ad45 100 0 = b1 100 0 := (q46 100 0 (by decide) ⟨rfl, by decide, by decide⟩).2
  have hl : lv_has ls 18 [(0, .ref (ad45 0 0)), (1, .ref (ad45 100 0)), (5, .int p5), (7, .int x7), (9, .int x9), (10, .int x10), (12, .int x12), (14, .int x14), (15, .int x15), (16, .int x16)] := by rw [z47, z48]; exact hl
  refine lv_goto (tgt := 479) hx hb dL_areSound_475 (by decide) ?_
  exact tL_areSound_479 (σ := σ) (ρ := ρ) X hlt p5 κ152 κ417 post bc152 bs152 hk152 bc417 bs417 hb417 hk417 _ _ (by omega) (by omega) (by omega) (by omega) t43 vv44 ad45 x7 x9 x10 x12 x14 x15 x16 r42 (Xt.tr hX9 q46) hW hS (lv_sub hl [0, 1, 2, 3, 4, 5, 6, 7, 8, 9] rfl) h
set_option maxHeartbeats 4000000 in
set_option maxRecDepth 100000 in
theorem tL_areSound_417 {p : Program} {l : Launch} {e : Env} {s : State} {m : MethodId} {args : Array Value} {below : List Frame} {meth : Method} {c : Code} {z : Nat} {G : Gl} {ad : Nat → Nat → Nat} {σ : SG} {ν : NU} {ρ : RH} {lo : Int64} (X : Cx p l e s m args below meth c cL_areSound (some .boolean) 18 RL wsL_areSound z G) (hlt : l.stackTraces = false) (p5 : Int32) (κ152 : SG → NU → RH → Int32 → Int32 → Int32 → Int32 → Prop) (post : Int32 → SG → NU → Prop) (bc152 bs152 : Nat) (hk152 : ∀ (kc ks : Nat), kc + bc152 ≤ 1500 → ks + bs152 ≤ 28184 → ∀ (a1 : SG) (a2 : NU) (b1 : Nat → Nat → Nat) (x6 : Int32) (x7 : Int32) (x8 : Int32) (x9 : Int32) {H : Heap} {locs : List Loc} {ls : Array Slot}, Xt ad b1 ν a2 → WP z G b1 (a1, a2, ρ, lo) H → va_S (Az z) s.heap H locs → lv_has ls 18 [(0, .ref (b1 0 0)), (1, .ref (b1 100 0)), (5, .int p5), (6, .int x6), (7, .int x7), (8, .int x8), (9, .int x9)] → κ152 a1 a2 ρ x6 x7 x8 x9 → W p l e ({ frames := 10, cells := 1500, slots := 28184, locals := 245 } : Room) s m args below meth c H locs kc ks (MQ below (Qia z G (fun r S1 => ∃ (t : SG) (u : NU), S1.1 = (t, u, ρ, lo) ∧ Xt ad S1.2 ν u ∧ post r t u)) args s 1500 28184 (Az z)) (F0 m 152 ls [])) : ∀ (n kc ks : Nat), kc + (n * 8 + 8 + bc152) ≤ 1500 → ks + (n * 157 + 157 + bs152) ≤ 28184 → ∀ (a1 : SG) (a2 : NU) (b1 : Nat → Nat → Nat) (x6 : Int32) (x7 : Int32) (x9 : Int32) (x10 : Int32) (x12 : Int32) (x14 : Int32) {H : Heap} {locs : List Loc} {ls : Array Slot}, Xt ad b1 ν a2 → WP z G b1 (a1, a2, ρ, lo) H → va_S (Az z) s.heap H locs → lv_has ls 18 [(0, .ref (b1 0 0)), (1, .ref (b1 100 0)), (5, .int p5), (6, .int x6), (7, .int x7), (9, .int x9), (10, .int x10), (12, .int x12), (14, .int x14)] → wL_areSound_417 p5 κ152 post n a1 a2 ρ x6 x7 x9 x10 x12 x14 → W p l e ({ frames := 10, cells := 1500, slots := 28184, locals := 245 } : Room) s m args below meth c H locs kc ks (MQ below (Qia z G (fun r S1 => ∃ (t : SG) (u : NU), S1.1 = (t, u, ρ, lo) ∧ Xt ad S1.2 ν u ∧ post r t u)) args s 1500 28184 (Az z)) (F0 m 417 ls []) := by
  obtain ⟨hx, hb, hr, hml, hown, hts, hlocks, hE, hz⟩ := id X
  intro n
  induction n with
  | zero =>
    intro kc ks hB1 hB2 a1 a2 b1 x6 x7 x9 x10 x12 x14 H locs ls hX9 hW hS hl h
    exact absurd h id
  | succ n ih =>
    intro kc ks hB1 hB2 a1 a2 b1 x6 x7 x9 x10 x12 x14 H locs ls hX9 hW hS hl h
    unfold wL_areSound_417 at h
    refine lv_iload hx hb dL_areSound_417 (lv_at hl 8 rfl) ?_
    refine lv_iload hx hb dL_areSound_419 (lv_at hl 7 rfl) ?_
    refine r_icmp_ge hx hb rfl rfl (tgt := 641) dL_areSound_421 (by decide) (fun c35 => ?_) (fun c35 => ?_)
    · have h := ite_f c35 h
      exact tL_areSound_641 (σ := σ) (ρ := ρ) X hlt p5 κ152 post bc152 bs152 hk152 _ _ (by omega) (by omega) (by omega) (by omega) a1 a2 b1 x6 x7 x9 x10 hX9 hW hS (lv_sub hl [0, 1, 2, 3, 4, 5, 6] rfl) h
    · have h := ite_t c35 h
      refine lv_iload hx hb dL_areSound_424 (lv_at hl 3 rfl) ?_
      refine r_if_eq hx hb rfl (tgt := 641) dL_areSound_426 (by decide) (fun c36 => ?_) (fun c36 => ?_)
      · have h := ite_t c36 h
        exact tL_areSound_641 (σ := σ) (ρ := ρ) X hlt p5 κ152 post bc152 bs152 hk152 _ _ (by omega) (by omega) (by omega) (by omega) a1 a2 b1 x6 x7 x9 x10 hX9 hW hS (lv_sub hl [0, 1, 2, 3, 4, 5, 6] rfl) h
      · have h := ite_f c36 h
        refine lv_aload_n hx hb dL_areSound_429 rfl (lv_at hl 0 rfl) ?_
        refine lv_iload hx hb dL_areSound_430 (lv_at hl 6 rfl) ?_
        refine lv_iload hx hb dL_areSound_432 (lv_at hl 8 rfl) ?_
        refine k_Vi (rest := []) (As := [.int x10, .int x14]) ⟨hx, hb, hml, hown, hts⟩ hE hz hS hW (nmtX6_wordAt l z G b1 a1 a2 ρ lo x10 x14 _ h) (cwV 2 hts gL_areSound_X6_wordAt rfl rfl rfl (by decide +kernel) ⟨Nat.le_of_ble_eq_true rfl, Nat.le_of_ble_eq_true rfl⟩) (r_recv hE hW 0 0 rfl (ci := 9) rfl rfl) rfl hl.1 rfl (Nat.le_of_ble_eq_true rfl) dL_areSound_434 ⟨by show _ ≤ 1500; omega, by show _ ≤ 28184; omega⟩ (fun r37 S1 H locs hp hW hS => ?_)
        obtain ⟨rfl, h⟩ := hp
        refine lv_istore (lv' := [(15, .int r37), (0, .ref (b1 0 0)), (1, .ref (b1 100 0)), (5, .int p5), (6, .int x6), (7, .int x7), (9, .int x9), (10, .int x10), (12, .int x12), (14, .int x14)]) hx hb dL_areSound_437 hl (by decide) rfl (fun ls hl => ?_)
        refine lv_aload_n hx hb dL_areSound_439 rfl (lv_at hl 1 rfl) ?_
        refine lv_iload hx hb dL_areSound_440 (lv_at hl 7 rfl) ?_
        refine lv_iload hx hb dL_areSound_442 (lv_at hl 9 rfl) ?_
        refine k_Vi (rest := []) (As := [.int x10, .int x14]) ⟨hx, hb, hml, hown, hts⟩ hE hz hS hW (nmtX6_origin l z G b1 a1 a2 ρ lo x10 x14 _ h) (cwV 2 hts gL_areSound_X6_origin rfl rfl rfl (by decide +kernel) ⟨Nat.le_of_ble_eq_true rfl, Nat.le_of_ble_eq_true rfl⟩) (r_recv hE hW 0 0 rfl (ci := 9) rfl rfl) rfl hl.1 rfl (Nat.le_of_ble_eq_true rfl) dL_areSound_444 ⟨by show _ ≤ 1500; omega, by show _ ≤ 28184; omega⟩ (fun r38 S1 H locs hp hW hS => ?_)
        obtain ⟨rfl, h⟩ := hp
        refine lv_istore (lv' := [(16, .int r38), (15, .int r37), (0, .ref (b1 0 0)), (1, .ref (b1 100 0)), (5, .int p5), (6, .int x6), (7, .int x7), (9, .int x9), (10, .int x10), (12, .int x12), (14, .int x14)]) hx hb dL_areSound_447 hl (by decide) rfl (fun ls hl => ?_)
        refine lv_iload hx hb dL_areSound_449 (lv_at hl 8 rfl) ?_
        refine lv_iload hx hb dL_areSound_451 (lv_at hl 4 rfl) ?_
        refine lv_aload_n hx hb dL_areSound_453 rfl (lv_at hl 3 rfl) ?_
        refine lv_iconst (v := (3 : Int32)) hx hb dL_areSound_454 (by decide) ?_
        obtain ⟨b39, h⟩ := h
        refine r_iald hx hb hE hW 100 0 ⟨rfl, by decide, by decide⟩ (n := 14) (f := ρ 0) rfl b39 (v := ρ 0 ((3 : Int32)).toNatClampNeg) rfl dL_areSound_455 ?_
        obtain ⟨g40, h⟩ := h
        refine lv_irem hx hb dL_areSound_456 g40 ?_
        refine r_icmp_eq hx hb rfl rfl (tgt := 467) dL_areSound_457 (by decide) (fun c41 => ?_) (fun c41 => ?_)
        · have h := ite_t c41 h
          exact tL_areSound_467 (σ := σ) (ρ := ρ) X hlt p5 κ152 (wL_areSound_417 p5 κ152 post n) post bc152 bs152 hk152 (n * 8 + 8 + bc152) (n * 157 + 157 + bs152) ⟨by omega, by omega⟩ ih _ _ (by omega) (by omega) (by omega) (by omega) a1 a2 b1 x7 x9 x10 x12 x14 r37 r38 hX9 hW hS (lv_sub hl [2, 3, 4, 6, 7, 8, 9, 10, 1, 0] rfl) h
        · have h := ite_f c41 h
          refine lv_iload hx hb dL_areSound_460 (lv_at hl 1 rfl) ?_
          refine lv_bipush (v := (120 : Int32)) hx hb dL_areSound_462 (by decide) ?_
          refine r_icmp_ge hx hb rfl (show (120 : Int32).toInt = 120 by decide) (tgt := 478) dL_areSound_464 (by decide) (fun c73 => ?_) (fun c73 => ?_)
          · have h := ite_f c73 h
            refine lv_iconst (v := (-1 : Int32)) hx hb dL_areSound_478 (by decide) ?_
            exact tL_areSound_479 (σ := σ) (ρ := ρ) X hlt p5 κ152 (wL_areSound_417 p5 κ152 post n) post bc152 bs152 hk152 (n * 8 + 8 + bc152) (n * 157 + 157 + bs152) ⟨by omega, by omega⟩ ih _ _ (by omega) (by omega) (by omega) (by omega) a1 a2 b1 x7 x9 x10 x12 x14 r37 r38 ((-1 : Int32)) hX9 hW hS (lv_sub hl [2, 3, 4, 6, 7, 8, 9, 10, 1, 0] rfl) h
          · have h := ite_t c73 h
            exact tL_areSound_467 (σ := σ) (ρ := ρ) X hlt p5 κ152 (wL_areSound_417 p5 κ152 post n) post bc152 bs152 hk152 (n * 8 + 8 + bc152) (n * 157 + 157 + bs152) ⟨by omega, by omega⟩ ih _ _ (by omega) (by omega) (by omega) (by omega) a1 a2 b1 x7 x9 x10 x12 x14 r37 r38 hX9 hW hS (lv_sub hl [2, 3, 4, 6, 7, 8, 9, 10, 1, 0] rfl) h
set_option maxHeartbeats 4000000 in
set_option maxRecDepth 100000 in
theorem tL_areSound_345 {p : Program} {l : Launch} {e : Env} {s : State} {m : MethodId} {args : Array Value} {below : List Frame} {meth : Method} {c : Code} {z : Nat} {G : Gl} {ad : Nat → Nat → Nat} {σ : SG} {ν : NU} {ρ : RH} {lo : Int64} (X : Cx p l e s m args below meth c cL_areSound (some .boolean) 18 RL wsL_areSound z G) (hlt : l.stackTraces = false) (p5 : Int32) (κ152 : SG → NU → RH → Int32 → Int32 → Int32 → Int32 → Prop) (post : Int32 → SG → NU → Prop) (bc152 bs152 : Nat) (hk152 : ∀ (kc ks : Nat), kc + bc152 ≤ 1500 → ks + bs152 ≤ 28184 → ∀ (a1 : SG) (a2 : NU) (b1 : Nat → Nat → Nat) (x6 : Int32) (x7 : Int32) (x8 : Int32) (x9 : Int32) {H : Heap} {locs : List Loc} {ls : Array Slot}, Xt ad b1 ν a2 → WP z G b1 (a1, a2, ρ, lo) H → va_S (Az z) s.heap H locs → lv_has ls 18 [(0, .ref (b1 0 0)), (1, .ref (b1 100 0)), (5, .int p5), (6, .int x6), (7, .int x7), (8, .int x8), (9, .int x9)] → κ152 a1 a2 ρ x6 x7 x8 x9 → W p l e ({ frames := 10, cells := 1500, slots := 28184, locals := 245 } : Room) s m args below meth c H locs kc ks (MQ below (Qia z G (fun r S1 => ∃ (t : SG) (u : NU), S1.1 = (t, u, ρ, lo) ∧ Xt ad S1.2 ν u ∧ post r t u)) args s 1500 28184 (Az z)) (F0 m 152 ls [])) : ∀ (kc ks : Nat), kc + 64 + bc152 ≤ 1500 → ks + 1256 + bs152 ≤ 28184 → kc + 0 ≤ 1500 → ks + 0 ≤ 28184 → ∀ (a1 : SG) (a2 : NU) (b1 : Nat → Nat → Nat) (x6 : Int32) (x7 : Int32) (x8 : Int32) (x9 : Int32) (x10 : Int32) (x11 : Int32) (x12 : Int32) (x13 : Int32) {H : Heap} {locs : List Loc} {ls : Array Slot}, Xt ad b1 ν a2 → WP z G b1 (a1, a2, ρ, lo) H → va_S (Az z) s.heap H locs → lv_has ls 18 [(0, .ref (b1 0 0)), (1, .ref (b1 100 0)), (5, .int p5), (6, .int x6), (7, .int x7), (8, .int x8), (9, .int x9), (10, .int x10), (11, .int x11), (12, .int x12), (13, .int x13)] → jL_areSound_345 p5 κ152 post a1 a2 ρ x6 x7 x8 x9 x10 x11 x12 x13 → W p l e ({ frames := 10, cells := 1500, slots := 28184, locals := 245 } : Room) s m args below meth c H locs kc ks (MQ below (Qia z G (fun r S1 => ∃ (t : SG) (u : NU), S1.1 = (t, u, ρ, lo) ∧ Xt ad S1.2 ν u ∧ post r t u)) args s 1500 28184 (Az z)) (F0 m 345 ls []) := by
  obtain ⟨hx, hb, hr, hml, hown, hts, hlocks, hE, hz⟩ := id X
  intro kc ks hB1 hB2 hX1 hX2 a1 a2 b1 x6 x7 x8 x9 x10 x11 x12 x13 H locs ls hX9 hW hS hl h
  unfold jL_areSound_345 at h
  refine lv_iload hx hb dL_areSound_345 (lv_at hl 3 rfl) ?_
  refine r_if_eq hx hb rfl (tgt := 411) dL_areSound_347 (by decide) (fun c34 => ?_) (fun c34 => ?_)
  · have h := ite_t c34 h
    refine lv_iconst (v := (0 : Int32)) hx hb dL_areSound_411 (by decide) ?_
    refine lv_istore (lv' := [(6, .int ((0 : Int32))), (0, .ref (b1 0 0)), (1, .ref (b1 100 0)), (5, .int p5), (7, .int x7), (8, .int x8), (9, .int x9), (10, .int x10), (11, .int x11), (12, .int x12), (13, .int x13)]) hx hb dL_areSound_412 hl (by decide) rfl (fun ls hl => ?_)
    refine lv_iconst (v := (0 : Int32)) hx hb dL_areSound_414 (by decide) ?_
    refine lv_istore (lv' := [(14, .int ((0 : Int32))), (6, .int ((0 : Int32))), (0, .ref (b1 0 0)), (1, .ref (b1 100 0)), (5, .int p5), (7, .int x7), (8, .int x8), (9, .int x9), (10, .int x10), (11, .int x11), (12, .int x12), (13, .int x13)]) hx hb dL_areSound_415 hl (by decide) rfl (fun ls hl => ?_)
    obtain ⟨n74, n75, h⟩ := h
    exact tL_areSound_417 (σ := σ) (ρ := ρ) X hlt p5 κ152 post bc152 bs152 hk152 n74 _ _ (by omega) (by omega) a1 a2 b1 ((0 : Int32)) x7 x9 x10 x12 ((0 : Int32)) hX9 hW hS (lv_sub hl [2, 3, 4, 1, 5, 7, 8, 10, 0] rfl) h
  · have h := ite_f c34 h
    refine lv_iload hx hb dL_areSound_350 (lv_at hl 5 rfl) ?_
    refine r_if_ge hx hb rfl (tgt := 364) dL_areSound_352 (by decide) (fun c76 => ?_) (fun c76 => ?_)
    · have h := ite_f c76 h
      refine lv_iload hx hb dL_areSound_364 (lv_at hl 10 rfl) ?_
      refine r_if_lt hx hb rfl (tgt := 411) dL_areSound_366 (by decide) (fun c77 => ?_) (fun c77 => ?_)
      · have h := ite_t c77 h
        refine lv_iconst (v := (0 : Int32)) hx hb dL_areSound_411 (by decide) ?_
        refine lv_istore (lv' := [(6, .int ((0 : Int32))), (0, .ref (b1 0 0)), (1, .ref (b1 100 0)), (5, .int p5), (7, .int x7), (8, .int x8), (9, .int x9), (10, .int x10), (11, .int x11), (12, .int x12), (13, .int x13)]) hx hb dL_areSound_412 hl (by decide) rfl (fun ls hl => ?_)
        refine lv_iconst (v := (0 : Int32)) hx hb dL_areSound_414 (by decide) ?_
        refine lv_istore (lv' := [(14, .int ((0 : Int32))), (6, .int ((0 : Int32))), (0, .ref (b1 0 0)), (1, .ref (b1 100 0)), (5, .int p5), (7, .int x7), (8, .int x8), (9, .int x9), (10, .int x10), (11, .int x11), (12, .int x12), (13, .int x13)]) hx hb dL_areSound_415 hl (by decide) rfl (fun ls hl => ?_)
        obtain ⟨n78, n79, h⟩ := h
        exact tL_areSound_417 (σ := σ) (ρ := ρ) X hlt p5 κ152 post bc152 bs152 hk152 n78 _ _ (by omega) (by omega) a1 a2 b1 ((0 : Int32)) x7 x9 x10 x12 ((0 : Int32)) hX9 hW hS (lv_sub hl [2, 3, 4, 1, 5, 7, 8, 10, 0] rfl) h
      · have h := ite_f c77 h
        refine lv_iload hx hb dL_areSound_369 (lv_at hl 10 rfl) ?_
        refine lv_iload hx hb dL_areSound_371 (lv_at hl 8 rfl) ?_
        refine r_icmp_ne hx hb rfl rfl (tgt := 386) dL_areSound_373 (by decide) (fun c80 => ?_) (fun c80 => ?_)
        · have h := ite_f c80 h
          refine lv_aload_n hx hb dL_areSound_386 rfl (lv_at hl 0 rfl) ?_
          refine lv_iload hx hb dL_areSound_387 (lv_at hl 10 rfl) ?_
          refine k_Vi (rest := []) (As := [.int x13]) ⟨hx, hb, hml, hown, hts⟩ hE hz hS hW (nmtX6_label l z G b1 a1 a2 ρ lo x13 _ h) (cwV 1 hts gL_areSound_X6_label rfl rfl rfl (by decide +kernel) ⟨Nat.le_of_ble_eq_true rfl, Nat.le_of_ble_eq_true rfl⟩) (r_recv hE hW 0 0 rfl (ci := 9) rfl rfl) rfl hl.1 rfl (Nat.le_of_ble_eq_true rfl) dL_areSound_389 ⟨by show _ ≤ 1500; omega, by show _ ≤ 28184; omega⟩ (fun r81 S1 H locs hp hW hS => ?_)
          obtain ⟨rfl, h⟩ := hp
          refine k_Si (rest := []) (As := [.int r81]) ⟨hx, hb, hml, hown, hts⟩ hE hz hS hW (mtL_key l hlt z G b1 a1 a2 ρ lo r81 _ h) (va_cwS 1 hts gL_areSound_L_key rfl rfl rfl (by decide +kernel) ⟨Nat.le_of_ble_eq_true rfl, Nat.le_of_ble_eq_true rfl⟩) rfl hl.1 rfl (Nat.le_of_ble_eq_true rfl) dL_areSound_392 ⟨by show _ ≤ 1500; omega, by show _ ≤ 28184; omega⟩ (fun r82 S1 H locs hp hW hS => ?_)
          obtain ⟨rfl, h⟩ := hp
          refine lv_aload_n hx hb dL_areSound_395 rfl (lv_at hl 0 rfl) ?_
          refine lv_iload hx hb dL_areSound_396 (lv_at hl 7 rfl) ?_
          refine k_Vi (rest := [.int r82]) (As := [.int x10]) ⟨hx, hb, hml, hown, hts⟩ hE hz hS hW (nmtX6_label l z G b1 a1 a2 ρ lo x10 _ h) (cwV 1 hts gL_areSound_X6_label rfl rfl rfl (by decide +kernel) ⟨Nat.le_of_ble_eq_true rfl, Nat.le_of_ble_eq_true rfl⟩) (r_recv hE hW 0 0 rfl (ci := 9) rfl rfl) rfl hl.1 rfl (Nat.le_of_ble_eq_true rfl) dL_areSound_398 ⟨by show _ ≤ 1500; omega, by show _ ≤ 28184; omega⟩ (fun r83 S1 H locs hp hW hS => ?_)
          obtain ⟨rfl, h⟩ := hp
          refine k_Si (rest := [.int r82]) (As := [.int r83]) ⟨hx, hb, hml, hown, hts⟩ hE hz hS hW (mtL_key l hlt z G b1 a1 a2 ρ lo r83 _ h) (va_cwS 1 hts gL_areSound_L_key rfl rfl rfl (by decide +kernel) ⟨Nat.le_of_ble_eq_true rfl, Nat.le_of_ble_eq_true rfl⟩) rfl hl.1 rfl (Nat.le_of_ble_eq_true rfl) dL_areSound_401 ⟨by show _ ≤ 1500; omega, by show _ ≤ 28184; omega⟩ (fun r84 S1 H locs hp hW hS => ?_)
          obtain ⟨rfl, h⟩ := hp
          refine r_icmp_ge hx hb rfl rfl (tgt := 411) dL_areSound_404 (by decide) (fun c85 => ?_) (fun c85 => ?_)
          · have h := ite_f c85 h
            refine lv_iconst (v := (0 : Int32)) hx hb dL_areSound_411 (by decide) ?_
            refine lv_istore (lv' := [(6, .int ((0 : Int32))), (0, .ref (b1 0 0)), (1, .ref (b1 100 0)), (5, .int p5), (7, .int x7), (8, .int x8), (9, .int x9), (10, .int x10), (11, .int x11), (12, .int x12), (13, .int x13)]) hx hb dL_areSound_412 hl (by decide) rfl (fun ls hl => ?_)
            refine lv_iconst (v := (0 : Int32)) hx hb dL_areSound_414 (by decide) ?_
            refine lv_istore (lv' := [(14, .int ((0 : Int32))), (6, .int ((0 : Int32))), (0, .ref (b1 0 0)), (1, .ref (b1 100 0)), (5, .int p5), (7, .int x7), (8, .int x8), (9, .int x9), (10, .int x10), (11, .int x11), (12, .int x12), (13, .int x13)]) hx hb dL_areSound_415 hl (by decide) rfl (fun ls hl => ?_)
            obtain ⟨n86, n87, h⟩ := h
            exact tL_areSound_417 (σ := σ) (ρ := ρ) X hlt p5 κ152 post bc152 bs152 hk152 n86 _ _ (by omega) (by omega) a1 a2 b1 ((0 : Int32)) x7 x9 x10 x12 ((0 : Int32)) hX9 hW hS (lv_sub hl [2, 3, 4, 1, 5, 7, 8, 10, 0] rfl) h
          · have h := ite_t c85 h
            refine lv_iconst (v := (1 : Int32)) hx hb dL_areSound_407 (by decide) ?_
            refine lv_goto (tgt := 412) hx hb dL_areSound_408 (by decide) ?_
            refine lv_istore (lv' := [(6, .int ((1 : Int32))), (0, .ref (b1 0 0)), (1, .ref (b1 100 0)), (5, .int p5), (7, .int x7), (8, .int x8), (9, .int x9), (10, .int x10), (11, .int x11), (12, .int x12), (13, .int x13)]) hx hb dL_areSound_412 hl (by decide) rfl (fun ls hl => ?_)
            refine lv_iconst (v := (0 : Int32)) hx hb dL_areSound_414 (by decide) ?_
            refine lv_istore (lv' := [(14, .int ((0 : Int32))), (6, .int ((1 : Int32))), (0, .ref (b1 0 0)), (1, .ref (b1 100 0)), (5, .int p5), (7, .int x7), (8, .int x8), (9, .int x9), (10, .int x10), (11, .int x11), (12, .int x12), (13, .int x13)]) hx hb dL_areSound_415 hl (by decide) rfl (fun ls hl => ?_)
            obtain ⟨n88, n89, h⟩ := h
            exact tL_areSound_417 (σ := σ) (ρ := ρ) X hlt p5 κ152 post bc152 bs152 hk152 n88 _ _ (by omega) (by omega) a1 a2 b1 ((1 : Int32)) x7 x9 x10 x12 ((0 : Int32)) hX9 hW hS (lv_sub hl [2, 3, 4, 1, 5, 7, 8, 10, 0] rfl) h
        · have h := ite_t c80 h
          refine lv_iload hx hb dL_areSound_376 (lv_at hl 10 rfl) ?_
          refine lv_iload hx hb dL_areSound_378 (lv_at hl 5 rfl) ?_
          refine r_icmp_ne hx hb rfl rfl (tgt := 411) dL_areSound_380 (by decide) (fun c90 => ?_) (fun c90 => ?_)
          · have h := ite_f c90 h
            refine lv_iconst (v := (0 : Int32)) hx hb dL_areSound_411 (by decide) ?_
            refine lv_istore (lv' := [(6, .int ((0 : Int32))), (0, .ref (b1 0 0)), (1, .ref (b1 100 0)), (5, .int p5), (7, .int x7), (8, .int x8), (9, .int x9), (10, .int x10), (11, .int x11), (12, .int x12), (13, .int x13)]) hx hb dL_areSound_412 hl (by decide) rfl (fun ls hl => ?_)
            refine lv_iconst (v := (0 : Int32)) hx hb dL_areSound_414 (by decide) ?_
            refine lv_istore (lv' := [(14, .int ((0 : Int32))), (6, .int ((0 : Int32))), (0, .ref (b1 0 0)), (1, .ref (b1 100 0)), (5, .int p5), (7, .int x7), (8, .int x8), (9, .int x9), (10, .int x10), (11, .int x11), (12, .int x12), (13, .int x13)]) hx hb dL_areSound_415 hl (by decide) rfl (fun ls hl => ?_)
            obtain ⟨n91, n92, h⟩ := h
            exact tL_areSound_417 (σ := σ) (ρ := ρ) X hlt p5 κ152 post bc152 bs152 hk152 n91 _ _ (by omega) (by omega) a1 a2 b1 ((0 : Int32)) x7 x9 x10 x12 ((0 : Int32)) hX9 hW hS (lv_sub hl [2, 3, 4, 1, 5, 7, 8, 10, 0] rfl) h
          · have h := ite_t c90 h
            refine lv_goto (tgt := 407) hx hb dL_areSound_383 (by decide) ?_
            refine lv_iconst (v := (1 : Int32)) hx hb dL_areSound_407 (by decide) ?_
            refine lv_goto (tgt := 412) hx hb dL_areSound_408 (by decide) ?_
            refine lv_istore (lv' := [(6, .int ((1 : Int32))), (0, .ref (b1 0 0)), (1, .ref (b1 100 0)), (5, .int p5), (7, .int x7), (8, .int x8), (9, .int x9), (10, .int x10), (11, .int x11), (12, .int x12), (13, .int x13)]) hx hb dL_areSound_412 hl (by decide) rfl (fun ls hl => ?_)
            refine lv_iconst (v := (0 : Int32)) hx hb dL_areSound_414 (by decide) ?_
            refine lv_istore (lv' := [(14, .int ((0 : Int32))), (6, .int ((1 : Int32))), (0, .ref (b1 0 0)), (1, .ref (b1 100 0)), (5, .int p5), (7, .int x7), (8, .int x8), (9, .int x9), (10, .int x10), (11, .int x11), (12, .int x12), (13, .int x13)]) hx hb dL_areSound_415 hl (by decide) rfl (fun ls hl => ?_)
            obtain ⟨n93, n94, h⟩ := h
            exact tL_areSound_417 (σ := σ) (ρ := ρ) X hlt p5 κ152 post bc152 bs152 hk152 n93 _ _ (by omega) (by omega) a1 a2 b1 ((1 : Int32)) x7 x9 x10 x12 ((0 : Int32)) hX9 hW hS (lv_sub hl [2, 3, 4, 1, 5, 7, 8, 10, 0] rfl) h
    · have h := ite_t c76 h
      refine lv_iload hx hb dL_areSound_355 (lv_at hl 8 rfl) ?_
      refine lv_iconst (v := (-1 : Int32)) hx hb dL_areSound_357 (by decide) ?_
      refine r_icmp_ne hx hb rfl (show (-1 : Int32).toInt = (-1) by decide) (tgt := 411) dL_areSound_358 (by decide) (fun c95 => ?_) (fun c95 => ?_)
      · have h := ite_f c95 h
        refine lv_iconst (v := (0 : Int32)) hx hb dL_areSound_411 (by decide) ?_
        refine lv_istore (lv' := [(6, .int ((0 : Int32))), (0, .ref (b1 0 0)), (1, .ref (b1 100 0)), (5, .int p5), (7, .int x7), (8, .int x8), (9, .int x9), (10, .int x10), (11, .int x11), (12, .int x12), (13, .int x13)]) hx hb dL_areSound_412 hl (by decide) rfl (fun ls hl => ?_)
        refine lv_iconst (v := (0 : Int32)) hx hb dL_areSound_414 (by decide) ?_
        refine lv_istore (lv' := [(14, .int ((0 : Int32))), (6, .int ((0 : Int32))), (0, .ref (b1 0 0)), (1, .ref (b1 100 0)), (5, .int p5), (7, .int x7), (8, .int x8), (9, .int x9), (10, .int x10), (11, .int x11), (12, .int x12), (13, .int x13)]) hx hb dL_areSound_415 hl (by decide) rfl (fun ls hl => ?_)
        obtain ⟨n96, n97, h⟩ := h
        exact tL_areSound_417 (σ := σ) (ρ := ρ) X hlt p5 κ152 post bc152 bs152 hk152 n96 _ _ (by omega) (by omega) a1 a2 b1 ((0 : Int32)) x7 x9 x10 x12 ((0 : Int32)) hX9 hW hS (lv_sub hl [2, 3, 4, 1, 5, 7, 8, 10, 0] rfl) h
      · have h := ite_t c95 h
        refine lv_goto (tgt := 407) hx hb dL_areSound_361 (by decide) ?_
        refine lv_iconst (v := (1 : Int32)) hx hb dL_areSound_407 (by decide) ?_
        refine lv_goto (tgt := 412) hx hb dL_areSound_408 (by decide) ?_
        refine lv_istore (lv' := [(6, .int ((1 : Int32))), (0, .ref (b1 0 0)), (1, .ref (b1 100 0)), (5, .int p5), (7, .int x7), (8, .int x8), (9, .int x9), (10, .int x10), (11, .int x11), (12, .int x12), (13, .int x13)]) hx hb dL_areSound_412 hl (by decide) rfl (fun ls hl => ?_)
        refine lv_iconst (v := (0 : Int32)) hx hb dL_areSound_414 (by decide) ?_
        refine lv_istore (lv' := [(14, .int ((0 : Int32))), (6, .int ((1 : Int32))), (0, .ref (b1 0 0)), (1, .ref (b1 100 0)), (5, .int p5), (7, .int x7), (8, .int x8), (9, .int x9), (10, .int x10), (11, .int x11), (12, .int x12), (13, .int x13)]) hx hb dL_areSound_415 hl (by decide) rfl (fun ls hl => ?_)
        obtain ⟨n98, n99, h⟩ := h
        exact tL_areSound_417 (σ := σ) (ρ := ρ) X hlt p5 κ152 post bc152 bs152 hk152 n98 _ _ (by omega) (by omega) a1 a2 b1 ((1 : Int32)) x7 x9 x10 x12 ((0 : Int32)) hX9 hW hS (lv_sub hl [2, 3, 4, 1, 5, 7, 8, 10, 0] rfl) h
set_option maxHeartbeats 4000000 in
set_option maxRecDepth 100000 in
theorem tL_areSound_301 {p : Program} {l : Launch} {e : Env} {s : State} {m : MethodId} {args : Array Value} {below : List Frame} {meth : Method} {c : Code} {z : Nat} {G : Gl} {ad : Nat → Nat → Nat} {σ : SG} {ν : NU} {ρ : RH} {lo : Int64} (X : Cx p l e s m args below meth c cL_areSound (some .boolean) 18 RL wsL_areSound z G) (hlt : l.stackTraces = false) (p5 : Int32) (κ152 : SG → NU → RH → Int32 → Int32 → Int32 → Int32 → Prop) (post : Int32 → SG → NU → Prop) (bc152 bs152 : Nat) (hk152 : ∀ (kc ks : Nat), kc + bc152 ≤ 1500 → ks + bs152 ≤ 28184 → ∀ (a1 : SG) (a2 : NU) (b1 : Nat → Nat → Nat) (x6 : Int32) (x7 : Int32) (x8 : Int32) (x9 : Int32) {H : Heap} {locs : List Loc} {ls : Array Slot}, Xt ad b1 ν a2 → WP z G b1 (a1, a2, ρ, lo) H → va_S (Az z) s.heap H locs → lv_has ls 18 [(0, .ref (b1 0 0)), (1, .ref (b1 100 0)), (5, .int p5), (6, .int x6), (7, .int x7), (8, .int x8), (9, .int x9)] → κ152 a1 a2 ρ x6 x7 x8 x9 → W p l e ({ frames := 10, cells := 1500, slots := 28184, locals := 245 } : Room) s m args below meth c H locs kc ks (MQ below (Qia z G (fun r S1 => ∃ (t : SG) (u : NU), S1.1 = (t, u, ρ, lo) ∧ Xt ad S1.2 ν u ∧ post r t u)) args s 1500 28184 (Az z)) (F0 m 152 ls [])) : ∀ (n kc ks : Nat), kc + (n * 0 + 64 + bc152) ≤ 1500 → ks + (n * 0 + 1256 + bs152) ≤ 28184 → ∀ (a1 : SG) (a2 : NU) (b1 : Nat → Nat → Nat) (x6 : Int32) (x7 : Int32) (x8 : Int32) (x9 : Int32) (x10 : Int32) (x11 : Int32) (x12 : Int32) (x13 : Int32) (x14 : Int32) {H : Heap} {locs : List Loc} {ls : Array Slot}, Xt ad b1 ν a2 → WP z G b1 (a1, a2, ρ, lo) H → va_S (Az z) s.heap H locs → lv_has ls 18 [(0, .ref (b1 0 0)), (1, .ref (b1 100 0)), (5, .int p5), (6, .int x6), (7, .int x7), (8, .int x8), (9, .int x9), (10, .int x10), (11, .int x11), (12, .int x12), (13, .int x13), (14, .int x14)] → wL_areSound_301 p5 κ152 post n a1 a2 ρ x6 x7 x8 x9 x10 x11 x12 x13 x14 → W p l e ({ frames := 10, cells := 1500, slots := 28184, locals := 245 } : Room) s m args below meth c H locs kc ks (MQ below (Qia z G (fun r S1 => ∃ (t : SG) (u : NU), S1.1 = (t, u, ρ, lo) ∧ Xt ad S1.2 ν u ∧ post r t u)) args s 1500 28184 (Az z)) (F0 m 301 ls []) := by
  obtain ⟨hx, hb, hr, hml, hown, hts, hlocks, hE, hz⟩ := id X
  intro n
  induction n with
  | zero =>
    intro kc ks hB1 hB2 a1 a2 b1 x6 x7 x8 x9 x10 x11 x12 x13 x14 H locs ls hX9 hW hS hl h
    exact absurd h id
  | succ n ih =>
    intro kc ks hB1 hB2 a1 a2 b1 x6 x7 x8 x9 x10 x11 x12 x13 x14 H locs ls hX9 hW hS hl h
    unfold wL_areSound_301 at h
    refine lv_iload hx hb dL_areSound_301 (lv_at hl 11 rfl) ?_
    refine lv_bipush (v := (20 : Int32)) hx hb dL_areSound_303 (by decide) ?_
    refine r_icmp_ge hx hb rfl (show (20 : Int32).toInt = 20 by decide) (tgt := 345) dL_areSound_305 (by decide) (fun c33 => ?_) (fun c33 => ?_)
    · have h := ite_f c33 h
      exact tL_areSound_345 (σ := σ) (ρ := ρ) X hlt p5 κ152 post bc152 bs152 hk152 _ _ (by omega) (by omega) (by omega) (by omega) a1 a2 b1 x6 x7 x8 x9 x10 x11 x12 x13 hX9 hW hS (lv_sub hl [0, 1, 2, 3, 4, 5, 6, 7, 8, 9, 10] rfl) h
    · have h := ite_t c33 h
      refine lv_iload hx hb dL_areSound_308 (lv_at hl 10 rfl) ?_
      refine r_if_lt hx hb rfl (tgt := 345) dL_areSound_310 (by decide) (fun c100 => ?_) (fun c100 => ?_)
      · have h := ite_t c100 h
        exact tL_areSound_345 (σ := σ) (ρ := ρ) X hlt p5 κ152 post bc152 bs152 hk152 _ _ (by omega) (by omega) (by omega) (by omega) a1 a2 b1 x6 x7 x8 x9 x10 x11 x12 x13 hX9 hW hS (lv_sub hl [0, 1, 2, 3, 4, 5, 6, 7, 8, 9, 10] rfl) h
      · have h := ite_f c100 h
        refine lv_aload_n hx hb dL_areSound_313 rfl (lv_at hl 0 rfl) ?_
        refine lv_iload hx hb dL_areSound_314 (lv_at hl 10 rfl) ?_
        refine k_Vi (rest := []) (As := [.int x13]) ⟨hx, hb, hml, hown, hts⟩ hE hz hS hW (nmtX6_parent l z G b1 a1 a2 ρ lo x13 _ h) (cwV 1 hts gL_areSound_X6_parent rfl rfl rfl (by decide +kernel) ⟨Nat.le_of_ble_eq_true rfl, Nat.le_of_ble_eq_true rfl⟩) (r_recv hE hW 0 0 rfl (ci := 9) rfl rfl) rfl hl.1 rfl (Nat.le_of_ble_eq_true rfl) dL_areSound_316 ⟨by show _ ≤ 1500; omega, by show _ ≤ 28184; omega⟩ (fun r101 S1 H locs hp hW hS => ?_)
        obtain ⟨rfl, h⟩ := hp
        refine lv_iload hx hb dL_areSound_319 (lv_at hl 8 rfl) ?_
        refine r_icmp_eq hx hb rfl rfl (tgt := 345) dL_areSound_321 (by decide) (fun c102 => ?_) (fun c102 => ?_)
        · have h := ite_t c102 h
          exact tL_areSound_345 (σ := σ) (ρ := ρ) X hlt p5 κ152 post bc152 bs152 hk152 _ _ (by omega) (by omega) (by omega) (by omega) a1 a2 b1 x6 x7 x8 x9 x10 x11 x12 x13 hX9 hW hS (lv_sub hl [0, 1, 2, 3, 4, 5, 6, 7, 8, 9, 10] rfl) h
        · have h := ite_f c102 h
          refine lv_iload hx hb dL_areSound_324 (lv_at hl 10 rfl) ?_
          refine lv_iload hx hb dL_areSound_326 (lv_at hl 8 rfl) ?_
          refine r_icmp_eq hx hb rfl rfl (tgt := 345) dL_areSound_328 (by decide) (fun c103 => ?_) (fun c103 => ?_)
          · have h := ite_t c103 h
            exact tL_areSound_345 (σ := σ) (ρ := ρ) X hlt p5 κ152 post bc152 bs152 hk152 _ _ (by omega) (by omega) (by omega) (by omega) a1 a2 b1 x6 x7 x8 x9 x10 x11 x12 x13 hX9 hW hS (lv_sub hl [0, 1, 2, 3, 4, 5, 6, 7, 8, 9, 10] rfl) h
          · have h := ite_f c103 h
            refine lv_aload_n hx hb dL_areSound_331 rfl (lv_at hl 0 rfl) ?_
            refine lv_iload hx hb dL_areSound_332 (lv_at hl 10 rfl) ?_
            refine k_Vi (rest := []) (As := [.int x13]) ⟨hx, hb, hml, hown, hts⟩ hE hz hS hW (nmtX6_parent l z G b1 a1 a2 ρ lo x13 _ h) (cwV 1 hts gL_areSound_X6_parent rfl rfl rfl (by decide +kernel) ⟨Nat.le_of_ble_eq_true rfl, Nat.le_of_ble_eq_true rfl⟩) (r_recv hE hW 0 0 rfl (ci := 9) rfl rfl) rfl hl.1 rfl (Nat.le_of_ble_eq_true rfl) dL_areSound_334 ⟨by show _ ≤ 1500; omega, by show _ ≤ 28184; omega⟩ (fun r104 S1 H locs hp hW hS => ?_)
            obtain ⟨rfl, h⟩ := hp
            refine lv_istore (lv' := [(13, .int r104), (0, .ref (b1 0 0)), (1, .ref (b1 100 0)), (5, .int p5), (6, .int x6), (7, .int x7), (8, .int x8), (9, .int x9), (10, .int x10), (11, .int x11), (12, .int x12), (14, .int x14)]) hx hb dL_areSound_337 hl (by decide) rfl (fun ls hl => ?_)
            refine lv_iinc (v := x14 + (1 : Int32)) (lv' := [(14, .int (x14 + (1 : Int32))), (13, .int r104), (0, .ref (b1 0 0)), (1, .ref (b1 100 0)), (5, .int p5), (6, .int x6), (7, .int x7), (8, .int x8), (9, .int x9), (10, .int x10), (11, .int x11), (12, .int x12)]) hx hb dL_areSound_339 hl (k := 11) rfl rfl (by decide) rfl (fun ls hl => ?_)
            refine lv_goto (tgt := 301) hx hb dL_areSound_342 (by decide) ?_
            exact ih _ _ (by omega) (by omega) a1 a2 b1 x6 x7 x8 x9 x10 x11 x12 r104 (x14 + (1 : Int32)) hX9 hW hS (lv_sub hl [2, 3, 4, 5, 6, 7, 8, 9, 10, 11, 1, 0] rfl) h
set_option maxHeartbeats 4000000 in
set_option maxRecDepth 100000 in
theorem tL_areSound_292 {p : Program} {l : Launch} {e : Env} {s : State} {m : MethodId} {args : Array Value} {below : List Frame} {meth : Method} {c : Code} {z : Nat} {G : Gl} {ad : Nat → Nat → Nat} {σ : SG} {ν : NU} {ρ : RH} {lo : Int64} (X : Cx p l e s m args below meth c cL_areSound (some .boolean) 18 RL wsL_areSound z G) (hlt : l.stackTraces = false) (p5 : Int32) (κ152 : SG → NU → RH → Int32 → Int32 → Int32 → Int32 → Prop) (post : Int32 → SG → NU → Prop) (bc152 bs152 : Nat) (hk152 : ∀ (kc ks : Nat), kc + bc152 ≤ 1500 → ks + bs152 ≤ 28184 → ∀ (a1 : SG) (a2 : NU) (b1 : Nat → Nat → Nat) (x6 : Int32) (x7 : Int32) (x8 : Int32) (x9 : Int32) {H : Heap} {locs : List Loc} {ls : Array Slot}, Xt ad b1 ν a2 → WP z G b1 (a1, a2, ρ, lo) H → va_S (Az z) s.heap H locs → lv_has ls 18 [(0, .ref (b1 0 0)), (1, .ref (b1 100 0)), (5, .int p5), (6, .int x6), (7, .int x7), (8, .int x8), (9, .int x9)] → κ152 a1 a2 ρ x6 x7 x8 x9 → W p l e ({ frames := 10, cells := 1500, slots := 28184, locals := 245 } : Room) s m args below meth c H locs kc ks (MQ below (Qia z G (fun r S1 => ∃ (t : SG) (u : NU), S1.1 = (t, u, ρ, lo) ∧ Xt ad S1.2 ν u ∧ post r t u)) args s 1500 28184 (Az z)) (F0 m 152 ls [])) : ∀ (kc ks : Nat), kc + 64 + bc152 ≤ 1500 → ks + 1256 + bs152 ≤ 28184 → kc + 0 ≤ 1500 → ks + 0 ≤ 28184 → ∀ (a1 : SG) (a2 : NU) (b1 : Nat → Nat → Nat) (x7 : Int32) (x8 : Int32) (x9 : Int32) (x10 : Int32) (x11 : Int32) (x12 : Int32) (y0 : Int32) {H : Heap} {locs : List Loc} {ls : Array Slot}, Xt ad b1 ν a2 → WP z G b1 (a1, a2, ρ, lo) H → va_S (Az z) s.heap H locs → lv_has ls 18 [(0, .ref (b1 0 0)), (1, .ref (b1 100 0)), (5, .int p5), (7, .int x7), (8, .int x8), (9, .int x9), (10, .int x10), (11, .int x11), (12, .int x12)] → jL_areSound_292 p5 κ152 post a1 a2 ρ x7 x8 x9 x10 x11 x12 y0 → W p l e ({ frames := 10, cells := 1500, slots := 28184, locals := 245 } : Room) s m args below meth c H locs kc ks (MQ below (Qia z G (fun r S1 => ∃ (t : SG) (u : NU), S1.1 = (t, u, ρ, lo) ∧ Xt ad S1.2 ν u ∧ post r t u)) args s 1500 28184 (Az z)) (F0 m 292 ls [.int y0]) := by
  obtain ⟨hx, hb, hr, hml, hown, hts, hlocks, hE, hz⟩ := id X
  intro kc ks hB1 hB2 hX1 hX2 a1 a2 b1 x7 x8 x9 x10 x11 x12 y0 H locs ls hX9 hW hS hl h
  unfold jL_areSound_292 at h
  refine lv_istore (lv' := [(6, .int y0), (0, .ref (b1 0 0)), (1, .ref (b1 100 0)), (5, .int p5), (7, .int x7), (8, .int x8), (9, .int x9), (10, .int x10), (11, .int x11), (12, .int x12)]) hx hb dL_areSound_292 hl (by decide) rfl (fun ls hl => ?_)
  refine lv_iload hx hb dL_areSound_294 (lv_at hl 5 rfl) ?_
  refine lv_istore (lv' := [(13, .int x8), (6, .int y0), (0, .ref (b1 0 0)), (1, .ref (b1 100 0)), (5, .int p5), (7, .int x7), (8, .int x8), (9, .int x9), (10, .int x10), (11, .int x11), (12, .int x12)]) hx hb dL_areSound_296 hl (by decide) rfl (fun ls hl => ?_)
  refine lv_iconst (v := (0 : Int32)) hx hb dL_areSound_298 (by decide) ?_
  refine lv_istore (lv' := [(14, .int ((0 : Int32))), (13, .int x8), (6, .int y0), (0, .ref (b1 0 0)), (1, .ref (b1 100 0)), (5, .int p5), (7, .int x7), (8, .int x8), (9, .int x9), (10, .int x10), (11, .int x11), (12, .int x12)]) hx hb dL_areSound_299 hl (by decide) rfl (fun ls hl => ?_)
  obtain ⟨n105, h⟩ := h
  exact tL_areSound_301 (σ := σ) (ρ := ρ) X hlt p5 κ152 post bc152 bs152 hk152 n105 _ _ (by omega) (by omega) a1 a2 b1 y0 x7 x8 x9 x10 x11 x12 x8 ((0 : Int32)) hX9 hW hS (lv_sub hl [3, 4, 5, 2, 6, 7, 8, 9, 10, 11, 1, 0] rfl) h
set_option maxHeartbeats 4000000 in
set_option maxRecDepth 100000 in
theorem tL_areSound_229 {p : Program} {l : Launch} {e : Env} {s : State} {m : MethodId} {args : Array Value} {below : List Frame} {meth : Method} {c : Code} {z : Nat} {G : Gl} {ad : Nat → Nat → Nat} {σ : SG} {ν : NU} {ρ : RH} {lo : Int64} (X : Cx p l e s m args below meth c cL_areSound (some .boolean) 18 RL wsL_areSound z G) (hlt : l.stackTraces = false) (p5 : Int32) (κ152 : SG → NU → RH → Int32 → Int32 → Int32 → Int32 → Prop) (post : Int32 → SG → NU → Prop) (bc152 bs152 : Nat) (hk152 : ∀ (kc ks : Nat), kc + bc152 ≤ 1500 → ks + bs152 ≤ 28184 → ∀ (a1 : SG) (a2 : NU) (b1 : Nat → Nat → Nat) (x6 : Int32) (x7 : Int32) (x8 : Int32) (x9 : Int32) {H : Heap} {locs : List Loc} {ls : Array Slot}, Xt ad b1 ν a2 → WP z G b1 (a1, a2, ρ, lo) H → va_S (Az z) s.heap H locs → lv_has ls 18 [(0, .ref (b1 0 0)), (1, .ref (b1 100 0)), (5, .int p5), (6, .int x6), (7, .int x7), (8, .int x8), (9, .int x9)] → κ152 a1 a2 ρ x6 x7 x8 x9 → W p l e ({ frames := 10, cells := 1500, slots := 28184, locals := 245 } : Room) s m args below meth c H locs kc ks (MQ below (Qia z G (fun r S1 => ∃ (t : SG) (u : NU), S1.1 = (t, u, ρ, lo) ∧ Xt ad S1.2 ν u ∧ post r t u)) args s 1500 28184 (Az z)) (F0 m 152 ls [])) : ∀ (kc ks : Nat), kc + 68 + bc152 ≤ 1500 → ks + 1280 + bs152 ≤ 28184 → kc + 4 ≤ 1500 → ks + 24 ≤ 28184 → ∀ (a1 : SG) (a2 : NU) (b1 : Nat → Nat → Nat) (x7 : Int32) (x8 : Int32) (x9 : Int32) (x10 : Int32) (x11 : Int32) (x12 : Int32) {H : Heap} {locs : List Loc} {ls : Array Slot}, Xt ad b1 ν a2 → WP z G b1 (a1, a2, ρ, lo) H → va_S (Az z) s.heap H locs → lv_has ls 18 [(0, .ref (b1 0 0)), (1, .ref (b1 100 0)), (5, .int p5), (7, .int x7), (8, .int x8), (9, .int x9), (10, .int x10), (11, .int x11), (12, .int x12)] → jL_areSound_229 p5 κ152 post a1 a2 ρ x7 x8 x9 x10 x11 x12 → W p l e ({ frames := 10, cells := 1500, slots := 28184, locals := 245 } : Room) s m args below meth c H locs kc ks (MQ below (Qia z G (fun r S1 => ∃ (t : SG) (u : NU), S1.1 = (t, u, ρ, lo) ∧ Xt ad S1.2 ν u ∧ post r t u)) args s 1500 28184 (Az z)) (F0 m 229 ls []) := by
  obtain ⟨hx, hb, hr, hml, hown, hts, hlocks, hE, hz⟩ := id X
  intro kc ks hB1 hB2 hX1 hX2 a1 a2 b1 x7 x8 x9 x10 x11 x12 H locs ls hX9 hW hS hl h
  unfold jL_areSound_229 at h
  refine lv_iload hx hb dL_areSound_229 (lv_at hl 8 rfl) ?_
  refine r_if_lt hx hb rfl (tgt := 291) dL_areSound_231 (by decide) (fun c108 => ?_) (fun c108 => ?_)
  · have h := ite_t c108 h
    refine lv_iconst (v := (0 : Int32)) hx hb dL_areSound_291 (by decide) ?_
    exact tL_areSound_292 (σ := σ) (ρ := ρ) X hlt p5 κ152 post bc152 bs152 hk152 _ _ (by omega) (by omega) (by omega) (by omega) a1 a2 b1 x7 x8 x9 x10 x11 x12 ((0 : Int32)) hX9 hW hS (lv_sub hl [0, 1, 2, 3, 4, 5, 6, 7, 8] rfl) h
  · have h := ite_f c108 h
    refine lv_iload hx hb dL_areSound_234 (lv_at hl 8 rfl) ?_
    refine lv_bipush (v := (12 : Int32)) hx hb dL_areSound_236 (by decide) ?_
    refine r_icmp_gt hx hb rfl (show (12 : Int32).toInt = 12 by decide) (tgt := 291) dL_areSound_238 (by decide) (fun c109 => ?_) (fun c109 => ?_)
    · have h := ite_f c109 h
      refine lv_iconst (v := (0 : Int32)) hx hb dL_areSound_291 (by decide) ?_
      exact tL_areSound_292 (σ := σ) (ρ := ρ) X hlt p5 κ152 post bc152 bs152 hk152 _ _ (by omega) (by omega) (by omega) (by omega) a1 a2 b1 x7 x8 x9 x10 x11 x12 ((0 : Int32)) hX9 hW hS (lv_sub hl [0, 1, 2, 3, 4, 5, 6, 7, 8] rfl) h
    · have h := ite_t c109 h
      refine lv_aload_n hx hb dL_areSound_241 rfl (lv_at hl 0 rfl) ?_
      refine lv_iload hx hb dL_areSound_242 (lv_at hl 6 rfl) ?_
      refine k_Vi (rest := []) (As := [.int x10]) ⟨hx, hb, hml, hown, hts⟩ hE hz hS hW (nmtX6_label l z G b1 a1 a2 ρ lo x10 _ h) (cwV 1 hts gL_areSound_X6_label rfl rfl rfl (by decide +kernel) ⟨Nat.le_of_ble_eq_true rfl, Nat.le_of_ble_eq_true rfl⟩) (r_recv hE hW 0 0 rfl (ci := 9) rfl rfl) rfl hl.1 rfl (Nat.le_of_ble_eq_true rfl) dL_areSound_244 ⟨by show _ ≤ 1500; omega, by show _ ≤ 28184; omega⟩ (fun r110 S1 H locs hp hW hS => ?_)
      obtain ⟨rfl, h⟩ := hp
      refine lv_sipush (v := (999 : Int32)) hx hb dL_areSound_247 (by decide) ?_
      refine r_icmp_le hx hb rfl (show (999 : Int32).toInt = 999 by decide) (tgt := 291) dL_areSound_250 (by decide) (fun c111 => ?_) (fun c111 => ?_)
      · have h := ite_t c111 h
        refine lv_iconst (v := (0 : Int32)) hx hb dL_areSound_291 (by decide) ?_
        exact tL_areSound_292 (σ := σ) (ρ := ρ) X hlt p5 κ152 post bc152 bs152 hk152 _ _ (by omega) (by omega) (by omega) (by omega) a1 a2 b1 x7 x8 x9 x10 x11 x12 ((0 : Int32)) hX9 hW hS (lv_sub hl [0, 1, 2, 3, 4, 5, 6, 7, 8] rfl) h
      · have h := ite_f c111 h
        refine lv_aload_n hx hb dL_areSound_253 rfl (lv_at hl 0 rfl) ?_
        refine lv_bipush (v := (10 : Int32)) hx hb dL_areSound_254 (by decide) ?_
        refine lv_iload hx hb dL_areSound_256 (lv_at hl 6 rfl) ?_
        refine lv_iload hx hb dL_areSound_258 (lv_at hl 8 rfl) ?_
        refine lv_iconst (v := (0 : Int32)) hx hb dL_areSound_260 (by decide) ?_
        refine lv_iconst (v := (0 : Int32)) hx hb dL_areSound_261 (by decide) ?_
        refine kW_Si (rest := []) (As := [.ref (b1 0 0), .int ((10 : Int32)), .int x10, .int x12, .int ((0 : Int32)), .int ((0 : Int32))]) ⟨hx, hb, hml, hown, hts⟩ hE hz hS hW (mtL_does_10 l hlt z G b1 a1 a2 ρ lo x10 x12 ((0 : Int32)) ((0 : Int32)) _ h) (vx_cwSW 6 hts gL_areSound_L_does rfl rfl rfl (by decide +kernel) ⟨Nat.le_of_ble_eq_true rfl, Nat.le_of_ble_eq_true rfl⟩) rfl hl.1 rfl (Nat.le_of_ble_eq_true rfl) dL_areSound_262 ⟨by show _ ≤ 1500; omega, by show _ ≤ 28184; omega⟩ (fun r112 S1 H locs hp hW hS => ?_)
        obtain ⟨rfl, h⟩ := hp
        refine lv_sipush (v := (-1381 : Int32)) hx hb dL_areSound_265 (by decide) ?_
        refine r_icmp_ne hx hb rfl (show (-1381 : Int32).toInt = (-1381) by decide) (tgt := 291) dL_areSound_268 (by decide) (fun c113 => ?_) (fun c113 => ?_)
        · have h := ite_f c113 h
          refine lv_iconst (v := (0 : Int32)) hx hb dL_areSound_291 (by decide) ?_
          exact tL_areSound_292 (σ := σ) (ρ := ρ) X hlt p5 κ152 post bc152 bs152 hk152 _ _ (by omega) (by omega) (by omega) (by omega) a1 a2 b1 x7 x8 x9 x10 x11 x12 ((0 : Int32)) hX9 hW hS (lv_sub hl [0, 1, 2, 3, 4, 5, 6, 7, 8] rfl) h
        · have h := ite_t c113 h
          refine lv_aload_n hx hb dL_areSound_271 rfl (lv_at hl 0 rfl) ?_
          refine lv_bipush (v := (11 : Int32)) hx hb dL_areSound_272 (by decide) ?_
          refine lv_iload hx hb dL_areSound_274 (lv_at hl 6 rfl) ?_
          refine lv_iload hx hb dL_areSound_276 (lv_at hl 8 rfl) ?_
          refine lv_iconst (v := (0 : Int32)) hx hb dL_areSound_278 (by decide) ?_
          refine lv_iconst (v := (0 : Int32)) hx hb dL_areSound_279 (by decide) ?_
          refine kW_Si (rest := []) (As := [.ref (b1 0 0), .int ((11 : Int32)), .int x10, .int x12, .int ((0 : Int32)), .int ((0 : Int32))]) ⟨hx, hb, hml, hown, hts⟩ hE hz hS hW (mtL_does_11 l hlt z G b1 a1 a2 ρ lo x10 x12 ((0 : Int32)) ((0 : Int32)) _ h) (vx_cwSW 6 hts gL_areSound_L_does rfl rfl rfl (by decide +kernel) ⟨Nat.le_of_ble_eq_true rfl, Nat.le_of_ble_eq_true rfl⟩) rfl hl.1 rfl (Nat.le_of_ble_eq_true rfl) dL_areSound_280 ⟨by show _ ≤ 1500; omega, by show _ ≤ 28184; omega⟩ (fun r114 S1 H locs hp hW hS => ?_)
          obtain ⟨t115, rfl, h⟩ := hp
          refine lv_iconst (v := (-1 : Int32)) hx hb dL_areSound_283 (by decide) ?_
          refine r_icmp_ne hx hb rfl (show (-1 : Int32).toInt = (-1) by decide) (tgt := 291) dL_areSound_284 (by decide) (fun c116 => ?_) (fun c116 => ?_)
          · have h := ite_f c116 h
            refine lv_iconst (v := (0 : Int32)) hx hb dL_areSound_291 (by decide) ?_
            exact tL_areSound_292 (σ := σ) (ρ := ρ) X hlt p5 κ152 post bc152 bs152 hk152 _ _ (by omega) (by omega) (by omega) (by omega) t115 a2 b1 x7 x8 x9 x10 x11 x12 ((0 : Int32)) hX9 hW hS (lv_sub hl [0, 1, 2, 3, 4, 5, 6, 7, 8] rfl) h
          · have h := ite_t c116 h
            refine lv_iconst (v := (1 : Int32)) hx hb dL_areSound_287 (by decide) ?_
            refine lv_goto (tgt := 292) hx hb dL_areSound_288 (by decide) ?_
            exact tL_areSound_292 (σ := σ) (ρ := ρ) X hlt p5 κ152 post bc152 bs152 hk152 _ _ (by omega) (by omega) (by omega) (by omega) t115 a2 b1 x7 x8 x9 x10 x11 x12 ((1 : Int32)) hX9 hW hS (lv_sub hl [0, 1, 2, 3, 4, 5, 6, 7, 8] rfl) h
set_option maxHeartbeats 4000000 in
set_option maxRecDepth 100000 in
theorem tL_areSound_152 {p : Program} {l : Launch} {e : Env} {s : State} {m : MethodId} {args : Array Value} {below : List Frame} {meth : Method} {c : Code} {z : Nat} {G : Gl} {ad : Nat → Nat → Nat} {σ : SG} {ν : NU} {ρ : RH} {lo : Int64} (X : Cx p l e s m args below meth c cL_areSound (some .boolean) 18 RL wsL_areSound z G) (hlt : l.stackTraces = false) (p5 : Int32)  (post : Int32 → SG → NU → Prop) : ∀ (n kc ks : Nat), kc + (n * 68 + 4) ≤ 1500 → ks + (n * 1280 + 24) ≤ 28184 → ∀ (a1 : SG) (a2 : NU) (b1 : Nat → Nat → Nat) (x6 : Int32) (x7 : Int32) (x8 : Int32) (x9 : Int32) {H : Heap} {locs : List Loc} {ls : Array Slot}, Xt ad b1 ν a2 → WP z G b1 (a1, a2, ρ, lo) H → va_S (Az z) s.heap H locs → lv_has ls 18 [(0, .ref (b1 0 0)), (1, .ref (b1 100 0)), (5, .int p5), (6, .int x6), (7, .int x7), (8, .int x8), (9, .int x9)] → wL_areSound_152 p5 post n a1 a2 ρ x6 x7 x8 x9 → W p l e ({ frames := 10, cells := 1500, slots := 28184, locals := 245 } : Room) s m args below meth c H locs kc ks (MQ below (Qia z G (fun r S1 => ∃ (t : SG) (u : NU), S1.1 = (t, u, ρ, lo) ∧ Xt ad S1.2 ν u ∧ post r t u)) args s 1500 28184 (Az z)) (F0 m 152 ls []) := by
  obtain ⟨hx, hb, hr, hml, hown, hts, hlocks, hE, hz⟩ := id X
  intro n
  induction n with
  | zero =>
    intro kc ks hB1 hB2 a1 a2 b1 x6 x7 x8 x9 H locs ls hX9 hW hS hl h
    exact absurd h id
  | succ n ih =>
    intro kc ks hB1 hB2 a1 a2 b1 x6 x7 x8 x9 H locs ls hX9 hW hS hl h
    unfold wL_areSound_152 at h
    refine lv_iload hx hb dL_areSound_152 (lv_at hl 6 rfl) ?_
    refine lv_aload_n hx hb dL_areSound_154 rfl (lv_at hl 1 rfl) ?_
    refine lv_iconst (v := (3 : Int32)) hx hb dL_areSound_155 (by decide) ?_
    obtain ⟨b3, h⟩ := h
    refine r_iald hx hb hE hW 100 0 ⟨rfl, by decide, by decide⟩ (n := 14) (f := ρ 0) rfl b3 (v := ρ 0 ((3 : Int32)).toNatClampNeg) rfl dL_areSound_156 ?_
    refine r_icmp_gt hx hb rfl rfl (tgt := 684) dL_areSound_157 (by decide) (fun c4 => ?_) (fun c4 => ?_)
    · have h := ite_f c4 h
      refine lv_iconst (v := (0 : Int32)) hx hb dL_areSound_684 (by decide) ?_
      refine lv_istore (lv' := [(9, .int ((0 : Int32))), (0, .ref (b1 0 0)), (1, .ref (b1 100 0)), (5, .int p5), (6, .int x6), (7, .int x7), (8, .int x8)]) hx hb dL_areSound_685 hl (by decide) rfl (fun ls hl => ?_)
      obtain ⟨n21, h⟩ := h
      exact tL_areSound_687 (σ := σ) (ρ := ρ) X hlt p5 post  n21 _ _ (by omega) (by omega) a1 a2 b1 x6 x7 ((0 : Int32)) hX9 hW hS (lv_sub hl [1, 2, 4, 5, 0] rfl) h
    · have h := ite_t c4 h
      refine lv_iload hx hb dL_areSound_160 (lv_at hl 3 rfl) ?_
      refine r_if_eq hx hb rfl (tgt := 684) dL_areSound_162 (by decide) (fun c22 => ?_) (fun c22 => ?_)
      · have h := ite_t c22 h
        refine lv_iconst (v := (0 : Int32)) hx hb dL_areSound_684 (by decide) ?_
        refine lv_istore (lv' := [(9, .int ((0 : Int32))), (0, .ref (b1 0 0)), (1, .ref (b1 100 0)), (5, .int p5), (6, .int x6), (7, .int x7), (8, .int x8)]) hx hb dL_areSound_685 hl (by decide) rfl (fun ls hl => ?_)
        obtain ⟨n23, h⟩ := h
        exact tL_areSound_687 (σ := σ) (ρ := ρ) X hlt p5 post  n23 _ _ (by omega) (by omega) a1 a2 b1 x6 x7 ((0 : Int32)) hX9 hW hS (lv_sub hl [1, 2, 4, 5, 0] rfl) h
      · have h := ite_f c22 h
        refine lv_aload_n hx hb dL_areSound_165 rfl (lv_at hl 0 rfl) ?_
        refine lv_iload hx hb dL_areSound_166 (lv_at hl 6 rfl) ?_
        refine k_Vi (rest := []) (As := [.int x9]) ⟨hx, hb, hml, hown, hts⟩ hE hz hS hW (nmtX6_provisionAt l z G b1 a1 a2 ρ lo x9 _ h) (cwV 1 hts gL_areSound_X6_provisionAt rfl rfl rfl (by decide +kernel) ⟨Nat.le_of_ble_eq_true rfl, Nat.le_of_ble_eq_true rfl⟩) (r_recv hE hW 0 0 rfl (ci := 9) rfl rfl) rfl hl.1 rfl (Nat.le_of_ble_eq_true rfl) dL_areSound_168 ⟨by show _ ≤ 1500; omega, by show _ ≤ 28184; omega⟩ (fun r24 S1 H locs hp hW hS => ?_)
        obtain ⟨rfl, h⟩ := hp
        refine lv_istore (lv' := [(10, .int r24), (0, .ref (b1 0 0)), (1, .ref (b1 100 0)), (5, .int p5), (6, .int x6), (7, .int x7), (8, .int x8), (9, .int x9)]) hx hb dL_areSound_171 hl (by decide) rfl (fun ls hl => ?_)
        refine lv_iload hx hb dL_areSound_173 (lv_at hl 0 rfl) ?_
        refine r_if_lt hx hb rfl (tgt := 657) dL_areSound_175 (by decide) (fun c25 => ?_) (fun c25 => ?_)
        · have h := ite_t c25 h
          refine lv_iload hx hb dL_areSound_657 (lv_at hl 0 rfl) ?_
          refine lv_iconst (v := (-1 : Int32)) hx hb dL_areSound_659 (by decide) ?_
          refine r_icmp_ne hx hb rfl (show (-1 : Int32).toInt = (-1) by decide) (tgt := 675) dL_areSound_660 (by decide) (fun c26 => ?_) (fun c26 => ?_)
          · have h := ite_f c26 h
            refine lv_iconst (v := (0 : Int32)) hx hb dL_areSound_675 (by decide) ?_
            refine lv_istore (lv' := [(6, .int ((0 : Int32))), (10, .int r24), (0, .ref (b1 0 0)), (1, .ref (b1 100 0)), (5, .int p5), (7, .int x7), (8, .int x8), (9, .int x9)]) hx hb dL_areSound_676 hl (by decide) rfl (fun ls hl => ?_)
            refine lv_iinc (v := x9 + (1 : Int32)) (lv' := [(9, .int (x9 + (1 : Int32))), (6, .int ((0 : Int32))), (10, .int r24), (0, .ref (b1 0 0)), (1, .ref (b1 100 0)), (5, .int p5), (7, .int x7), (8, .int x8)]) hx hb dL_areSound_678 hl (k := 7) rfl rfl (by decide) rfl (fun ls hl => ?_)
            refine lv_goto (tgt := 152) hx hb dL_areSound_681 (by decide) ?_
            exact ih _ _ (by omega) (by omega) a1 a2 b1 ((0 : Int32)) x7 x8 (x9 + (1 : Int32)) hX9 hW hS (lv_sub hl [3, 4, 5, 1, 6, 7, 0] rfl) h
          · have h := ite_t c26 h
            refine lv_iload hx hb dL_areSound_663 (lv_at hl 7 rfl) ?_
            refine lv_aload_n hx hb dL_areSound_665 rfl (lv_at hl 2 rfl) ?_
            refine lv_iconst (v := (3 : Int32)) hx hb dL_areSound_666 (by decide) ?_
            obtain ⟨b27, h⟩ := h
            refine r_iald hx hb hE hW 100 0 ⟨rfl, by decide, by decide⟩ (n := 14) (f := ρ 0) rfl b27 (v := ρ 0 ((3 : Int32)).toNatClampNeg) rfl dL_areSound_667 ?_
            refine r_icmp_gt hx hb rfl rfl (tgt := 675) dL_areSound_668 (by decide) (fun c28 => ?_) (fun c28 => ?_)
            · have h := ite_f c28 h
              refine lv_iconst (v := (0 : Int32)) hx hb dL_areSound_675 (by decide) ?_
              refine lv_istore (lv' := [(6, .int ((0 : Int32))), (10, .int r24), (0, .ref (b1 0 0)), (1, .ref (b1 100 0)), (5, .int p5), (7, .int x7), (8, .int x8), (9, .int x9)]) hx hb dL_areSound_676 hl (by decide) rfl (fun ls hl => ?_)
              refine lv_iinc (v := x9 + (1 : Int32)) (lv' := [(9, .int (x9 + (1 : Int32))), (6, .int ((0 : Int32))), (10, .int r24), (0, .ref (b1 0 0)), (1, .ref (b1 100 0)), (5, .int p5), (7, .int x7), (8, .int x8)]) hx hb dL_areSound_678 hl (k := 7) rfl rfl (by decide) rfl (fun ls hl => ?_)
              refine lv_goto (tgt := 152) hx hb dL_areSound_681 (by decide) ?_
              exact ih _ _ (by omega) (by omega) a1 a2 b1 ((0 : Int32)) x7 x8 (x9 + (1 : Int32)) hX9 hW hS (lv_sub hl [3, 4, 5, 1, 6, 7, 0] rfl) h
            · have h := ite_t c28 h
              refine lv_iconst (v := (1 : Int32)) hx hb dL_areSound_671 (by decide) ?_
              refine lv_goto (tgt := 676) hx hb dL_areSound_672 (by decide) ?_
              refine lv_istore (lv' := [(6, .int ((1 : Int32))), (10, .int r24), (0, .ref (b1 0 0)), (1, .ref (b1 100 0)), (5, .int p5), (7, .int x7), (8, .int x8), (9, .int x9)]) hx hb dL_areSound_676 hl (by decide) rfl (fun ls hl => ?_)
              refine lv_iinc (v := x9 + (1 : Int32)) (lv' := [(9, .int (x9 + (1 : Int32))), (6, .int ((1 : Int32))), (10, .int r24), (0, .ref (b1 0 0)), (1, .ref (b1 100 0)), (5, .int p5), (7, .int x7), (8, .int x8)]) hx hb dL_areSound_678 hl (k := 7) rfl rfl (by decide) rfl (fun ls hl => ?_)
              refine lv_goto (tgt := 152) hx hb dL_areSound_681 (by decide) ?_
              exact ih _ _ (by omega) (by omega) a1 a2 b1 ((1 : Int32)) x7 x8 (x9 + (1 : Int32)) hX9 hW hS (lv_sub hl [3, 4, 5, 1, 6, 7, 0] rfl) h
        · have h := ite_f c25 h
          refine lv_aload_n hx hb dL_areSound_178 rfl (lv_at hl 1 rfl) ?_
          refine lv_iload hx hb dL_areSound_179 (lv_at hl 0 rfl) ?_
          refine k_Vi (rest := []) (As := [.int r24]) ⟨hx, hb, hml, hown, hts⟩ hE hz hS hW (nmtX6_parent l z G b1 a1 a2 ρ lo r24 _ h) (cwV 1 hts gL_areSound_X6_parent rfl rfl rfl (by decide +kernel) ⟨Nat.le_of_ble_eq_true rfl, Nat.le_of_ble_eq_true rfl⟩) (r_recv hE hW 0 0 rfl (ci := 9) rfl rfl) rfl hl.1 rfl (Nat.le_of_ble_eq_true rfl) dL_areSound_181 ⟨by show _ ≤ 1500; omega, by show _ ≤ 28184; omega⟩ (fun r29 S1 H locs hp hW hS => ?_)
          obtain ⟨rfl, h⟩ := hp
          refine lv_istore (lv' := [(11, .int r29), (10, .int r24), (0, .ref (b1 0 0)), (1, .ref (b1 100 0)), (5, .int p5), (6, .int x6), (7, .int x7), (8, .int x8), (9, .int x9)]) hx hb dL_areSound_184 hl (by decide) rfl (fun ls hl => ?_)
          refine lv_aload_n hx hb dL_areSound_186 rfl (lv_at hl 2 rfl) ?_
          refine lv_iload hx hb dL_areSound_187 (lv_at hl 1 rfl) ?_
          refine k_Vi (rest := []) (As := [.int r24]) ⟨hx, hb, hml, hown, hts⟩ hE hz hS hW (nmtX6_words l z G b1 a1 a2 ρ lo r24 _ h) (cwV 1 hts gL_areSound_X6_words rfl rfl rfl (by decide +kernel) ⟨Nat.le_of_ble_eq_true rfl, Nat.le_of_ble_eq_true rfl⟩) (r_recv hE hW 0 0 rfl (ci := 9) rfl rfl) rfl hl.1 rfl (Nat.le_of_ble_eq_true rfl) dL_areSound_189 ⟨by show _ ≤ 1500; omega, by show _ ≤ 28184; omega⟩ (fun r30 S1 H locs hp hW hS => ?_)
          obtain ⟨rfl, h⟩ := hp
          refine lv_istore (lv' := [(12, .int r30), (11, .int r29), (10, .int r24), (0, .ref (b1 0 0)), (1, .ref (b1 100 0)), (5, .int p5), (6, .int x6), (7, .int x7), (8, .int x8), (9, .int x9)]) hx hb dL_areSound_192 hl (by decide) rfl (fun ls hl => ?_)
          refine lv_iload hx hb dL_areSound_194 (lv_at hl 9 rfl) ?_
          refine lv_aload_n hx hb dL_areSound_196 rfl (lv_at hl 4 rfl) ?_
          refine lv_iconst (v := (3 : Int32)) hx hb dL_areSound_197 (by decide) ?_
          obtain ⟨b31, h⟩ := h
          refine r_iald hx hb hE hW 100 0 ⟨rfl, by decide, by decide⟩ (n := 14) (f := ρ 0) rfl b31 (v := ρ 0 ((3 : Int32)).toNatClampNeg) rfl dL_areSound_198 ?_
          refine r_icmp_ge hx hb rfl rfl (tgt := 291) dL_areSound_199 (by decide) (fun c32 => ?_) (fun c32 => ?_)
          · have h := ite_f c32 h
            refine lv_iconst (v := (0 : Int32)) hx hb dL_areSound_291 (by decide) ?_
            exact tL_areSound_292 (σ := σ) (ρ := ρ) X hlt p5 (wL_areSound_152 p5 post n) post (n * 68 + 4) (n * 1280 + 24) ih _ _ (by omega) (by omega) (by omega) (by omega) a1 a2 b1 x7 x8 x9 r24 r29 r30 ((0 : Int32)) hX9 hW hS (lv_sub hl [3, 4, 5, 7, 8, 9, 2, 1, 0] rfl) h
          · have h := ite_t c32 h
            refine lv_iload hx hb dL_areSound_202 (lv_at hl 7 rfl) ?_
            refine lv_iload hx hb dL_areSound_204 (lv_at hl 2 rfl) ?_
            refine lv_ishr hx hb dL_areSound_206 ?_
            refine lv_iconst (v := (1 : Int32)) hx hb dL_areSound_207 (by decide) ?_
            refine lv_iand hx hb dL_areSound_208 ?_
            refine r_if_ne hx hb rfl (tgt := 291) dL_areSound_209 (by decide) (fun c106 => ?_) (fun c106 => ?_)
            · have h := ite_f c106 h
              refine lv_iconst (v := (0 : Int32)) hx hb dL_areSound_291 (by decide) ?_
              exact tL_areSound_292 (σ := σ) (ρ := ρ) X hlt p5 (wL_areSound_152 p5 post n) post (n * 68 + 4) (n * 1280 + 24) ih _ _ (by omega) (by omega) (by omega) (by omega) a1 a2 b1 x7 x8 x9 r24 r29 r30 ((0 : Int32)) hX9 hW hS (lv_sub hl [3, 4, 5, 7, 8, 9, 2, 1, 0] rfl) h
            · have h := ite_t c106 h
              refine lv_iload hx hb dL_areSound_212 (lv_at hl 1 rfl) ?_
              refine lv_iconst (v := (-1 : Int32)) hx hb dL_areSound_214 (by decide) ?_
              refine r_icmp_eq hx hb rfl (show (-1 : Int32).toInt = (-1) by decide) (tgt := 229) dL_areSound_215 (by decide) (fun c107 => ?_) (fun c107 => ?_)
              · have h := ite_t c107 h
                exact tL_areSound_229 (σ := σ) (ρ := ρ) X hlt p5 (wL_areSound_152 p5 post n) post (n * 68 + 4) (n * 1280 + 24) ih _ _ (by omega) (by omega) (by omega) (by omega) a1 a2 b1 x7 x8 x9 r24 r29 r30 hX9 hW hS (lv_sub hl [3, 4, 5, 7, 8, 9, 2, 1, 0] rfl) h
              · have h := ite_f c107 h
                refine lv_iload hx hb dL_areSound_218 (lv_at hl 7 rfl) ?_
                refine lv_iload hx hb dL_areSound_220 (lv_at hl 1 rfl) ?_
                refine lv_ishr hx hb dL_areSound_222 ?_
                refine lv_iconst (v := (1 : Int32)) hx hb dL_areSound_223 (by decide) ?_
                refine lv_iand hx hb dL_areSound_224 ?_
                refine lv_iconst (v := (1 : Int32)) hx hb dL_areSound_225 (by decide) ?_
                refine r_icmp_ne hx hb rfl (show (1 : Int32).toInt = 1 by decide) (tgt := 291) dL_areSound_226 (by decide) (fun c117 => ?_) (fun c117 => ?_)
                · have h := ite_f c117 h
                  refine lv_iconst (v := (0 : Int32)) hx hb dL_areSound_291 (by decide) ?_
                  exact tL_areSound_292 (σ := σ) (ρ := ρ) X hlt p5 (wL_areSound_152 p5 post n) post (n * 68 + 4) (n * 1280 + 24) ih _ _ (by omega) (by omega) (by omega) (by omega) a1 a2 b1 x7 x8 x9 r24 r29 r30 ((0 : Int32)) hX9 hW hS (lv_sub hl [3, 4, 5, 7, 8, 9, 2, 1, 0] rfl) h
                · have h := ite_t c117 h
                  exact tL_areSound_229 (σ := σ) (ρ := ρ) X hlt p5 (wL_areSound_152 p5 post n) post (n * 68 + 4) (n * 1280 + 24) ih _ _ (by omega) (by omega) (by omega) (by omega) a1 a2 b1 x7 x8 x9 r24 r29 r30 hX9 hW hS (lv_sub hl [3, 4, 5, 7, 8, 9, 2, 1, 0] rfl) h
set_option maxHeartbeats 4000000 in
set_option maxRecDepth 100000 in
theorem tL_areSound_143 {p : Program} {l : Launch} {e : Env} {s : State} {m : MethodId} {args : Array Value} {below : List Frame} {meth : Method} {c : Code} {z : Nat} {G : Gl} {ad : Nat → Nat → Nat} {σ : SG} {ν : NU} {ρ : RH} {lo : Int64} (X : Cx p l e s m args below meth c cL_areSound (some .boolean) 18 RL wsL_areSound z G) (hlt : l.stackTraces = false) (p5 : Int32)  (post : Int32 → SG → NU → Prop) : ∀ (kc ks : Nat), kc + 1500 ≤ 1500 → ks + 28184 ≤ 28184 → ∀ (a1 : SG) (a2 : NU) (b1 : Nat → Nat → Nat) (x6 : Int32) {H : Heap} {locs : List Loc} {ls : Array Slot}, Xt ad b1 ν a2 → WP z G b1 (a1, a2, ρ, lo) H → va_S (Az z) s.heap H locs → lv_has ls 18 [(0, .ref (b1 0 0)), (1, .ref (b1 100 0)), (5, .int p5), (6, .int x6)] → jL_areSound_143 p5 post a1 a2 ρ x6 → W p l e ({ frames := 10, cells := 1500, slots := 28184, locals := 245 } : Room) s m args below meth c H locs kc ks (MQ below (Qia z G (fun r S1 => ∃ (t : SG) (u : NU), S1.1 = (t, u, ρ, lo) ∧ Xt ad S1.2 ν u ∧ post r t u)) args s 1500 28184 (Az z)) (F0 m 143 ls []) := by
  obtain ⟨hx, hb, hr, hml, hown, hts, hlocks, hE, hz⟩ := id X
  intro kc ks hB1 hB2 a1 a2 b1 x6 H locs ls hX9 hW hS hl h
  unfold jL_areSound_143 at h
  refine lv_iconst (v := (0 : Int32)) hx hb dL_areSound_143 (by decide) ?_
  refine lv_istore (lv' := [(7, .int ((0 : Int32))), (0, .ref (b1 0 0)), (1, .ref (b1 100 0)), (5, .int p5), (6, .int x6)]) hx hb dL_areSound_144 hl (by decide) rfl (fun ls hl => ?_)
  refine lv_iconst (v := (-1 : Int32)) hx hb dL_areSound_146 (by decide) ?_
  refine lv_istore (lv' := [(8, .int ((-1 : Int32))), (7, .int ((0 : Int32))), (0, .ref (b1 0 0)), (1, .ref (b1 100 0)), (5, .int p5), (6, .int x6)]) hx hb dL_areSound_147 hl (by decide) rfl (fun ls hl => ?_)
  refine lv_iconst (v := (0 : Int32)) hx hb dL_areSound_149 (by decide) ?_
  refine lv_istore (lv' := [(9, .int ((0 : Int32))), (8, .int ((-1 : Int32))), (7, .int ((0 : Int32))), (0, .ref (b1 0 0)), (1, .ref (b1 100 0)), (5, .int p5), (6, .int x6)]) hx hb dL_areSound_150 hl (by decide) rfl (fun ls hl => ?_)
  obtain ⟨n118, n119, h⟩ := h
  exact tL_areSound_152 (σ := σ) (ρ := ρ) X hlt p5 post  n118 _ _ (by omega) (by omega) a1 a2 b1 x6 ((0 : Int32)) ((-1 : Int32)) ((0 : Int32)) hX9 hW hS (lv_sub hl [3, 4, 5, 6, 2, 1, 0] rfl) h
set_option maxHeartbeats 4000000 in
set_option maxRecDepth 100000 in
theorem tL_areSound_96 {p : Program} {l : Launch} {e : Env} {s : State} {m : MethodId} {args : Array Value} {below : List Frame} {meth : Method} {c : Code} {z : Nat} {G : Gl} {ad : Nat → Nat → Nat} {σ : SG} {ν : NU} {ρ : RH} {lo : Int64} (X : Cx p l e s m args below meth c cL_areSound (some .boolean) 18 RL wsL_areSound z G) (hlt : l.stackTraces = false) (p5 : Int32) (κ6 : SG → NU → RH → Int32 → Int32 → Prop) (post : Int32 → SG → NU → Prop) (bc6 bs6 : Nat) (hk6 : ∀ (kc ks : Nat), kc + bc6 ≤ 1500 → ks + bs6 ≤ 28184 → ∀ (a1 : SG) (a2 : NU) (b1 : Nat → Nat → Nat) (x6 : Int32) (x7 : Int32) {H : Heap} {locs : List Loc} {ls : Array Slot}, Xt ad b1 ν a2 → WP z G b1 (a1, a2, ρ, lo) H → va_S (Az z) s.heap H locs → lv_has ls 18 [(0, .ref (b1 0 0)), (1, .ref (b1 100 0)), (2, .ref (b1 101 0)), (3, .ref (b1 102 0)), (4, .ref (b1 103 0)), (5, .int p5), (6, .int x6), (7, .int x7)] → κ6 a1 a2 ρ x6 x7 → W p l e ({ frames := 10, cells := 1500, slots := 28184, locals := 245 } : Room) s m args below meth c H locs kc ks (MQ below (Qia z G (fun r S1 => ∃ (t : SG) (u : NU), S1.1 = (t, u, ρ, lo) ∧ Xt ad S1.2 ν u ∧ post r t u)) args s 1500 28184 (Az z)) (F0 m 6 ls [])) : ∀ (kc ks : Nat), kc + 0 + bc6 ≤ 1500 → ks + 0 + bs6 ≤ 28184 → kc + 0 ≤ 1500 → ks + 0 ≤ 28184 → ∀ (a1 : SG) (a2 : NU) (b1 : Nat → Nat → Nat) (x7 : Int32) (x8 : Int32) (x9 : Int32) (y0 : Int32) {H : Heap} {locs : List Loc} {ls : Array Slot}, Xt ad b1 ν a2 → WP z G b1 (a1, a2, ρ, lo) H → va_S (Az z) s.heap H locs → lv_has ls 18 [(0, .ref (b1 0 0)), (1, .ref (b1 100 0)), (2, .ref (b1 101 0)), (3, .ref (b1 102 0)), (4, .ref (b1 103 0)), (5, .int p5), (7, .int x7), (8, .int x8), (9, .int x9)] → jL_areSound_96 p5 κ6 post a1 a2 ρ x7 x8 x9 y0 → W p l e ({ frames := 10, cells := 1500, slots := 28184, locals := 245 } : Room) s m args below meth c H locs kc ks (MQ below (Qia z G (fun r S1 => ∃ (t : SG) (u : NU), S1.1 = (t, u, ρ, lo) ∧ Xt ad S1.2 ν u ∧ post r t u)) args s 1500 28184 (Az z)) (F0 m 96 ls [.int y0]) := by
  obtain ⟨hx, hb, hr, hml, hown, hts, hlocks, hE, hz⟩ := id X
  intro kc ks hB1 hB2 hX1 hX2 a1 a2 b1 x7 x8 x9 y0 H locs ls hX9 hW hS hl h
  unfold jL_areSound_96 at h
  refine lv_istore (lv' := [(11, .int y0), (0, .ref (b1 0 0)), (1, .ref (b1 100 0)), (2, .ref (b1 101 0)), (3, .ref (b1 102 0)), (4, .ref (b1 103 0)), (5, .int p5), (7, .int x7), (8, .int x8), (9, .int x9)]) hx hb dL_areSound_96 hl (by decide) rfl (fun ls hl => ?_)
  refine lv_aload_n hx hb dL_areSound_98 rfl (lv_at hl 1 rfl) ?_
  refine lv_iload hx hb dL_areSound_99 (lv_at hl 7 rfl) ?_
  refine k_Vi (rest := []) (As := [.int x7]) ⟨hx, hb, hml, hown, hts⟩ hE hz hS hW (nmtX6_commences l z G b1 a1 a2 ρ lo x7 _ h) (cwV 1 hts gL_areSound_X6_commences rfl rfl rfl (by decide +kernel) ⟨Nat.le_of_ble_eq_true rfl, Nat.le_of_ble_eq_true rfl⟩) (r_recv hE hW 0 0 rfl (ci := 9) rfl rfl) rfl hl.1 rfl (Nat.le_of_ble_eq_true rfl) dL_areSound_101 ⟨by show _ ≤ 1500; omega, by show _ ≤ 28184; omega⟩ (fun r125 S1 H locs hp hW hS => ?_)
  obtain ⟨rfl, h⟩ := hp
  refine lv_iload hx hb dL_areSound_104 (lv_at hl 8 rfl) ?_
  refine r_icmp_ne hx hb rfl rfl (tgt := 134) dL_areSound_106 (by decide) (fun c126 => ?_) (fun c126 => ?_)
  · have h := ite_f c126 h
    refine lv_iconst (v := (0 : Int32)) hx hb dL_areSound_134 (by decide) ?_
    refine lv_istore (lv' := [(6, .int ((0 : Int32))), (11, .int y0), (0, .ref (b1 0 0)), (1, .ref (b1 100 0)), (2, .ref (b1 101 0)), (3, .ref (b1 102 0)), (4, .ref (b1 103 0)), (5, .int p5), (7, .int x7), (8, .int x8), (9, .int x9)]) hx hb dL_areSound_135 hl (by decide) rfl (fun ls hl => ?_)
    refine lv_iinc (v := x7 + (1 : Int32)) (lv' := [(7, .int (x7 + (1 : Int32))), (6, .int ((0 : Int32))), (11, .int y0), (0, .ref (b1 0 0)), (1, .ref (b1 100 0)), (2, .ref (b1 101 0)), (3, .ref (b1 102 0)), (4, .ref (b1 103 0)), (5, .int p5), (8, .int x8), (9, .int x9)]) hx hb dL_areSound_137 hl (k := 8) rfl rfl (by decide) rfl (fun ls hl => ?_)
    refine lv_goto (tgt := 6) hx hb dL_areSound_140 (by decide) ?_
    exact hk6 _ _ (by omega) (by omega) a1 a2 b1 ((0 : Int32)) (x7 + (1 : Int32)) hX9 hW hS (lv_sub hl [3, 4, 5, 6, 7, 8, 1, 0] rfl) h
  · have h := ite_t c126 h
    refine lv_iload hx hb dL_areSound_109 (lv_at hl 9 rfl) ?_
    refine r_if_lt hx hb rfl (tgt := 134) dL_areSound_111 (by decide) (fun c127 => ?_) (fun c127 => ?_)
    · have h := ite_t c127 h
      refine lv_iconst (v := (0 : Int32)) hx hb dL_areSound_134 (by decide) ?_
      refine lv_istore (lv' := [(6, .int ((0 : Int32))), (11, .int y0), (0, .ref (b1 0 0)), (1, .ref (b1 100 0)), (2, .ref (b1 101 0)), (3, .ref (b1 102 0)), (4, .ref (b1 103 0)), (5, .int p5), (7, .int x7), (8, .int x8), (9, .int x9)]) hx hb dL_areSound_135 hl (by decide) rfl (fun ls hl => ?_)
      refine lv_iinc (v := x7 + (1 : Int32)) (lv' := [(7, .int (x7 + (1 : Int32))), (6, .int ((0 : Int32))), (11, .int y0), (0, .ref (b1 0 0)), (1, .ref (b1 100 0)), (2, .ref (b1 101 0)), (3, .ref (b1 102 0)), (4, .ref (b1 103 0)), (5, .int p5), (8, .int x8), (9, .int x9)]) hx hb dL_areSound_137 hl (k := 8) rfl rfl (by decide) rfl (fun ls hl => ?_)
      refine lv_goto (tgt := 6) hx hb dL_areSound_140 (by decide) ?_
      exact hk6 _ _ (by omega) (by omega) a1 a2 b1 ((0 : Int32)) (x7 + (1 : Int32)) hX9 hW hS (lv_sub hl [3, 4, 5, 6, 7, 8, 1, 0] rfl) h
    · have h := ite_f c127 h
      refine lv_iload hx hb dL_areSound_114 (lv_at hl 9 rfl) ?_
      refine lv_iconst (v := (2 : Int32)) hx hb dL_areSound_116 (by decide) ?_
      refine r_icmp_gt hx hb rfl (show (2 : Int32).toInt = 2 by decide) (tgt := 134) dL_areSound_117 (by decide) (fun c128 => ?_) (fun c128 => ?_)
      · have h := ite_f c128 h
        refine lv_iconst (v := (0 : Int32)) hx hb dL_areSound_134 (by decide) ?_
        refine lv_istore (lv' := [(6, .int ((0 : Int32))), (11, .int y0), (0, .ref (b1 0 0)), (1, .ref (b1 100 0)), (2, .ref (b1 101 0)), (3, .ref (b1 102 0)), (4, .ref (b1 103 0)), (5, .int p5), (7, .int x7), (8, .int x8), (9, .int x9)]) hx hb dL_areSound_135 hl (by decide) rfl (fun ls hl => ?_)
        refine lv_iinc (v := x7 + (1 : Int32)) (lv' := [(7, .int (x7 + (1 : Int32))), (6, .int ((0 : Int32))), (11, .int y0), (0, .ref (b1 0 0)), (1, .ref (b1 100 0)), (2, .ref (b1 101 0)), (3, .ref (b1 102 0)), (4, .ref (b1 103 0)), (5, .int p5), (8, .int x8), (9, .int x9)]) hx hb dL_areSound_137 hl (k := 8) rfl rfl (by decide) rfl (fun ls hl => ?_)
        refine lv_goto (tgt := 6) hx hb dL_areSound_140 (by decide) ?_
        exact hk6 _ _ (by omega) (by omega) a1 a2 b1 ((0 : Int32)) (x7 + (1 : Int32)) hX9 hW hS (lv_sub hl [3, 4, 5, 6, 7, 8, 1, 0] rfl) h
      · have h := ite_t c128 h
        refine lv_iload hx hb dL_areSound_120 (lv_at hl 0 rfl) ?_
        refine r_if_ne hx hb rfl (tgt := 130) dL_areSound_122 (by decide) (fun c129 => ?_) (fun c129 => ?_)
        · have h := ite_f c129 h
          refine lv_iconst (v := (1 : Int32)) hx hb dL_areSound_130 (by decide) ?_
          refine lv_goto (tgt := 135) hx hb dL_areSound_131 (by decide) ?_
          refine lv_istore (lv' := [(6, .int ((1 : Int32))), (11, .int y0), (0, .ref (b1 0 0)), (1, .ref (b1 100 0)), (2, .ref (b1 101 0)), (3, .ref (b1 102 0)), (4, .ref (b1 103 0)), (5, .int p5), (7, .int x7), (8, .int x8), (9, .int x9)]) hx hb dL_areSound_135 hl (by decide) rfl (fun ls hl => ?_)
          refine lv_iinc (v := x7 + (1 : Int32)) (lv' := [(7, .int (x7 + (1 : Int32))), (6, .int ((1 : Int32))), (11, .int y0), (0, .ref (b1 0 0)), (1, .ref (b1 100 0)), (2, .ref (b1 101 0)), (3, .ref (b1 102 0)), (4, .ref (b1 103 0)), (5, .int p5), (8, .int x8), (9, .int x9)]) hx hb dL_areSound_137 hl (k := 8) rfl rfl (by decide) rfl (fun ls hl => ?_)
          refine lv_goto (tgt := 6) hx hb dL_areSound_140 (by decide) ?_
          exact hk6 _ _ (by omega) (by omega) a1 a2 b1 ((1 : Int32)) (x7 + (1 : Int32)) hX9 hW hS (lv_sub hl [3, 4, 5, 6, 7, 8, 1, 0] rfl) h
        · have h := ite_t c129 h
          refine lv_iload hx hb dL_areSound_125 (lv_at hl 9 rfl) ?_
          refine r_if_ne hx hb rfl (tgt := 134) dL_areSound_127 (by decide) (fun c130 => ?_) (fun c130 => ?_)
          · have h := ite_f c130 h
            refine lv_iconst (v := (0 : Int32)) hx hb dL_areSound_134 (by decide) ?_
            refine lv_istore (lv' := [(6, .int ((0 : Int32))), (11, .int y0), (0, .ref (b1 0 0)), (1, .ref (b1 100 0)), (2, .ref (b1 101 0)), (3, .ref (b1 102 0)), (4, .ref (b1 103 0)), (5, .int p5), (7, .int x7), (8, .int x8), (9, .int x9)]) hx hb dL_areSound_135 hl (by decide) rfl (fun ls hl => ?_)
            refine lv_iinc (v := x7 + (1 : Int32)) (lv' := [(7, .int (x7 + (1 : Int32))), (6, .int ((0 : Int32))), (11, .int y0), (0, .ref (b1 0 0)), (1, .ref (b1 100 0)), (2, .ref (b1 101 0)), (3, .ref (b1 102 0)), (4, .ref (b1 103 0)), (5, .int p5), (8, .int x8), (9, .int x9)]) hx hb dL_areSound_137 hl (k := 8) rfl rfl (by decide) rfl (fun ls hl => ?_)
            refine lv_goto (tgt := 6) hx hb dL_areSound_140 (by decide) ?_
            exact hk6 _ _ (by omega) (by omega) a1 a2 b1 ((0 : Int32)) (x7 + (1 : Int32)) hX9 hW hS (lv_sub hl [3, 4, 5, 6, 7, 8, 1, 0] rfl) h
          · have h := ite_t c130 h
            refine lv_iconst (v := (1 : Int32)) hx hb dL_areSound_130 (by decide) ?_
            refine lv_goto (tgt := 135) hx hb dL_areSound_131 (by decide) ?_
            refine lv_istore (lv' := [(6, .int ((1 : Int32))), (11, .int y0), (0, .ref (b1 0 0)), (1, .ref (b1 100 0)), (2, .ref (b1 101 0)), (3, .ref (b1 102 0)), (4, .ref (b1 103 0)), (5, .int p5), (7, .int x7), (8, .int x8), (9, .int x9)]) hx hb dL_areSound_135 hl (by decide) rfl (fun ls hl => ?_)
            refine lv_iinc (v := x7 + (1 : Int32)) (lv' := [(7, .int (x7 + (1 : Int32))), (6, .int ((1 : Int32))), (11, .int y0), (0, .ref (b1 0 0)), (1, .ref (b1 100 0)), (2, .ref (b1 101 0)), (3, .ref (b1 102 0)), (4, .ref (b1 103 0)), (5, .int p5), (8, .int x8), (9, .int x9)]) hx hb dL_areSound_137 hl (k := 8) rfl rfl (by decide) rfl (fun ls hl => ?_)
            refine lv_goto (tgt := 6) hx hb dL_areSound_140 (by decide) ?_
            exact hk6 _ _ (by omega) (by omega) a1 a2 b1 ((1 : Int32)) (x7 + (1 : Int32)) hX9 hW hS (lv_sub hl [3, 4, 5, 6, 7, 8, 1, 0] rfl) h
set_option maxHeartbeats 4000000 in
set_option maxRecDepth 100000 in
theorem tL_areSound_6 {p : Program} {l : Launch} {e : Env} {s : State} {m : MethodId} {args : Array Value} {below : List Frame} {meth : Method} {c : Code} {z : Nat} {G : Gl} {ad : Nat → Nat → Nat} {σ : SG} {ν : NU} {ρ : RH} {lo : Int64} (X : Cx p l e s m args below meth c cL_areSound (some .boolean) 18 RL wsL_areSound z G) (hlt : l.stackTraces = false) (p5 : Int32)  (post : Int32 → SG → NU → Prop) : ∀ (n kc ks : Nat), kc + (n * 0 + 1500) ≤ 1500 → ks + (n * 0 + 28184) ≤ 28184 → ∀ (a1 : SG) (a2 : NU) (b1 : Nat → Nat → Nat) (x6 : Int32) (x7 : Int32) {H : Heap} {locs : List Loc} {ls : Array Slot}, Xt ad b1 ν a2 → WP z G b1 (a1, a2, ρ, lo) H → va_S (Az z) s.heap H locs → lv_has ls 18 [(0, .ref (b1 0 0)), (1, .ref (b1 100 0)), (2, .ref (b1 101 0)), (3, .ref (b1 102 0)), (4, .ref (b1 103 0)), (5, .int p5), (6, .int x6), (7, .int x7)] → wL_areSound_6 p5 post n a1 a2 ρ x6 x7 → W p l e ({ frames := 10, cells := 1500, slots := 28184, locals := 245 } : Room) s m args below meth c H locs kc ks (MQ below (Qia z G (fun r S1 => ∃ (t : SG) (u : NU), S1.1 = (t, u, ρ, lo) ∧ Xt ad S1.2 ν u ∧ post r t u)) args s 1500 28184 (Az z)) (F0 m 6 ls []) := by
  obtain ⟨hx, hb, hr, hml, hown, hts, hlocks, hE, hz⟩ := id X
  intro n
  induction n with
  | zero =>
    intro kc ks hB1 hB2 a1 a2 b1 x6 x7 H locs ls hX9 hW hS hl h
    exact absurd h id
  | succ n ih =>
    intro kc ks hB1 hB2 a1 a2 b1 x6 x7 H locs ls hX9 hW hS hl h
    unfold wL_areSound_6 at h
    refine lv_iload hx hb dL_areSound_6 (lv_at hl 7 rfl) ?_
    refine lv_aload_n hx hb dL_areSound_8 rfl (lv_at hl 1 rfl) ?_
    refine lv_iconst (v := (2 : Int32)) hx hb dL_areSound_9 (by decide) ?_
    obtain ⟨bq1, h⟩ := h
    refine r_iald hx hb hE hW 100 0 ⟨rfl, by decide, by decide⟩ (n := 14) (f := ρ 0) rfl bq1 (v := ρ 0 ((2 : Int32)).toNatClampNeg) rfl dL_areSound_10 ?_
    refine r_icmp_ge hx hb rfl rfl (tgt := 143) dL_areSound_11 (by decide) (fun c2 => ?_) (fun c2 => ?_)
    · have h := ite_f c2 h
      exact tL_areSound_143 (σ := σ) (ρ := ρ) X hlt p5 post  _ _ (by omega) (by omega) a1 a2 b1 x6 hX9 hW hS (lv_sub hl [0, 1, 5, 6] rfl) h
    · have h := ite_t c2 h
      refine lv_iload hx hb dL_areSound_14 (lv_at hl 6 rfl) ?_
      refine r_if_eq hx hb rfl (tgt := 143) dL_areSound_16 (by decide) (fun c120 => ?_) (fun c120 => ?_)
      · have h := ite_t c120 h
        exact tL_areSound_143 (σ := σ) (ρ := ρ) X hlt p5 post  _ _ (by omega) (by omega) a1 a2 b1 x6 hX9 hW hS (lv_sub hl [0, 1, 5, 6] rfl) h
      · have h := ite_f c120 h
        refine lv_aload_n hx hb dL_areSound_19 rfl (lv_at hl 1 rfl) ?_
        refine lv_aload_n hx hb dL_areSound_20 rfl (lv_at hl 2 rfl) ?_
        refine lv_aload_n hx hb dL_areSound_21 rfl (lv_at hl 3 rfl) ?_
        refine lv_aload hx hb dL_areSound_22 (lv_at hl 4 rfl) ?_
        refine lv_iload hx hb dL_areSound_24 (lv_at hl 7 rfl) ?_
        refine k_Si (rest := []) (As := [.ref (b1 100 0), .ref (b1 101 0), .ref (b1 102 0), .ref (b1 103 0), .int x7]) ⟨hx, hb, hml, hown, hts⟩ hE hz hS hW (mtL_begins l hlt z G b1 a1 a2 ρ lo x7 _ h) (va_cwS 5 hts gL_areSound_L_begins rfl rfl rfl (by decide +kernel) ⟨Nat.le_of_ble_eq_true rfl, Nat.le_of_ble_eq_true rfl⟩) rfl hl.1 rfl (Nat.le_of_ble_eq_true rfl) dL_areSound_26 ⟨by show _ ≤ 1500; omega, by show _ ≤ 28184; omega⟩ (fun r121 S1 H locs hp hW hS => ?_)
        obtain ⟨rfl, h⟩ := hp
        refine lv_istore (lv' := [(8, .int r121), (0, .ref (b1 0 0)), (1, .ref (b1 100 0)), (2, .ref (b1 101 0)), (3, .ref (b1 102 0)), (4, .ref (b1 103 0)), (5, .int p5), (6, .int x6), (7, .int x7)]) hx hb dL_areSound_29 hl (by decide) rfl (fun ls hl => ?_)
        refine lv_aload_n hx hb dL_areSound_31 rfl (lv_at hl 1 rfl) ?_
        refine lv_iload hx hb dL_areSound_32 (lv_at hl 8 rfl) ?_
        refine k_Vi (rest := []) (As := [.int x7]) ⟨hx, hb, hml, hown, hts⟩ hE hz hS hW (nmtX6_state l z G b1 a1 a2 ρ lo x7 _ h) (cwV 1 hts gL_areSound_X6_state rfl rfl rfl (by decide +kernel) ⟨Nat.le_of_ble_eq_true rfl, Nat.le_of_ble_eq_true rfl⟩) (r_recv hE hW 0 0 rfl (ci := 9) rfl rfl) rfl hl.1 rfl (Nat.le_of_ble_eq_true rfl) dL_areSound_34 ⟨by show _ ≤ 1500; omega, by show _ ≤ 28184; omega⟩ (fun r122 S1 H locs hp hW hS => ?_)
        obtain ⟨rfl, h⟩ := hp
        refine lv_istore (lv' := [(9, .int r122), (8, .int r121), (0, .ref (b1 0 0)), (1, .ref (b1 100 0)), (2, .ref (b1 101 0)), (3, .ref (b1 102 0)), (4, .ref (b1 103 0)), (5, .int p5), (6, .int x6), (7, .int x7)]) hx hb dL_areSound_37 hl (by decide) rfl (fun ls hl => ?_)
        refine lv_aload_n hx hb dL_areSound_39 rfl (lv_at hl 5 rfl) ?_
        refine lv_iload hx hb dL_areSound_40 (lv_at hl 9 rfl) ?_
        obtain ⟨b123, h⟩ := h
        refine r_iald hx hb hE hW 102 0 ⟨rfl, by decide, by decide⟩ (n := 40) (f := ρ 2) rfl b123 (v := ρ 2 x7.toNatClampNeg) rfl dL_areSound_42 ?_
        refine lv_bipush (v := (16 : Int32)) hx hb dL_areSound_43 (by decide) ?_
        refine lv_ishr hx hb dL_areSound_45 ?_
        refine lv_iconst (v := (1 : Int32)) hx hb dL_areSound_46 (by decide) ?_
        refine lv_isub hx hb dL_areSound_47 ?_
        refine lv_istore (lv' := [(10, .int (((ρ 2 x7.toNatClampNeg) >>> (((16 : Int32)) &&& 31)) - ((1 : Int32)))), (9, .int r122), (8, .int r121), (0, .ref (b1 0 0)), (1, .ref (b1 100 0)), (2, .ref (b1 101 0)), (3, .ref (b1 102 0)), (4, .ref (b1 103 0)), (5, .int p5), (6, .int x6), (7, .int x7)]) hx hb dL_areSound_48 hl (by decide) rfl (fun ls hl => ?_)
        refine lv_iload hx hb dL_areSound_50 (lv_at hl 2 rfl) ?_
        refine r_if_lt hx hb rfl (tgt := 95) dL_areSound_52 (by decide) (fun c124 => ?_) (fun c124 => ?_)
        · have h := ite_t c124 h
          refine lv_iconst (v := (0 : Int32)) hx hb dL_areSound_95 (by decide) ?_
          exact tL_areSound_96 (σ := σ) (ρ := ρ) X hlt p5 (wL_areSound_6 p5 post n) post (n * 0 + 1500) (n * 0 + 28184) ih _ _ (by omega) (by omega) (by omega) (by omega) a1 a2 b1 x7 r121 r122 ((0 : Int32)) hX9 hW hS (lv_sub hl [3, 4, 5, 6, 7, 8, 10, 2, 1] rfl) h
        · have h := ite_f c124 h
          refine lv_iload hx hb dL_areSound_55 (lv_at hl 2 rfl) ?_
          refine lv_aload_n hx hb dL_areSound_57 rfl (lv_at hl 4 rfl) ?_
          refine lv_iconst (v := (5 : Int32)) hx hb dL_areSound_58 (by decide) ?_
          obtain ⟨b131, h⟩ := h
          refine r_iald hx hb hE hW 100 0 ⟨rfl, by decide, by decide⟩ (n := 14) (f := ρ 0) rfl b131 (v := ρ 0 ((5 : Int32)).toNatClampNeg) rfl dL_areSound_59 ?_
          refine r_icmp_gt hx hb rfl rfl (tgt := 95) dL_areSound_60 (by decide) (fun c132 => ?_) (fun c132 => ?_)
          · have h := ite_f c132 h
            refine lv_iconst (v := (0 : Int32)) hx hb dL_areSound_95 (by decide) ?_
            exact tL_areSound_96 (σ := σ) (ρ := ρ) X hlt p5 (wL_areSound_6 p5 post n) post (n * 0 + 1500) (n * 0 + 28184) ih _ _ (by omega) (by omega) (by omega) (by omega) a1 a2 b1 x7 r121 r122 ((0 : Int32)) hX9 hW hS (lv_sub hl [3, 4, 5, 6, 7, 8, 10, 2, 1] rfl) h
          · have h := ite_t c132 h
            refine lv_aload_n hx hb dL_areSound_63 rfl (lv_at hl 6 rfl) ?_
            refine lv_iload hx hb dL_areSound_64 (lv_at hl 10 rfl) ?_
            obtain ⟨b133, h⟩ := h
            refine r_iald hx hb hE hW 102 0 ⟨rfl, by decide, by decide⟩ (n := 40) (f := ρ 2) rfl b133 (v := ρ 2 x7.toNatClampNeg) rfl dL_areSound_66 ?_
            refine lv_aload_n hx hb dL_areSound_67 rfl (lv_at hl 4 rfl) ?_
            refine lv_bipush (v := (7 : Int32)) hx hb dL_areSound_68 (by decide) ?_
            obtain ⟨b134, h⟩ := h
            refine r_iald hx hb hE hW 100 0 ⟨rfl, by decide, by decide⟩ (n := 14) (f := ρ 0) rfl b134 (v := ρ 0 ((7 : Int32)).toNatClampNeg) rfl dL_areSound_70 ?_
            refine lv_ishr hx hb dL_areSound_71 ?_
            refine lv_iconst (v := (1 : Int32)) hx hb dL_areSound_72 (by decide) ?_
            refine lv_iand hx hb dL_areSound_73 ?_
            refine lv_iconst (v := (1 : Int32)) hx hb dL_areSound_74 (by decide) ?_
            refine r_icmp_ne hx hb rfl (show (1 : Int32).toInt = 1 by decide) (tgt := 95) dL_areSound_75 (by decide) (fun c135 => ?_) (fun c135 => ?_)
            · have h := ite_f c135 h
              refine lv_iconst (v := (0 : Int32)) hx hb dL_areSound_95 (by decide) ?_
              exact tL_areSound_96 (σ := σ) (ρ := ρ) X hlt p5 (wL_areSound_6 p5 post n) post (n * 0 + 1500) (n * 0 + 28184) ih _ _ (by omega) (by omega) (by omega) (by omega) a1 a2 b1 x7 r121 r122 ((0 : Int32)) hX9 hW hS (lv_sub hl [3, 4, 5, 6, 7, 8, 10, 2, 1] rfl) h
            · have h := ite_t c135 h
              refine lv_iload hx hb dL_areSound_78 (lv_at hl 0 rfl) ?_
              refine r_if_lt hx hb rfl (tgt := 91) dL_areSound_80 (by decide) (fun c136 => ?_) (fun c136 => ?_)
              · have h := ite_t c136 h
                refine lv_iconst (v := (1 : Int32)) hx hb dL_areSound_91 (by decide) ?_
                refine lv_goto (tgt := 96) hx hb dL_areSound_92 (by decide) ?_
                exact tL_areSound_96 (σ := σ) (ρ := ρ) X hlt p5 (wL_areSound_6 p5 post n) post (n * 0 + 1500) (n * 0 + 28184) ih _ _ (by omega) (by omega) (by omega) (by omega) a1 a2 b1 x7 r121 r122 ((1 : Int32)) hX9 hW hS (lv_sub hl [3, 4, 5, 6, 7, 8, 10, 2, 1] rfl) h
              · have h := ite_f c136 h
                refine lv_iload hx hb dL_areSound_83 (lv_at hl 0 rfl) ?_
                refine lv_aload_n hx hb dL_areSound_85 rfl (lv_at hl 4 rfl) ?_
                refine lv_iconst (v := (5 : Int32)) hx hb dL_areSound_86 (by decide) ?_
                obtain ⟨b137, h⟩ := h
                refine r_iald hx hb hE hW 100 0 ⟨rfl, by decide, by decide⟩ (n := 14) (f := ρ 0) rfl b137 (v := ρ 0 ((5 : Int32)).toNatClampNeg) rfl dL_areSound_87 ?_
                refine r_icmp_le hx hb rfl rfl (tgt := 95) dL_areSound_88 (by decide) (fun c138 => ?_) (fun c138 => ?_)
                · have h := ite_t c138 h
                  refine lv_iconst (v := (0 : Int32)) hx hb dL_areSound_95 (by decide) ?_
                  exact tL_areSound_96 (σ := σ) (ρ := ρ) X hlt p5 (wL_areSound_6 p5 post n) post (n * 0 + 1500) (n * 0 + 28184) ih _ _ (by omega) (by omega) (by omega) (by omega) a1 a2 b1 x7 r121 r122 ((0 : Int32)) hX9 hW hS (lv_sub hl [3, 4, 5, 6, 7, 8, 10, 2, 1] rfl) h
                · have h := ite_f c138 h
                  refine lv_iconst (v := (1 : Int32)) hx hb dL_areSound_91 (by decide) ?_
                  refine lv_goto (tgt := 96) hx hb dL_areSound_92 (by decide) ?_
                  exact tL_areSound_96 (σ := σ) (ρ := ρ) X hlt p5 (wL_areSound_6 p5 post n) post (n * 0 + 1500) (n * 0 + 28184) ih _ _ (by omega) (by omega) (by omega) (by omega) a1 a2 b1 x7 r121 r122 ((1 : Int32)) hX9 hW hS (lv_sub hl [3, 4, 5, 6, 7, 8, 10, 2, 1] rfl) h
set_option maxHeartbeats 4000000 in
set_option maxRecDepth 100000 in
theorem mtL_areSound (l : Launch) (hlt : l.stackTraces = false) (z : Nat) (G : Gl) (ad : Nat → Nat → Nat) (σ : SG) (ν : NU) (ρ : RH) (lo : Int64) (p5 : Int32) (post : Int32 → SG → NU → Prop) (h : wpL_areSound σ ν ρ p5 post) : Met l yL_areSound wsL_areSound ({ frames := 10, cells := 1500, slots := 28184, locals := 245 } : Room) (Pcs z G ad (σ, ν, ρ, lo) [.ref (ad 0 0), .ref (ad 100 0), .ref (ad 101 0), .ref (ad 102 0), .ref (ad 103 0), .int p5]) (Qia z G (fun r S1 => ∃ (t : SG) (u : NU), S1.1 = (t, u, ρ, lo) ∧ Xt ad S1.2 ν u ∧ post r t u)) 1500 28184 (Az z) := by
  refine Met.ofW (cc := cL_areSound) (maxL := 18) (ret := (some .boolean)) (by decide) rfl ?_
  intro p e s m args below meth c s₁ B hml hv
  obtain ⟨rfl, hz, hW, hE⟩ := hv
  have hx := B.exec
  have hb := B.bytes
  have hr := B.returns
  have hts := atoms_spec (ws := wsL_areSound) B.pre
  have hown : s.vm.findClass RL = some m.cls := findClass_of_methodNamed B.named
  have hlocks := B.notSynchronized
  have X : Cx p l e s m _ below meth c cL_areSound (some .boolean) 18 RL wsL_areSound z G := ⟨hx, hb, hr, hml, hown, hts, hlocks, hE, hz⟩
  have hS : va_S (Az z) s.heap s.heap [] := va_S.rf
  have hl := lv_entry [.ref (ad 0 0), .ref (ad 100 0), .ref (ad 101 0), .ref (ad 102 0), .ref (ad 103 0), .int p5] (n := 18) (Nat.le_of_ble_eq_true rfl)
  rw [lg_entry_eq]
  generalize (lg_sl [.ref (ad 0 0), .ref (ad 100 0), .ref (ad 101 0), .ref (ad 102 0), .ref (ad 103 0), .int p5] ++ List.replicate (18 - (lg_sl [.ref (ad 0 0), .ref (ad 100 0), .ref (ad 101 0), .ref (ad 102 0), .ref (ad 103 0), .int p5]).length) Slot.unset).toArray = ls at hl ⊢
  have hl : lv_has ls 18 [(0, .ref (ad 0 0)), (1, .ref (ad 100 0)), (2, .ref (ad 101 0)), (3, .ref (ad 102 0)), (4, .ref (ad 103 0)), (5, .int p5)] := hl
  unfold wpL_areSound at h
  refine lv_iconst (v := (1 : Int32)) hx hb dL_areSound_0 (by decide) ?_
  refine lv_istore (lv' := [(6, .int ((1 : Int32))), (0, .ref (ad 0 0)), (1, .ref (ad 100 0)), (2, .ref (ad 101 0)), (3, .ref (ad 102 0)), (4, .ref (ad 103 0)), (5, .int p5)]) hx hb dL_areSound_1 hl (by decide) rfl (fun ls hl => ?_)
  refine lv_iconst (v := (0 : Int32)) hx hb dL_areSound_3 (by decide) ?_
  refine lv_istore (lv' := [(7, .int ((0 : Int32))), (6, .int ((1 : Int32))), (0, .ref (ad 0 0)), (1, .ref (ad 100 0)), (2, .ref (ad 101 0)), (3, .ref (ad 102 0)), (4, .ref (ad 103 0)), (5, .int p5)]) hx hb dL_areSound_4 hl (by decide) rfl (fun ls hl => ?_)
  obtain ⟨n139, h⟩ := h
  exact tL_areSound_6 (σ := σ) (ρ := ρ) X hlt p5 post  n139 _ _ (by omega) (by omega) σ ν ad ((1 : Int32)) ((0 : Int32)) Xt.rf hW hS (lv_sub hl [2, 3, 4, 5, 6, 7, 1, 0] rfl) h
