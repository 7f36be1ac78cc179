/-! the law method by method: its walk. Written by wip/gen25/genlaw.py -/
set_option maxHeartbeats 4000000 in
set_option maxRecDepth 100000 in
theorem tL_isLooked_60 {p : Program} {l : Launch} {e : Env} {s : State} {m : MethodId} {args : Array Value} {below : List Frame} {meth : Method} {c : Code} {z : Nat} {G : Gl} {ad : Nat → Nat → Nat} {σ : SG} {ν : NU} {ρ : RH} {lo : Int64} (X : Cx p l e s m args below meth c cL_isLooked (some .boolean) 7 RL wsL_isLooked z G) (hlt : l.stackTraces = false) (p2 : Int32) (p3 : Int32) (p4 : Int32)  (post : Int32 → SG → NU → RH → Prop) : ∀ (kc ks : Nat), kc + 1 ≤ 11 → ks + 6 ≤ 175 → ∀ (a1 : SG) (a2 : NU) (a3 : RH) (b1 : Nat → Nat → Nat) (x5 : Int32) (y0 : Int32) {H : Heap} {locs : List Loc} {ls : Array Slot}, Xt ad b1 ν a2 → WP z G b1 (a1, a2, a3, lo) H → va_S (Az z) s.heap H locs → lv_has ls 7 [(0, .ref (b1 0 0)), (5, .int x5)] → jL_isLooked_60 p2 p3 p4 post a1 a2 a3 x5 y0 → W p l e ({ frames := 11, cells := 11, slots := 175, locals := 270 } : Room) s m args below meth c H locs kc ks (MQ below (Qia z G (fun r S1 => ∃ (t : SG) (u : NU) (v : RH), S1.1 = (t, u, v, lo) ∧ Xt ad S1.2 ν u ∧ post r t u v)) args s 11 175 (Az z)) (F0 m 60 ls [.int y0]) := by
  obtain ⟨hx, hb, hr, hml, hown, hts, hlocks, hE, hz⟩ := id X
  intro kc ks hB1 hB2 a1 a2 a3 b1 x5 y0 H locs ls hX9 hW hS hl h
  unfold jL_isLooked_60 at h
  refine lv_istore (lv' := [(6, .int y0), (0, .ref (b1 0 0)), (5, .int x5)]) hx hb dL_isLooked_60 hl (by decide) rfl (fun ls hl => ?_)
  refine lv_iload hx hb dL_isLooked_62 (lv_at hl 0 rfl) ?_
  refine r_if_eq hx hb rfl (tgt := 92) dL_isLooked_64 (by decide) (fun c18 => ?_) (fun c18 => ?_)
  · have h := ite_t c18 h
    refine lv_iconst (v := (0 : Int32)) hx hb dL_isLooked_92 (by decide) ?_
    refine W.widen (k := 11) (n := 175) (by omega) (by omega) ?_
    exact W.zret (v := (0 : Int32)) (ty := .boolean) hx hb hr rfl (fun t ht _ => ⟨⟨_, ((a1, a2, a3, lo), b1), rfl, ⟨_, _, _, rfl, hX9, h⟩, WP.at9 ht hW⟩, hS.F ht⟩) hS.2.2 dL_isLooked_93 (hlocks := hlocks)
  · have h := ite_f c18 h
    refine lv_iload hx hb dL_isLooked_67 (lv_at hl 2 rfl) ?_
    refine r_if_eq hx hb rfl (tgt := 88) dL_isLooked_69 (by decide) (fun c19 => ?_) (fun c19 => ?_)
    · have h := ite_t c19 h
      refine lv_iconst (v := (1 : Int32)) hx hb dL_isLooked_88 (by decide) ?_
      refine lv_goto (tgt := 93) hx hb dL_isLooked_89 (by decide) ?_
      refine W.widen (k := 11) (n := 175) (by omega) (by omega) ?_
      exact W.zret (v := (1 : Int32)) (ty := .boolean) hx hb hr rfl (fun t ht _ => ⟨⟨_, ((a1, a2, a3, lo), b1), rfl, ⟨_, _, _, rfl, hX9, h⟩, WP.at9 ht hW⟩, hS.F ht⟩) hS.2.2 dL_isLooked_93 (hlocks := hlocks)
    · have h := ite_f c19 h
      refine lv_aload_n hx hb dL_isLooked_72 rfl (lv_at hl 1 rfl) ?_
      refine lv_bipush (v := (6 : Int32)) hx hb dL_isLooked_73 (by decide) ?_
      refine lv_iload hx hb dL_isLooked_75 (lv_at hl 2 rfl) ?_
      refine lv_iconst (v := (1 : Int32)) hx hb dL_isLooked_77 (by decide) ?_
      refine lv_isub hx hb dL_isLooked_78 ?_
      refine lv_iconst (v := (0 : Int32)) hx hb dL_isLooked_79 (by decide) ?_
      refine lv_iconst (v := (0 : Int32)) hx hb dL_isLooked_80 (by decide) ?_
      refine lv_iconst (v := (0 : Int32)) hx hb dL_isLooked_81 (by decide) ?_
      refine kW_Si (rest := []) (As := [.ref (b1 0 0), .int ((6 : Int32)), .int (x5 - ((1 : Int32))), .int ((0 : Int32)), .int ((0 : Int32)), .int ((0 : Int32))]) ⟨hx, hb, hml, hown, hts⟩ hE hz hS hW (mtL_does_6 l hlt z G b1 a1 a2 a3 lo (x5 - ((1 : Int32))) ((0 : Int32)) ((0 : Int32)) ((0 : Int32)) _ h) (vx_cwSW 6 hts gL_isLooked_L_does rfl rfl rfl (by decide +kernel) ⟨Nat.le_of_ble_eq_true rfl, Nat.le_of_ble_eq_true rfl⟩) rfl hl.1 rfl (Nat.le_of_ble_eq_true rfl) dL_isLooked_82 ⟨by show _ ≤ 11; omega, by show _ ≤ 175; omega⟩ (fun r20 S1 H locs hp hW hS => ?_)
      obtain ⟨rfl, h⟩ := hp
      refine r_if_lt hx hb rfl (tgt := 92) dL_isLooked_85 (by decide) (fun c21 => ?_) (fun c21 => ?_)
      · have h := ite_t c21 h
        refine lv_iconst (v := (0 : Int32)) hx hb dL_isLooked_92 (by decide) ?_
        refine W.widen (k := 11) (n := 175) (by omega) (by omega) ?_
        exact W.zret (v := (0 : Int32)) (ty := .boolean) hx hb hr rfl (fun t ht _ => ⟨⟨_, ((a1, a2, a3, lo), b1), rfl, ⟨_, _, _, rfl, hX9, h⟩, WP.at9 ht hW⟩, hS.F ht⟩) hS.2.2 dL_isLooked_93 (hlocks := hlocks)
      · have h := ite_f c21 h
        refine lv_iconst (v := (1 : Int32)) hx hb dL_isLooked_88 (by decide) ?_
        refine lv_goto (tgt := 93) hx hb dL_isLooked_89 (by decide) ?_
        refine W.widen (k := 11) (n := 175) (by omega) (by omega) ?_
        exact W.zret (v := (1 : Int32)) (ty := .boolean) hx hb hr rfl (fun t ht _ => ⟨⟨_, ((a1, a2, a3, lo), b1), rfl, ⟨_, _, _, rfl, hX9, h⟩, WP.at9 ht hW⟩, hS.F ht⟩) hS.2.2 dL_isLooked_93 (hlocks := hlocks)
set_option maxHeartbeats 4000000 in
set_option maxRecDepth 100000 in
theorem mtL_isLooked (l : Launch) (hlt : l.stackTraces = false) (z : Nat) (G : Gl) (ad : Nat → Nat → Nat) (σ : SG) (ν : NU) (ρ : RH) (lo : Int64) (p2 : Int32) (p3 : Int32) (p4 : Int32) (post : Int32 → SG → NU → RH → Prop) (h : wpL_isLooked σ ν ρ p2 p3 p4 post) : Met l yL_isLooked wsL_isLooked ({ frames := 11, cells := 11, slots := 175, locals := 270 } : Room) (Pcs z G ad (σ, ν, ρ, lo) [.ref (ad 0 0), .ref (ad 100 0), .int p2, .int p3, .int p4]) (Qia z G (fun r S1 => ∃ (t : SG) (u : NU) (v : RH), S1.1 = (t, u, v, lo) ∧ Xt ad S1.2 ν u ∧ post r t u v)) 11 175 (Az z) := by
  refine Met.ofW (cc := cL_isLooked) (maxL := 7) (ret := (some .boolean)) (by decide) rfl ?_
  intro p e s m args below meth c s₁ B hml hv
  obtain ⟨rfl, hz, hW, hE⟩ := hv
  have hx := B.exec
  have hb := B.bytes
  have hr := B.returns
  have hts := atoms_spec (ws := wsL_isLooked) B.pre
  have hown : s.vm.findClass RL = some m.cls := findClass_of_methodNamed B.named
  have hlocks := B.notSynchronized
  have X : Cx p l e s m _ below meth c cL_isLooked (some .boolean) 7 RL wsL_isLooked z G := ⟨hx, hb, hr, hml, hown, hts, hlocks, hE, hz⟩
  have hS : va_S (Az z) s.heap s.heap [] := va_S.rf
  have hl := lv_entry [.ref (ad 0 0), .ref (ad 100 0), .int p2, .int p3, .int p4] (n := 7) (Nat.le_of_ble_eq_true rfl)
  rw [lg_entry_eq]
  generalize (lg_sl [.ref (ad 0 0), .ref (ad 100 0), .int p2, .int p3, .int p4] ++ List.replicate (7 - (lg_sl [.ref (ad 0 0), .ref (ad 100 0), .int p2, .int p3, .int p4]).length) Slot.unset).toArray = ls at hl ⊢
  have hl : lv_has ls 7 [(0, .ref (ad 0 0)), (1, .ref (ad 100 0)), (2, .int p2), (3, .int p3), (4, .int p4)] := hl
  unfold wpL_isLooked at h
  refine lv_aload_n hx hb dL_isLooked_0 rfl (lv_at hl 1 rfl) ?_
  refine lv_iconst (v := (5 : Int32)) hx hb dL_isLooked_1 (by decide) ?_
  refine lv_iload_n hx hb dL_isLooked_2 rfl (lv_at hl 2 rfl) ?_
  obtain ⟨b1, h⟩ := h
  refine r_iastM hx hb hE hW hS 0 (k := 100) rfl ⟨rfl, by decide, by decide⟩ (n := 14) (fun _ => rfl) (fun _ _ => rfl) b1 dL_isLooked_3 (fun t2 e3 H locs hW hS => ?_)
  have h := h t2 e3
  refine lv_aload_n hx hb dL_isLooked_4 rfl (lv_at hl 1 rfl) ?_
  refine lv_bipush (v := (6 : Int32)) hx hb dL_isLooked_5 (by decide) ?_
  refine lv_iload_n hx hb dL_isLooked_7 rfl (lv_at hl 3 rfl) ?_
  obtain ⟨b4, h⟩ := h
  refine r_iastM hx hb hE hW hS 0 (k := 100) rfl ⟨rfl, by decide, by decide⟩ (n := 14) (fun _ => rfl) (fun _ _ => rfl) b4 dL_isLooked_8 (fun t5 e6 H locs hW hS => ?_)
  have h := h t5 e6
  refine lv_aload_n hx hb dL_isLooked_9 rfl (lv_at hl 1 rfl) ?_
  refine lv_bipush (v := (7 : Int32)) hx hb dL_isLooked_10 (by decide) ?_
  refine lv_iload hx hb dL_isLooked_12 (lv_at hl 4 rfl) ?_
  obtain ⟨b7, h⟩ := h
  refine r_iastM hx hb hE hW hS 0 (k := 100) rfl ⟨rfl, by decide, by decide⟩ (n := 14) (fun _ => rfl) (fun _ _ => rfl) b7 dL_isLooked_14 (fun t8 e9 H locs hW hS => ?_)
  have h := h t8 e9
  refine lv_aload_n hx hb dL_isLooked_15 rfl (lv_at hl 0 rfl) ?_
  refine lv_iconst (v := (5 : Int32)) hx hb dL_isLooked_16 (by decide) ?_
  refine lv_iload_n hx hb dL_isLooked_17 rfl (lv_at hl 2 rfl) ?_
  refine lv_iload_n hx hb dL_isLooked_18 rfl (lv_at hl 3 rfl) ?_
  refine lv_iload hx hb dL_isLooked_19 (lv_at hl 4 rfl) ?_
  refine lv_iconst (v := (0 : Int32)) hx hb dL_isLooked_21 (by decide) ?_
  refine kWA_Si (rest := []) (As := [.ref (ad 0 0), .int ((5 : Int32)), .int p2, .int p3, .int p4, .int ((0 : Int32))]) ⟨hx, hb, hml, hown, hts⟩ hE hz hS hW (mtL_does_5 l hlt z G ad σ ν t8 lo p2 p3 p4 ((0 : Int32)) _ h) (vx_cwSW 6 hts gL_isLooked_L_does rfl rfl rfl (by decide +kernel) ⟨Nat.le_of_ble_eq_true rfl, Nat.le_of_ble_eq_true rfl⟩) rfl hl.1 rfl (Nat.le_of_ble_eq_true rfl) dL_isLooked_22 ⟨by show _ ≤ 11; omega, by show _ ≤ 175; omega⟩ (fun r10 S1 ad13 H locs hp hW hS => ?_)
  obtain ⟨t11, vv12, rfl, q14, h⟩ := hp
  have z15 : ad13 0 0 = ad 0 0 := (q14 0 0 (by decide) rfl).2
  have z16 : ad13 100 0 = ad 100 0 := (q14 100 0 (by decide) ⟨rfl, by decide, by decide⟩).2
  have hl : lv_has ls 7 [(0, .ref (ad13 0 0)), (1, .ref (ad13 100 0)), (2, .int p2), (3, .int p3), (4, .int p4)] := by rw [z15, z16]; exact hl
  refine lv_istore (lv' := [(5, .int r10), (0, .ref (ad13 0 0)), (1, .ref (ad13 100 0)), (2, .int p2), (3, .int p3), (4, .int p4)]) hx hb dL_isLooked_25 hl (by decide) rfl (fun ls hl => ?_)
  refine lv_iload hx hb dL_isLooked_27 (lv_at hl 0 rfl) ?_
  refine r_if_lt hx hb rfl (tgt := 59) dL_isLooked_29 (by decide) (fun c17 => ?_) (fun c17 => ?_)
  · have h := ite_t c17 h
    refine lv_iconst (v := (0 : Int32)) hx hb dL_isLooked_59 (by decide) ?_
    exact tL_isLooked_60 (σ := σ) (ρ := ρ) X hlt p2 p3 p4 post  _ _ (by omega) (by omega) t11 vv12 t8 ad13 r10 ((0 : Int32)) (Xt.tr Xt.rf q14) hW hS (lv_sub hl [1, 0] rfl) h
  · have h := ite_f c17 h
    refine lv_iload hx hb dL_isLooked_32 (lv_at hl 0 rfl) ?_
    refine lv_aload_n hx hb dL_isLooked_34 rfl (lv_at hl 2 rfl) ?_
    refine lv_iconst (v := (3 : Int32)) hx hb dL_isLooked_35 (by decide) ?_
    obtain ⟨b22, h⟩ := h
    refine r_iald hx hb hE hW 100 0 ⟨rfl, by decide, by decide⟩ (n := 14) (f := t8 0) rfl b22 (v := t8 0 ((3 : Int32)).toNatClampNeg) rfl dL_isLooked_36 ?_
    refine r_icmp_gt hx hb rfl rfl (tgt := 59) dL_isLooked_37 (by decide) (fun c23 => ?_) (fun c23 => ?_)
    · have h := ite_f c23 h
      refine lv_iconst (v := (0 : Int32)) hx hb dL_isLooked_59 (by decide) ?_
      exact tL_isLooked_60 (σ := σ) (ρ := ρ) X hlt p2 p3 p4 post  _ _ (by omega) (by omega) t11 vv12 t8 ad13 r10 ((0 : Int32)) (Xt.tr Xt.rf q14) hW hS (lv_sub hl [1, 0] rfl) h
    · have h := ite_t c23 h
      refine lv_aload_n hx hb dL_isLooked_40 rfl (lv_at hl 1 rfl) ?_
      refine lv_bipush (v := (6 : Int32)) hx hb dL_isLooked_41 (by decide) ?_
      refine lv_iload hx hb dL_isLooked_43 (lv_at hl 0 rfl) ?_
      refine lv_iconst (v := (0 : Int32)) hx hb dL_isLooked_45 (by decide) ?_
      refine lv_iconst (v := (0 : Int32)) hx hb dL_isLooked_46 (by decide) ?_
      refine lv_iconst (v := (0 : Int32)) hx hb dL_isLooked_47 (by decide) ?_
      refine kW_Si (rest := []) (As := [.ref (ad13 0 0), .int ((6 : Int32)), .int r10, .int ((0 : Int32)), .int ((0 : Int32)), .int ((0 : Int32))]) ⟨hx, hb, hml, hown, hts⟩ hE hz hS hW (mtL_does_6 l hlt z G ad13 t11 vv12 t8 lo r10 ((0 : Int32)) ((0 : Int32)) ((0 : Int32)) _ h) (vx_cwSW 6 hts gL_isLooked_L_does rfl rfl rfl (by decide +kernel) ⟨Nat.le_of_ble_eq_true rfl, Nat.le_of_ble_eq_true rfl⟩) rfl hl.1 rfl (Nat.le_of_ble_eq_true rfl) dL_isLooked_48 ⟨by show _ ≤ 11; omega, by show _ ≤ 175; omega⟩ (fun r24 S1 H locs hp hW hS => ?_)
      obtain ⟨rfl, h⟩ := hp
      refine lv_iconst (v := (-1 : Int32)) hx hb dL_isLooked_51 (by decide) ?_
      refine r_icmp_ne hx hb rfl (show (-1 : Int32).toInt = (-1) by decide) (tgt := 59) dL_isLooked_52 (by decide) (fun c25 => ?_) (fun c25 => ?_)
      · have h := ite_f c25 h
        refine lv_iconst (v := (0 : Int32)) hx hb dL_isLooked_59 (by decide) ?_
        exact tL_isLooked_60 (σ := σ) (ρ := ρ) X hlt p2 p3 p4 post  _ _ (by omega) (by omega) t11 vv12 t8 ad13 r10 ((0 : Int32)) (Xt.tr Xt.rf q14) hW hS (lv_sub hl [1, 0] rfl) h
      · have h := ite_t c25 h
        refine lv_iconst (v := (1 : Int32)) hx hb dL_isLooked_55 (by decide) ?_
        refine lv_goto (tgt := 60) hx hb dL_isLooked_56 (by decide) ?_
        exact tL_isLooked_60 (σ := σ) (ρ := ρ) X hlt p2 p3 p4 post  _ _ (by omega) (by omega) t11 vv12 t8 ad13 r10 ((1 : Int32)) (Xt.tr Xt.rf q14) hW hS (lv_sub hl [1, 0] rfl) h
