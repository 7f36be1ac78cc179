/-! the law: its cases. Written by wip/gen/hand14.py -/
theorem lcmp_self {x : Int64} : lg_cmp x x = 0 := by
  unfold lg_cmp
  rw [if_neg (by simp), if_pos rfl]
theorem in_arg {i j L : Nat} (h : i + 5 ≤ L) (hL : L ≤ 2560) (hj : j ≤ 4) : vp_in (nI i + nI j) L := by
  rw [nI_add]
  exact vp_in_nI (by omega) (by omega)
/-- what stands through the law -/
def LCX (p : Program) (l : Launch) (e : Env) (s : State) (m : MethodId) (below : List Frame) (meth : Method) (c : Code) (b L : Nat) (xs : Nat → Int32) (z : Nat) (G : Gl) : Prop :=
  p.tables.exec = Jvm.exec ∧ c.code = cL_law ∧ c.maxLocals = 7 ∧ s.vm.findClass RL = some m.cls ∧ (∀ w ∈ wsL_law, w.before #[Value.ref b] s = true) ∧ Ev z G s ∧ z ≤ s.heap.size ∧ l.stackTraces = false ∧ va_X b L xs s s.heap ∧ b < s.heap.size ∧ ¬ Az z b ∧ L ≤ 2560
section RL8
variable {p : Program} {l : Launch} {e : Env} {R : Room} {s : State} {m : MethodId} {args : Array Value} {below : List Frame} {meth : Method} {c : Code} {H : Heap} {locs : List Loc} {cells slots : Nat} {Q : State → Prop}
variable {cc : ByteArray} {pc : Nat} {ls : Array Slot} {rest : List Value} {z : Nat} {G : Gl} {ad : Nat → Nat → Nat} {S : St} {Ts : List Cond} {own C : String} {index : Nat}
theorem k_SW {y : MethodName} {bytes : ByteArray} {maxL nL mc ms n : Nat} {ret : Option FieldType} {hh : List (Nat × Nat × Nat × Nat)} {ws : List Cond} {rm : Room} {As st0 : List Value} {post : Int32 → St × (Nat → Nat → Nat) → Prop} (SS : CallFix p m c cc nL s args Ts own) (hE : Ev z G s) (hz : z ≤ s.heap.size) (hS : va_S (Az z) s.heap H locs) (hW : WP z G ad S H) (hM : Met l y ws rm (Pcs z G ad S As) (Qia z G post) mc ms (Az z)) (cw : vx_CSW R s args own index y bytes maxL ret hh ws rm mc ms n) (hn : As.length = n) (hsz : ls.size = nL) (hst : st0 = As.reverse ++ rest) (hrm : (rest.map fun v => v.category).sum ≤ 8) (hdg : decode cc pc = .ok (.invokestatic index, 3)) (hf : cells + mc ≤ R.cells ∧ slots + ms ≤ R.slots)
    (kk : ∀ (r : Int32) (S' : St) (ad' : Nat → Nat → Nat) (H1 : Heap) (locs1 : List Loc), post r (S', ad') → WP z G ad' S' H1 → va_S (Az z) s.heap H1 locs1 → W p l e R s m args below meth c H1 locs1 (cells + mc) (slots + ms) Q (F0 m (pc + 3) ls (.int r :: rest))) : W p l e R s m args below meth c H locs cells slots Q (F0 m pc ls st0) := by
  subst hst
  exact va_calli (vx_runSW (As := As) (rest := rest) SS hM cw ⟨Pcs.blind, fun U hU hw => ⟨rfl, Bc.of hE hz hW hS hU hw⟩⟩ rfl hn hsz rfl (lv_room hrm) hdg hf) hS (fun _ _ h => h) (fun _ h => h) (fun r u t H1 locs1 ht _ hp hB _ _ hS1 => kk r u.1 u.2 H1 locs1 hp (by rw [← ht]; exact hB) hS1)
theorem r_bool {off1 off2 : Int} {t1 t2 t3 : Nat} {x : Int32} (hx : p.tables.exec = Jvm.exec) (hb : c.code = cc) (d0 : decode cc pc = .ok (.ifCond .eq off1, 3)) (e1 : (pc : Int) + off1 = (t2 : Int)) (d1 : decode cc (pc + 3) = .ok (.iconst 1, 1)) (ht1 : pc + 3 + 1 = t1) (d2 : decode cc t1 = .ok (.goto off2, 3)) (e2 : (t1 : Int) + off2 = (t3 : Int)) (d3 : decode cc t2 = .ok (.iconst 0, 1)) (ht3 : t2 + 1 = t3)
    (kk : W p l e R s m args below meth c H locs cells slots Q (F0 m t3 ls (.int (if x = 0 then 0 else 1) :: rest))) : W p l e R s m args below meth c H locs cells slots Q (F0 m pc ls (.int x :: rest)) := by
  subst ht1 ht3
  refine lv_if_eq hx hb d0 e1 (fun h => ?_) (fun h => ?_)
  · rw [if_pos h] at kk
    exact lv_iconst (v := (0 : Int32)) hx hb d3 (by decide) kk
  · rw [if_neg h] at kk
    refine lv_iconst (v := (1 : Int32)) hx hb d1 (by decide) ?_
    exact lv_goto hx hb d2 e2 kk
end RL8
set_option maxHeartbeats 2000000 in
set_option maxRecDepth 100000 in
theorem law_c0 {p : Program} {l : Launch} {e : Env} {s : State} {m : MethodId} {below : List Frame} {meth : Method} {c : Code} {b L : Nat} {xs : Nat → Int32} {z : Nat} {G : Gl} (X : LCX p l e s m below meth c b L xs z G) {Q : State → Prop} {σ : SG} {ν : NU} {ρ : RH} {lo : Int64} {ad : Nat → Nat → Nat} {H : Heap} {locs : List Loc} {ls : Array Slot} {cells slots i n np : Nat} (hi : i + 5 ≤ L) (hW : WP z G ad (σ, ν, ρ, lo) H) (hS : va_S (Az z) s.heap H locs) (hZ : SIM σ ν ρ n np) (hl : lv_has ls 7 [(0, .ref b), (1, .ref (ad 0 0)), (2, .ref (ad 30 0)), (3, .ref (ad 31 0)), (4, .int (nI i))]) (hc : cells + 54 ≤ 601024) (hs : slots + 2578 ≤ 7293034)
    (kk : ∀ (σ : SG) (ν : NU) (ρ : RH) (lo : Int64) (ad : Nat → Nat → Nat) (n np : Nat) (H : Heap) (locs : List Loc) (ls : Array Slot), WP z G ad (σ, ν, ρ, lo) H → va_S (Az z) s.heap H locs → SIM σ ν ρ n np → lv_has ls 7 [(0, .ref b), (1, .ref (ad 0 0)), (2, .ref (ad 30 0)), (3, .ref (ad 31 0)), (4, .int (nI i))] → W p l e room_1 s m #[Value.ref b] below meth c H locs (cells + 54) (slots + 2578) Q (F0 m 1439 ls [])) : W p l e room_1 s m #[Value.ref b] below meth c H locs cells slots Q (F0 m 140 ls []) := by
  obtain ⟨hx, hb, hml, hown, hts, hE, hz, hlt, hX, hbl, hbA, hL⟩ := X
  obtain ⟨k, r, P, R, hwc, hwr, hsim⟩ := z_pass hZ ((xs (nI i + 1).toNatClampNeg))
  refine lv_aload_n hx hb dL_law_140 rfl (lv_at hl 1 rfl) ?_
  refine lv_aload_n hx hb dL_law_141 rfl (lv_at hl 0 rfl) ?_
  refine lv_iload hx hb dL_law_142 (lv_at hl 4 rfl) ?_
  refine lv_iconst (v := (1 : Int32)) hx hb dL_law_144 (by decide) ?_
  refine lv_iadd hx hb dL_law_145 ?_
  refine va_sld hx hb hX hbl hbA hS (in_arg hi hL (j := 1) (by decide)) dL_law_146 ?_
  refine lv_aload_n hx hb dL_law_147 rfl (lv_at hl 3 rfl) ?_
  refine k_SW (rest := []) (As := [.ref (ad 0 0), .int (xs (nI i + 1).toNatClampNeg), .ref (ad 31 0)]) ⟨hx, hb, hml, hown, hts⟩ hE hz hS hW (mtL_pass l hlt z G ad σ ν ρ lo ((xs (nI i + 1).toNatClampNeg)) k r P hwc) (vx_cwSW 3 hts gL_law_L_pass rfl rfl rfl (by decide +kernel) ⟨Nat.le_of_ble_eq_true rfl, Nat.le_of_ble_eq_true rfl⟩) rfl hl.1 rfl (Nat.le_of_ble_eq_true rfl) dL_law_148 ⟨by show cells + 1 ≤ 601024; omega, by show slots + 6 ≤ 7293034; omega⟩ (fun k9 S9 ad9 H locs hp hW hS => ?_)
  obtain ⟨ek, t9, u9, lo9, e9, hXt, hlo, hP⟩ := hp
  dsimp only at e9 hXt
  subst e9
  have hl : lv_has ls 7 [(0, .ref b), (1, .ref (ad9 0 0)), (2, .ref (ad9 30 0)), (3, .ref (ad9 31 0)), (4, .int (nI i))] := by rw [(hXt 0 0 (by decide) rfl).2, (hXt 30 0 (by decide) rfl).2, (hXt 31 0 (by decide) rfl).2]; exact hl
  refine lv_istore (lv' := [(5, .int k9), (0, .ref b), (1, .ref (ad9 0 0)), (2, .ref (ad9 30 0)), (3, .ref (ad9 31 0)), (4, .int (nI i))]) hx hb dL_law_151 hl (by decide) rfl (fun ls hl => ?_)
  refine lv_aload_n hx hb dL_law_153 rfl (lv_at hl 3 rfl) ?_
  refine lv_aload_n hx hb dL_law_154 rfl (lv_at hl 1 rfl) ?_
  refine lv_iload hx hb dL_law_155 (lv_at hl 5 rfl) ?_
  refine lv_iconst (v := (1 : Int32)) hx hb dL_law_157 (by decide) ?_
  refine lv_iadd hx hb dL_law_158 ?_
  refine va_sld hx hb hX hbl hbA hS (in_arg hi hL (j := 1) (by decide)) dL_law_159 ?_
  refine k_Vi (rest := []) (As := [.int (xs (nI i + 1).toNatClampNeg)]) ⟨hx, hb, hml, hown, hts⟩ hE hz hS hW (mtX7_pass l z G ad9 t9 u9 ρ lo9 ((xs (nI i + 1).toNatClampNeg)) _ hwr) (cwV 1 hts gL_law_X7_pass rfl rfl rfl (by decide +kernel) ⟨Nat.le_of_ble_eq_true rfl, Nat.le_of_ble_eq_true rfl⟩) (r_recv hE hW 30 0 rfl (C := RX7) (ci := 10) rfl rfl) rfl hl.1 rfl (Nat.le_of_ble_eq_true rfl) dL_law_160 ⟨by show (cells + 1) + 0 ≤ 601024; omega, by show (slots + 6) + 0 ≤ 7293034; omega⟩ (fun b9 S9 H locs hp hW hS => ?_)
  obtain ⟨ρ9, rfl, hq1, hq2, hR⟩ := hp
  refine lv_istore (lv' := [(6, .int b9), (5, .int k9), (0, .ref b), (1, .ref (ad9 0 0)), (2, .ref (ad9 30 0)), (3, .ref (ad9 31 0)), (4, .int (nI i))]) hx hb dL_law_163 hl (by decide) rfl (fun ls hl => ?_)
  refine lv_aload_n hx hb dL_law_165 rfl (lv_at hl 4 rfl) ?_
  refine k_Vi (rest := []) (As := []) ⟨hx, hb, hml, hown, hts⟩ hE hz hS hW (mtX7_thrown l z G ad9 t9 u9 ρ9 lo9 (fun r9 => r9 = ρ9 48 0) (by unfold wpX7_thrown; exact rfl)) (cwV 0 hts gL_law_X7_thrown rfl rfl rfl (by decide +kernel) ⟨Nat.le_of_ble_eq_true rfl, Nat.le_of_ble_eq_true rfl⟩) (r_recv hE hW 30 0 rfl (C := RX7) (ci := 10) rfl rfl) rfl hl.1 rfl (Nat.le_of_ble_eq_true rfl) dL_law_166 ⟨by show (cells + 1) + 0 ≤ 601024; omega, by show (slots + 6) + 0 ≤ 7293034; omega⟩ (fun c9 S9 H locs hp hW hS => ?_)
  obtain ⟨rfl, rfl⟩ := hp
  refine lv_iload hx hb dL_law_169 (lv_at hl 1 rfl) ?_
  refine lv_icmp_eq (tgt := 176) hx hb dL_law_171 (by decide) (fun c8 => ?_) (fun c8 => absurd (hq1.trans ek.symm) c8)
  have hZ9 : ∃ n np : Nat, SIM t9 u9 ρ9 n np := hsim _ _ _ hP hR
  obtain ⟨n9, np9, hZ9⟩ := hZ9
  have hG : W p l e room_1 s m #[Value.ref b] below meth c H locs (cells + 1) (slots + 6) Q (F0 m 193 ls []) := by
    refine lv_goto (tgt := 1439) hx hb dL_law_193 (by decide) ?_
    refine W.widen (k := cells + 54) (n := slots + 2578) (by omega) (by omega) ?_
    exact kk t9 u9 ρ9 lo9 ad9 n9 np9 H locs ls hW hS hZ9 (lv_sub hl [2, 3, 4, 5, 6] rfl)
  refine lv_iload hx hb dL_law_176 (lv_at hl 1 rfl) ?_
  refine lv_if_ne (tgt := 193) hx hb dL_law_178 (by decide) (fun c8 => hG) (fun c8 => ?_)
  refine lv_aload_n hx hb dL_law_181 rfl (lv_at hl 5 rfl) ?_
  refine lv_iconst (v := (0 : Int32)) hx hb dL_law_182 (by decide) ?_
  refine r_lald hx hb hE hW (lo := lo9) rfl dL_law_183 ?_
  refine lv_iload hx hb dL_law_184 (lv_at hl 0 rfl) ?_
  refine lv_i2l (v := b9.toInt64) hx hb dL_law_186 rfl ?_
  refine W.lcmp hx hb dL_law_187 ?_
  refine lv_if_eq (tgt := 193) hx hb dL_law_188 (by decide) (fun q => hG) (fun q => absurd ?_ q)
  rw [hlo (ek.symm.trans c8), hq2 (ek.symm.trans c8)]
  exact lcmp_self
set_option maxHeartbeats 2000000 in
set_option maxRecDepth 100000 in
theorem law_c1 {p : Program} {l : Launch} {e : Env} {s : State} {m : MethodId} {below : List Frame} {meth : Method} {c : Code} {b L : Nat} {xs : Nat → Int32} {z : Nat} {G : Gl} (X : LCX p l e s m below meth c b L xs z G) {Q : State → Prop} {σ : SG} {ν : NU} {ρ : RH} {lo : Int64} {ad : Nat → Nat → Nat} {H : Heap} {locs : List Loc} {ls : Array Slot} {cells slots i n np : Nat} (hi : i + 5 ≤ L) (hW : WP z G ad (σ, ν, ρ, lo) H) (hS : va_S (Az z) s.heap H locs) (hZ : SIM σ ν ρ n np) (hl : lv_has ls 7 [(0, .ref b), (1, .ref (ad 0 0)), (2, .ref (ad 30 0)), (3, .ref (ad 31 0)), (4, .int (nI i))]) (hc : cells + 54 ≤ 601024) (hs : slots + 2578 ≤ 7293034)
    (kk : ∀ (σ : SG) (ν : NU) (ρ : RH) (lo : Int64) (ad : Nat → Nat → Nat) (n np : Nat) (H : Heap) (locs : List Loc) (ls : Array Slot), WP z G ad (σ, ν, ρ, lo) H → va_S (Az z) s.heap H locs → SIM σ ν ρ n np → lv_has ls 7 [(0, .ref b), (1, .ref (ad 0 0)), (2, .ref (ad 30 0)), (3, .ref (ad 31 0)), (4, .int (nI i))] → W p l e room_1 s m #[Value.ref b] below meth c H locs (cells + 54) (slots + 2578) Q (F0 m 1439 ls [])) : W p l e room_1 s m #[Value.ref b] below meth c H locs cells slots Q (F0 m 196 ls []) := by
  obtain ⟨hx, hb, hml, hown, hts, hE, hz, hlt, hX, hbl, hbA, hL⟩ := X
  obtain ⟨k, r, P, R, hwc, hwr, hsim⟩ := z_act hZ
  refine lv_aload_n hx hb dL_law_196 rfl (lv_at hl 1 rfl) ?_
  refine lv_aload_n hx hb dL_law_197 rfl (lv_at hl 3 rfl) ?_
  refine k_SW (rest := []) (As := [.ref (ad 0 0), .ref (ad 31 0)]) ⟨hx, hb, hml, hown, hts⟩ hE hz hS hW (mtL_act l hlt z G ad σ ν ρ lo k r P hwc) (vx_cwSW 2 hts gL_law_L_act rfl rfl rfl (by decide +kernel) ⟨Nat.le_of_ble_eq_true rfl, Nat.le_of_ble_eq_true rfl⟩) rfl hl.1 rfl (Nat.le_of_ble_eq_true rfl) dL_law_198 ⟨by show cells + 1 ≤ 601024; omega, by show slots + 6 ≤ 7293034; omega⟩ (fun k9 S9 ad9 H locs hp hW hS => ?_)
  obtain ⟨ek, t9, u9, lo9, e9, hXt, hlo, hP⟩ := hp
  dsimp only at e9 hXt
  subst e9
  have hl : lv_has ls 7 [(0, .ref b), (1, .ref (ad9 0 0)), (2, .ref (ad9 30 0)), (3, .ref (ad9 31 0)), (4, .int (nI i))] := by rw [(hXt 0 0 (by decide) rfl).2, (hXt 30 0 (by decide) rfl).2, (hXt 31 0 (by decide) rfl).2]; exact hl
  refine lv_istore (lv' := [(5, .int k9), (0, .ref b), (1, .ref (ad9 0 0)), (2, .ref (ad9 30 0)), (3, .ref (ad9 31 0)), (4, .int (nI i))]) hx hb dL_law_201 hl (by decide) rfl (fun ls hl => ?_)
  refine lv_aload_n hx hb dL_law_203 rfl (lv_at hl 3 rfl) ?_
  refine k_Vi (rest := []) (As := []) ⟨hx, hb, hml, hown, hts⟩ hE hz hS hW (mtX7_act l z G ad9 t9 u9 ρ lo9 _ hwr) (cwV 0 hts gL_law_X7_act rfl rfl rfl (by decide +kernel) ⟨Nat.le_of_ble_eq_true rfl, Nat.le_of_ble_eq_true rfl⟩) (r_recv hE hW 30 0 rfl (C := RX7) (ci := 10) rfl rfl) rfl hl.1 rfl (Nat.le_of_ble_eq_true rfl) dL_law_204 ⟨by show (cells + 1) + 0 ≤ 601024; omega, by show (slots + 6) + 0 ≤ 7293034; omega⟩ (fun b9 S9 H locs hp hW hS => ?_)
  obtain ⟨ρ9, rfl, hq1, hq2, hR⟩ := hp
  refine lv_istore (lv' := [(6, .int b9), (5, .int k9), (0, .ref b), (1, .ref (ad9 0 0)), (2, .ref (ad9 30 0)), (3, .ref (ad9 31 0)), (4, .int (nI i))]) hx hb dL_law_207 hl (by decide) rfl (fun ls hl => ?_)
  refine lv_aload_n hx hb dL_law_209 rfl (lv_at hl 4 rfl) ?_
  refine k_Vi (rest := []) (As := []) ⟨hx, hb, hml, hown, hts⟩ hE hz hS hW (mtX7_thrown l z G ad9 t9 u9 ρ9 lo9 (fun r9 => r9 = ρ9 48 0) (by unfold wpX7_thrown; exact rfl)) (cwV 0 hts gL_law_X7_thrown rfl rfl rfl (by decide +kernel) ⟨Nat.le_of_ble_eq_true rfl, Nat.le_of_ble_eq_true rfl⟩) (r_recv hE hW 30 0 rfl (C := RX7) (ci := 10) rfl rfl) rfl hl.1 rfl (Nat.le_of_ble_eq_true rfl) dL_law_210 ⟨by show (cells + 1) + 0 ≤ 601024; omega, by show (slots + 6) + 0 ≤ 7293034; omega⟩ (fun c9 S9 H locs hp hW hS => ?_)
  obtain ⟨rfl, rfl⟩ := hp
  refine lv_iload hx hb dL_law_213 (lv_at hl 1 rfl) ?_
  refine lv_icmp_eq (tgt := 220) hx hb dL_law_215 (by decide) (fun c8 => ?_) (fun c8 => absurd (hq1.trans ek.symm) c8)
  have hZ9 : ∃ n np : Nat, SIM t9 u9 ρ9 n np := hsim _ _ _ hP hR
  obtain ⟨n9, np9, hZ9⟩ := hZ9
  have hG : W p l e room_1 s m #[Value.ref b] below meth c H locs (cells + 1) (slots + 6) Q (F0 m 237 ls []) := by
    refine lv_goto (tgt := 1439) hx hb dL_law_237 (by decide) ?_
    refine W.widen (k := cells + 54) (n := slots + 2578) (by omega) (by omega) ?_
    exact kk t9 u9 ρ9 lo9 ad9 n9 np9 H locs ls hW hS hZ9 (lv_sub hl [2, 3, 4, 5, 6] rfl)
  refine lv_iload hx hb dL_law_220 (lv_at hl 1 rfl) ?_
  refine lv_if_ne (tgt := 237) hx hb dL_law_222 (by decide) (fun c8 => hG) (fun c8 => ?_)
  refine lv_aload_n hx hb dL_law_225 rfl (lv_at hl 5 rfl) ?_
  refine lv_iconst (v := (0 : Int32)) hx hb dL_law_226 (by decide) ?_
  refine r_lald hx hb hE hW (lo := lo9) rfl dL_law_227 ?_
  refine lv_iload hx hb dL_law_228 (lv_at hl 0 rfl) ?_
  refine lv_i2l (v := b9.toInt64) hx hb dL_law_230 rfl ?_
  refine W.lcmp hx hb dL_law_231 ?_
  refine lv_if_eq (tgt := 237) hx hb dL_law_232 (by decide) (fun q => hG) (fun q => absurd ?_ q)
  rw [hlo (ek.symm.trans c8), hq2 (ek.symm.trans c8)]
  exact lcmp_self
set_option maxHeartbeats 2000000 in
set_option maxRecDepth 100000 in
theorem law_c2 {p : Program} {l : Launch} {e : Env} {s : State} {m : MethodId} {below : List Frame} {meth : Method} {c : Code} {b L : Nat} {xs : Nat → Int32} {z : Nat} {G : Gl} (X : LCX p l e s m below meth c b L xs z G) {Q : State → Prop} {σ : SG} {ν : NU} {ρ : RH} {lo : Int64} {ad : Nat → Nat → Nat} {H : Heap} {locs : List Loc} {ls : Array Slot} {cells slots i n np : Nat} (hi : i + 5 ≤ L) (hW : WP z G ad (σ, ν, ρ, lo) H) (hS : va_S (Az z) s.heap H locs) (hZ : SIM σ ν ρ n np) (hl : lv_has ls 7 [(0, .ref b), (1, .ref (ad 0 0)), (2, .ref (ad 30 0)), (3, .ref (ad 31 0)), (4, .int (nI i))]) (hc : cells + 54 ≤ 601024) (hs : slots + 2578 ≤ 7293034)
    (kk : ∀ (σ : SG) (ν : NU) (ρ : RH) (lo : Int64) (ad : Nat → Nat → Nat) (n np : Nat) (H : Heap) (locs : List Loc) (ls : Array Slot), WP z G ad (σ, ν, ρ, lo) H → va_S (Az z) s.heap H locs → SIM σ ν ρ n np → lv_has ls 7 [(0, .ref b), (1, .ref (ad 0 0)), (2, .ref (ad 30 0)), (3, .ref (ad 31 0)), (4, .int (nI i))] → W p l e room_1 s m #[Value.ref b] below meth c H locs (cells + 54) (slots + 2578) Q (F0 m 1439 ls [])) : W p l e room_1 s m #[Value.ref b] below meth c H locs cells slots Q (F0 m 240 ls []) := by
  obtain ⟨hx, hb, hml, hown, hts, hE, hz, hlt, hX, hbl, hbA, hL⟩ := X
  obtain ⟨k, P, R, hwc, hwr, hsim⟩ := z_terms hZ ((xs (nI i + 1).toNatClampNeg)) ((xs (nI i + 2).toNatClampNeg)) ((xs (nI i + 3).toNatClampNeg)) ((xs (nI i + 4).toNatClampNeg))
  refine lv_aload_n hx hb dL_law_240 rfl (lv_at hl 1 rfl) ?_
  refine lv_aload_n hx hb dL_law_241 rfl (lv_at hl 0 rfl) ?_
  refine lv_iload hx hb dL_law_242 (lv_at hl 4 rfl) ?_
  refine lv_iconst (v := (1 : Int32)) hx hb dL_law_244 (by decide) ?_
  refine lv_iadd hx hb dL_law_245 ?_
  refine va_sld hx hb hX hbl hbA hS (in_arg hi hL (j := 1) (by decide)) dL_law_246 ?_
  refine lv_aload_n hx hb dL_law_247 rfl (lv_at hl 0 rfl) ?_
  refine lv_iload hx hb dL_law_248 (lv_at hl 4 rfl) ?_
  refine lv_iconst (v := (2 : Int32)) hx hb dL_law_250 (by decide) ?_
  refine lv_iadd hx hb dL_law_251 ?_
  refine va_sld hx hb hX hbl hbA hS (in_arg hi hL (j := 2) (by decide)) dL_law_252 ?_
  refine lv_aload_n hx hb dL_law_253 rfl (lv_at hl 0 rfl) ?_
  refine lv_iload hx hb dL_law_254 (lv_at hl 4 rfl) ?_
  refine lv_iconst (v := (3 : Int32)) hx hb dL_law_256 (by decide) ?_
  refine lv_iadd hx hb dL_law_257 ?_
  refine va_sld hx hb hX hbl hbA hS (in_arg hi hL (j := 3) (by decide)) dL_law_258 ?_
  refine lv_aload_n hx hb dL_law_259 rfl (lv_at hl 0 rfl) ?_
  refine lv_iload hx hb dL_law_260 (lv_at hl 4 rfl) ?_
  refine lv_iconst (v := (4 : Int32)) hx hb dL_law_262 (by decide) ?_
  refine lv_iadd hx hb dL_law_263 ?_
  refine va_sld hx hb hX hbl hbA hS (in_arg hi hL (j := 4) (by decide)) dL_law_264 ?_
  refine k_SW (rest := []) (As := [.ref (ad 0 0), .int (xs (nI i + 1).toNatClampNeg), .int (xs (nI i + 2).toNatClampNeg), .int (xs (nI i + 3).toNatClampNeg), .int (xs (nI i + 4).toNatClampNeg)]) ⟨hx, hb, hml, hown, hts⟩ hE hz hS hW (mtL_terms l hlt z G ad σ ν ρ lo ((xs (nI i + 1).toNatClampNeg)) ((xs (nI i + 2).toNatClampNeg)) ((xs (nI i + 3).toNatClampNeg)) ((xs (nI i + 4).toNatClampNeg)) k P hwc) (vx_cwSW 5 hts gL_law_L_terms rfl rfl rfl (by decide +kernel) ⟨Nat.le_of_ble_eq_true rfl, Nat.le_of_ble_eq_true rfl⟩) rfl hl.1 rfl (Nat.le_of_ble_eq_true rfl) dL_law_265 ⟨by show cells + 4 ≤ 601024; omega, by show slots + 22 ≤ 7293034; omega⟩ (fun k9 S9 ad9 H locs hp hW hS => ?_)
  obtain ⟨ek, t9, u9, lo9, e9, hXt, hP⟩ := hp
  dsimp only at e9 hXt
  subst e9
  have hl : lv_has ls 7 [(0, .ref b), (1, .ref (ad9 0 0)), (2, .ref (ad9 30 0)), (3, .ref (ad9 31 0)), (4, .int (nI i))] := by rw [(hXt 0 0 (by decide) rfl).2, (hXt 30 0 (by decide) rfl).2, (hXt 31 0 (by decide) rfl).2]; exact hl
  refine lv_istore (lv' := [(5, .int k9), (0, .ref b), (1, .ref (ad9 0 0)), (2, .ref (ad9 30 0)), (3, .ref (ad9 31 0)), (4, .int (nI i))]) hx hb dL_law_268 hl (by decide) rfl (fun ls hl => ?_)
  refine lv_aload_n hx hb dL_law_270 rfl (lv_at hl 3 rfl) ?_
  refine lv_aload_n hx hb dL_law_271 rfl (lv_at hl 1 rfl) ?_
  refine lv_iload hx hb dL_law_272 (lv_at hl 5 rfl) ?_
  refine lv_iconst (v := (1 : Int32)) hx hb dL_law_274 (by decide) ?_
  refine lv_iadd hx hb dL_law_275 ?_
  refine va_sld hx hb hX hbl hbA hS (in_arg hi hL (j := 1) (by decide)) dL_law_276 ?_
  refine lv_aload_n hx hb dL_law_277 rfl (lv_at hl 1 rfl) ?_
  refine lv_iload hx hb dL_law_278 (lv_at hl 5 rfl) ?_
  refine lv_iconst (v := (2 : Int32)) hx hb dL_law_280 (by decide) ?_
  refine lv_iadd hx hb dL_law_281 ?_
  refine va_sld hx hb hX hbl hbA hS (in_arg hi hL (j := 2) (by decide)) dL_law_282 ?_
  refine lv_aload_n hx hb dL_law_283 rfl (lv_at hl 1 rfl) ?_
  refine lv_iload hx hb dL_law_284 (lv_at hl 5 rfl) ?_
  refine lv_iconst (v := (3 : Int32)) hx hb dL_law_286 (by decide) ?_
  refine lv_iadd hx hb dL_law_287 ?_
  refine va_sld hx hb hX hbl hbA hS (in_arg hi hL (j := 3) (by decide)) dL_law_288 ?_
  refine lv_aload_n hx hb dL_law_289 rfl (lv_at hl 1 rfl) ?_
  refine lv_iload hx hb dL_law_290 (lv_at hl 5 rfl) ?_
  refine lv_iconst (v := (4 : Int32)) hx hb dL_law_292 (by decide) ?_
  refine lv_iadd hx hb dL_law_293 ?_
  refine va_sld hx hb hX hbl hbA hS (in_arg hi hL (j := 4) (by decide)) dL_law_294 ?_
  refine k_Vv (rest := []) (As := [.int (xs (nI i + 1).toNatClampNeg), .int (xs (nI i + 2).toNatClampNeg), .int (xs (nI i + 3).toNatClampNeg), .int (xs (nI i + 4).toNatClampNeg)]) ⟨hx, hb, hml, hown, hts⟩ hE hz hS hW (mtX7_terms l z G ad9 t9 u9 ρ lo9 ((xs (nI i + 1).toNatClampNeg)) ((xs (nI i + 2).toNatClampNeg)) ((xs (nI i + 3).toNatClampNeg)) ((xs (nI i + 4).toNatClampNeg)) _ hwr) (cwV 4 hts gL_law_X7_terms rfl rfl rfl (by decide +kernel) ⟨Nat.le_of_ble_eq_true rfl, Nat.le_of_ble_eq_true rfl⟩) (r_recv hE hW 30 0 rfl (C := RX7) (ci := 10) rfl rfl) rfl hl.1 rfl (Nat.le_of_ble_eq_true rfl) dL_law_295 ⟨by show (cells + 4) + 0 ≤ 601024; omega, by show (slots + 22) + 0 ≤ 7293034; omega⟩ (fun S9 H locs hp hW hS => ?_)
  obtain ⟨ρ9, rfl, hq1, hR⟩ := hp
  refine lv_aload_n hx hb dL_law_298 rfl (lv_at hl 3 rfl) ?_
  refine k_Vi (rest := []) (As := []) ⟨hx, hb, hml, hown, hts⟩ hE hz hS hW (mtX7_thrown l z G ad9 t9 u9 ρ9 lo9 (fun r9 => r9 = ρ9 48 0) (by unfold wpX7_thrown; exact rfl)) (cwV 0 hts gL_law_X7_thrown rfl rfl rfl (by decide +kernel) ⟨Nat.le_of_ble_eq_true rfl, Nat.le_of_ble_eq_true rfl⟩) (r_recv hE hW 30 0 rfl (C := RX7) (ci := 10) rfl rfl) rfl hl.1 rfl (Nat.le_of_ble_eq_true rfl) dL_law_299 ⟨by show (cells + 4) + 0 ≤ 601024; omega, by show (slots + 22) + 0 ≤ 7293034; omega⟩ (fun c9 S9 H locs hp hW hS => ?_)
  obtain ⟨rfl, rfl⟩ := hp
  refine lv_iload hx hb dL_law_302 (lv_at hl 0 rfl) ?_
  refine lv_icmp_eq (tgt := 309) hx hb dL_law_304 (by decide) (fun c8 => ?_) (fun c8 => absurd (hq1.trans ek.symm) c8)
  have hZ9 : ∃ n np : Nat, SIM t9 u9 ρ9 n np := hsim _ _ _ hP hR
  obtain ⟨n9, np9, hZ9⟩ := hZ9
  have hG : W p l e room_1 s m #[Value.ref b] below meth c H locs (cells + 4) (slots + 22) Q (F0 m 309 ls []) := by
    refine lv_goto (tgt := 1439) hx hb dL_law_309 (by decide) ?_
    refine W.widen (k := cells + 54) (n := slots + 2578) (by omega) (by omega) ?_
    exact kk t9 u9 ρ9 lo9 ad9 n9 np9 H locs ls hW hS hZ9 (lv_sub hl [1, 2, 3, 4, 5] rfl)
  exact hG
set_option maxHeartbeats 2000000 in
set_option maxRecDepth 100000 in
theorem law_c3 {p : Program} {l : Launch} {e : Env} {s : State} {m : MethodId} {below : List Frame} {meth : Method} {c : Code} {b L : Nat} {xs : Nat → Int32} {z : Nat} {G : Gl} (X : LCX p l e s m below meth c b L xs z G) {Q : State → Prop} {σ : SG} {ν : NU} {ρ : RH} {lo : Int64} {ad : Nat → Nat → Nat} {H : Heap} {locs : List Loc} {ls : Array Slot} {cells slots i n np : Nat} (hi : i + 5 ≤ L) (hW : WP z G ad (σ, ν, ρ, lo) H) (hS : va_S (Az z) s.heap H locs) (hZ : SIM σ ν ρ n np) (hl : lv_has ls 7 [(0, .ref b), (1, .ref (ad 0 0)), (2, .ref (ad 30 0)), (3, .ref (ad 31 0)), (4, .int (nI i))]) (hc : cells + 54 ≤ 601024) (hs : slots + 2578 ≤ 7293034)
    (kk : ∀ (σ : SG) (ν : NU) (ρ : RH) (lo : Int64) (ad : Nat → Nat → Nat) (n np : Nat) (H : Heap) (locs : List Loc) (ls : Array Slot), WP z G ad (σ, ν, ρ, lo) H → va_S (Az z) s.heap H locs → SIM σ ν ρ n np → lv_has ls 7 [(0, .ref b), (1, .ref (ad 0 0)), (2, .ref (ad 30 0)), (3, .ref (ad 31 0)), (4, .int (nI i))] → W p l e room_1 s m #[Value.ref b] below meth c H locs (cells + 54) (slots + 2578) Q (F0 m 1439 ls [])) : W p l e room_1 s m #[Value.ref b] below meth c H locs cells slots Q (F0 m 312 ls []) := by
  obtain ⟨hx, hb, hml, hown, hts, hE, hz, hlt, hX, hbl, hbA, hL⟩ := X
  obtain ⟨k, r, P, R, hwc, hwr, hsim⟩ := z_word hZ ((xs (nI i + 1).toNatClampNeg)) ((if (xs (nI i + 2).toNatClampNeg) = 0 then 0 else 1))
  refine lv_aload_n hx hb dL_law_312 rfl (lv_at hl 1 rfl) ?_
  refine lv_aload_n hx hb dL_law_313 rfl (lv_at hl 0 rfl) ?_
  refine lv_iload hx hb dL_law_314 (lv_at hl 4 rfl) ?_
  refine lv_iconst (v := (1 : Int32)) hx hb dL_law_316 (by decide) ?_
  refine lv_iadd hx hb dL_law_317 ?_
  refine va_sld hx hb hX hbl hbA hS (in_arg hi hL (j := 1) (by decide)) dL_law_318 ?_
  refine lv_aload_n hx hb dL_law_319 rfl (lv_at hl 0 rfl) ?_
  refine lv_iload hx hb dL_law_320 (lv_at hl 4 rfl) ?_
  refine lv_iconst (v := (2 : Int32)) hx hb dL_law_322 (by decide) ?_
  refine lv_iadd hx hb dL_law_323 ?_
  refine va_sld hx hb hX hbl hbA hS (in_arg hi hL (j := 2) (by decide)) dL_law_324 ?_
  refine r_bool (t1 := 329) (t2 := 332) (t3 := 333) hx hb dL_law_325 (by decide) dL_law_328 rfl dL_law_329 (by decide) dL_law_332 rfl ?_
  refine lv_aload_n hx hb dL_law_333 rfl (lv_at hl 3 rfl) ?_
  refine k_SW (rest := []) (As := [.ref (ad 0 0), .int (xs (nI i + 1).toNatClampNeg), .int (if (xs (nI i + 2).toNatClampNeg) = 0 then 0 else 1), .ref (ad 31 0)]) ⟨hx, hb, hml, hown, hts⟩ hE hz hS hW (mtL_word l hlt z G ad σ ν ρ lo ((xs (nI i + 1).toNatClampNeg)) ((if (xs (nI i + 2).toNatClampNeg) = 0 then 0 else 1)) k r P hwc) (vx_cwSW 4 hts gL_law_L_word rfl rfl rfl (by decide +kernel) ⟨Nat.le_of_ble_eq_true rfl, Nat.le_of_ble_eq_true rfl⟩) rfl hl.1 rfl (Nat.le_of_ble_eq_true rfl) dL_law_334 ⟨by show cells + 1 ≤ 601024; omega, by show slots + 6 ≤ 7293034; omega⟩ (fun k9 S9 ad9 H locs hp hW hS => ?_)
  obtain ⟨ek, t9, u9, lo9, e9, hXt, hlo, hP⟩ := hp
  dsimp only at e9 hXt
  subst e9
  have hl : lv_has ls 7 [(0, .ref b), (1, .ref (ad9 0 0)), (2, .ref (ad9 30 0)), (3, .ref (ad9 31 0)), (4, .int (nI i))] := by rw [(hXt 0 0 (by decide) rfl).2, (hXt 30 0 (by decide) rfl).2, (hXt 31 0 (by decide) rfl).2]; exact hl
  refine lv_istore (lv' := [(5, .int k9), (0, .ref b), (1, .ref (ad9 0 0)), (2, .ref (ad9 30 0)), (3, .ref (ad9 31 0)), (4, .int (nI i))]) hx hb dL_law_337 hl (by decide) rfl (fun ls hl => ?_)
  refine lv_aload_n hx hb dL_law_339 rfl (lv_at hl 3 rfl) ?_
  refine lv_aload_n hx hb dL_law_340 rfl (lv_at hl 1 rfl) ?_
  refine lv_iload hx hb dL_law_341 (lv_at hl 5 rfl) ?_
  refine lv_iconst (v := (1 : Int32)) hx hb dL_law_343 (by decide) ?_
  refine lv_iadd hx hb dL_law_344 ?_
  refine va_sld hx hb hX hbl hbA hS (in_arg hi hL (j := 1) (by decide)) dL_law_345 ?_
  refine lv_aload_n hx hb dL_law_346 rfl (lv_at hl 1 rfl) ?_
  refine lv_iload hx hb dL_law_347 (lv_at hl 5 rfl) ?_
  refine lv_iconst (v := (2 : Int32)) hx hb dL_law_349 (by decide) ?_
  refine lv_iadd hx hb dL_law_350 ?_
  refine va_sld hx hb hX hbl hbA hS (in_arg hi hL (j := 2) (by decide)) dL_law_351 ?_
  refine r_bool (t1 := 356) (t2 := 359) (t3 := 360) hx hb dL_law_352 (by decide) dL_law_355 rfl dL_law_356 (by decide) dL_law_359 rfl ?_
  refine k_Vi (rest := []) (As := [.int (xs (nI i + 1).toNatClampNeg), .int (if (xs (nI i + 2).toNatClampNeg) = 0 then 0 else 1)]) ⟨hx, hb, hml, hown, hts⟩ hE hz hS hW (mtX7_word l z G ad9 t9 u9 ρ lo9 ((xs (nI i + 1).toNatClampNeg)) ((if (xs (nI i + 2).toNatClampNeg) = 0 then 0 else 1)) _ hwr) (cwV 2 hts gL_law_X7_word rfl rfl rfl (by decide +kernel) ⟨Nat.le_of_ble_eq_true rfl, Nat.le_of_ble_eq_true rfl⟩) (r_recv hE hW 30 0 rfl (C := RX7) (ci := 10) rfl rfl) rfl hl.1 rfl (Nat.le_of_ble_eq_true rfl) dL_law_360 ⟨by show (cells + 1) + 0 ≤ 601024; omega, by show (slots + 6) + 0 ≤ 7293034; omega⟩ (fun b9 S9 H locs hp hW hS => ?_)
  obtain ⟨ρ9, rfl, hq1, hq2, hR⟩ := hp
  refine lv_istore (lv' := [(6, .int b9), (5, .int k9), (0, .ref b), (1, .ref (ad9 0 0)), (2, .ref (ad9 30 0)), (3, .ref (ad9 31 0)), (4, .int (nI i))]) hx hb dL_law_363 hl (by decide) rfl (fun ls hl => ?_)
  refine lv_aload_n hx hb dL_law_365 rfl (lv_at hl 4 rfl) ?_
  refine k_Vi (rest := []) (As := []) ⟨hx, hb, hml, hown, hts⟩ hE hz hS hW (mtX7_thrown l z G ad9 t9 u9 ρ9 lo9 (fun r9 => r9 = ρ9 48 0) (by unfold wpX7_thrown; exact rfl)) (cwV 0 hts gL_law_X7_thrown rfl rfl rfl (by decide +kernel) ⟨Nat.le_of_ble_eq_true rfl, Nat.le_of_ble_eq_true rfl⟩) (r_recv hE hW 30 0 rfl (C := RX7) (ci := 10) rfl rfl) rfl hl.1 rfl (Nat.le_of_ble_eq_true rfl) dL_law_366 ⟨by show (cells + 1) + 0 ≤ 601024; omega, by show (slots + 6) + 0 ≤ 7293034; omega⟩ (fun c9 S9 H locs hp hW hS => ?_)
  obtain ⟨rfl, rfl⟩ := hp
  refine lv_iload hx hb dL_law_369 (lv_at hl 1 rfl) ?_
  refine lv_icmp_eq (tgt := 376) hx hb dL_law_371 (by decide) (fun c8 => ?_) (fun c8 => absurd (hq1.trans ek.symm) c8)
  have hZ9 : ∃ n np : Nat, SIM t9 u9 ρ9 n np := hsim _ _ _ hP hR
  obtain ⟨n9, np9, hZ9⟩ := hZ9
  have hG : W p l e room_1 s m #[Value.ref b] below meth c H locs (cells + 1) (slots + 6) Q (F0 m 393 ls []) := by
    refine lv_goto (tgt := 1439) hx hb dL_law_393 (by decide) ?_
    refine W.widen (k := cells + 54) (n := slots + 2578) (by omega) (by omega) ?_
    exact kk t9 u9 ρ9 lo9 ad9 n9 np9 H locs ls hW hS hZ9 (lv_sub hl [2, 3, 4, 5, 6] rfl)
  refine lv_iload hx hb dL_law_376 (lv_at hl 1 rfl) ?_
  refine lv_if_ne (tgt := 393) hx hb dL_law_378 (by decide) (fun c8 => hG) (fun c8 => ?_)
  refine lv_aload_n hx hb dL_law_381 rfl (lv_at hl 5 rfl) ?_
  refine lv_iconst (v := (0 : Int32)) hx hb dL_law_382 (by decide) ?_
  refine r_lald hx hb hE hW (lo := lo9) rfl dL_law_383 ?_
  refine lv_iload hx hb dL_law_384 (lv_at hl 0 rfl) ?_
  refine lv_i2l (v := b9.toInt64) hx hb dL_law_386 rfl ?_
  refine W.lcmp hx hb dL_law_387 ?_
  refine lv_if_eq (tgt := 393) hx hb dL_law_388 (by decide) (fun q => hG) (fun q => absurd ?_ q)
  rw [hlo (ek.symm.trans c8), hq2 (ek.symm.trans c8)]
  exact lcmp_self
set_option maxHeartbeats 2000000 in
set_option maxRecDepth 100000 in
theorem law_c4 {p : Program} {l : Launch} {e : Env} {s : State} {m : MethodId} {below : List Frame} {meth : Method} {c : Code} {b L : Nat} {xs : Nat → Int32} {z : Nat} {G : Gl} (X : LCX p l e s m below meth c b L xs z G) {Q : State → Prop} {σ : SG} {ν : NU} {ρ : RH} {lo : Int64} {ad : Nat → Nat → Nat} {H : Heap} {locs : List Loc} {ls : Array Slot} {cells slots i n np : Nat} (hi : i + 5 ≤ L) (hW : WP z G ad (σ, ν, ρ, lo) H) (hS : va_S (Az z) s.heap H locs) (hZ : SIM σ ν ρ n np) (hl : lv_has ls 7 [(0, .ref b), (1, .ref (ad 0 0)), (2, .ref (ad 30 0)), (3, .ref (ad 31 0)), (4, .int (nI i))]) (hc : cells + 54 ≤ 601024) (hs : slots + 2578 ≤ 7293034)
    (kk : ∀ (σ : SG) (ν : NU) (ρ : RH) (lo : Int64) (ad : Nat → Nat → Nat) (n np : Nat) (H : Heap) (locs : List Loc) (ls : Array Slot), WP z G ad (σ, ν, ρ, lo) H → va_S (Az z) s.heap H locs → SIM σ ν ρ n np → lv_has ls 7 [(0, .ref b), (1, .ref (ad 0 0)), (2, .ref (ad 30 0)), (3, .ref (ad 31 0)), (4, .int (nI i))] → W p l e room_1 s m #[Value.ref b] below meth c H locs (cells + 54) (slots + 2578) Q (F0 m 1439 ls [])) : W p l e room_1 s m #[Value.ref b] below meth c H locs cells slots Q (F0 m 396 ls []) := by
  obtain ⟨hx, hb, hml, hown, hts, hE, hz, hlt, hX, hbl, hbA, hL⟩ := X
  obtain ⟨k, r, P, R, hwc, hwr, hsim⟩ := z_enact hZ ((xs (nI i + 1).toNatClampNeg)) ((xs (nI i + 2).toNatClampNeg)) ((xs (nI i + 3).toNatClampNeg))
  refine lv_aload_n hx hb dL_law_396 rfl (lv_at hl 1 rfl) ?_
  refine lv_aload_n hx hb dL_law_397 rfl (lv_at hl 0 rfl) ?_
  refine lv_iload hx hb dL_law_398 (lv_at hl 4 rfl) ?_
  refine lv_iconst (v := (1 : Int32)) hx hb dL_law_400 (by decide) ?_
  refine lv_iadd hx hb dL_law_401 ?_
  refine va_sld hx hb hX hbl hbA hS (in_arg hi hL (j := 1) (by decide)) dL_law_402 ?_
  refine lv_aload_n hx hb dL_law_403 rfl (lv_at hl 0 rfl) ?_
  refine lv_iload hx hb dL_law_404 (lv_at hl 4 rfl) ?_
  refine lv_iconst (v := (2 : Int32)) hx hb dL_law_406 (by decide) ?_
  refine lv_iadd hx hb dL_law_407 ?_
  refine va_sld hx hb hX hbl hbA hS (in_arg hi hL (j := 2) (by decide)) dL_law_408 ?_
  refine lv_aload_n hx hb dL_law_409 rfl (lv_at hl 0 rfl) ?_
  refine lv_iload hx hb dL_law_410 (lv_at hl 4 rfl) ?_
  refine lv_iconst (v := (3 : Int32)) hx hb dL_law_412 (by decide) ?_
  refine lv_iadd hx hb dL_law_413 ?_
  refine va_sld hx hb hX hbl hbA hS (in_arg hi hL (j := 3) (by decide)) dL_law_414 ?_
  refine lv_aload_n hx hb dL_law_415 rfl (lv_at hl 3 rfl) ?_
  refine k_SW (rest := []) (As := [.ref (ad 0 0), .int (xs (nI i + 1).toNatClampNeg), .int (xs (nI i + 2).toNatClampNeg), .int (xs (nI i + 3).toNatClampNeg), .ref (ad 31 0)]) ⟨hx, hb, hml, hown, hts⟩ hE hz hS hW (mtL_enact l hlt z G ad σ ν ρ lo ((xs (nI i + 1).toNatClampNeg)) ((xs (nI i + 2).toNatClampNeg)) ((xs (nI i + 3).toNatClampNeg)) k r P hwc) (vx_cwSW 5 hts gL_law_L_enact rfl rfl rfl (by decide +kernel) ⟨Nat.le_of_ble_eq_true rfl, Nat.le_of_ble_eq_true rfl⟩) rfl hl.1 rfl (Nat.le_of_ble_eq_true rfl) dL_law_416 ⟨by show cells + 53 ≤ 601024; omega, by show slots + 2572 ≤ 7293034; omega⟩ (fun k9 S9 ad9 H locs hp hW hS => ?_)
  obtain ⟨ek, t9, u9, lo9, e9, hXt, hlo, hP⟩ := hp
  dsimp only at e9 hXt
  subst e9
  have hl : lv_has ls 7 [(0, .ref b), (1, .ref (ad9 0 0)), (2, .ref (ad9 30 0)), (3, .ref (ad9 31 0)), (4, .int (nI i))] := by rw [(hXt 0 0 (by decide) rfl).2, (hXt 30 0 (by decide) rfl).2, (hXt 31 0 (by decide) rfl).2]; exact hl
  refine lv_istore (lv' := [(5, .int k9), (0, .ref b), (1, .ref (ad9 0 0)), (2, .ref (ad9 30 0)), (3, .ref (ad9 31 0)), (4, .int (nI i))]) hx hb dL_law_419 hl (by decide) rfl (fun ls hl => ?_)
  refine lv_aload_n hx hb dL_law_421 rfl (lv_at hl 3 rfl) ?_
  refine lv_aload_n hx hb dL_law_422 rfl (lv_at hl 1 rfl) ?_
  refine lv_iload hx hb dL_law_423 (lv_at hl 5 rfl) ?_
  refine lv_iconst (v := (1 : Int32)) hx hb dL_law_425 (by decide) ?_
  refine lv_iadd hx hb dL_law_426 ?_
  refine va_sld hx hb hX hbl hbA hS (in_arg hi hL (j := 1) (by decide)) dL_law_427 ?_
  refine lv_aload_n hx hb dL_law_428 rfl (lv_at hl 1 rfl) ?_
  refine lv_iload hx hb dL_law_429 (lv_at hl 5 rfl) ?_
  refine lv_iconst (v := (2 : Int32)) hx hb dL_law_431 (by decide) ?_
  refine lv_iadd hx hb dL_law_432 ?_
  refine va_sld hx hb hX hbl hbA hS (in_arg hi hL (j := 2) (by decide)) dL_law_433 ?_
  refine lv_aload_n hx hb dL_law_434 rfl (lv_at hl 1 rfl) ?_
  refine lv_iload hx hb dL_law_435 (lv_at hl 5 rfl) ?_
  refine lv_iconst (v := (3 : Int32)) hx hb dL_law_437 (by decide) ?_
  refine lv_iadd hx hb dL_law_438 ?_
  refine va_sld hx hb hX hbl hbA hS (in_arg hi hL (j := 3) (by decide)) dL_law_439 ?_
  refine k_Vi (rest := []) (As := [.int (xs (nI i + 1).toNatClampNeg), .int (xs (nI i + 2).toNatClampNeg), .int (xs (nI i + 3).toNatClampNeg)]) ⟨hx, hb, hml, hown, hts⟩ hE hz hS hW (mtX7_enact l z G ad9 t9 u9 ρ lo9 ((xs (nI i + 1).toNatClampNeg)) ((xs (nI i + 2).toNatClampNeg)) ((xs (nI i + 3).toNatClampNeg)) _ hwr) (cwV 3 hts gL_law_X7_enact rfl rfl rfl (by decide +kernel) ⟨Nat.le_of_ble_eq_true rfl, Nat.le_of_ble_eq_true rfl⟩) (r_recv hE hW 30 0 rfl (C := RX7) (ci := 10) rfl rfl) rfl hl.1 rfl (Nat.le_of_ble_eq_true rfl) dL_law_440 ⟨by show (cells + 53) + 0 ≤ 601024; omega, by show (slots + 2572) + 0 ≤ 7293034; omega⟩ (fun b9 S9 H locs hp hW hS => ?_)
  obtain ⟨ρ9, rfl, hq1, hq2, hR⟩ := hp
  refine lv_istore (lv' := [(6, .int b9), (5, .int k9), (0, .ref b), (1, .ref (ad9 0 0)), (2, .ref (ad9 30 0)), (3, .ref (ad9 31 0)), (4, .int (nI i))]) hx hb dL_law_443 hl (by decide) rfl (fun ls hl => ?_)
  refine lv_aload_n hx hb dL_law_445 rfl (lv_at hl 4 rfl) ?_
  refine k_Vi (rest := []) (As := []) ⟨hx, hb, hml, hown, hts⟩ hE hz hS hW (mtX7_thrown l z G ad9 t9 u9 ρ9 lo9 (fun r9 => r9 = ρ9 48 0) (by unfold wpX7_thrown; exact rfl)) (cwV 0 hts gL_law_X7_thrown rfl rfl rfl (by decide +kernel) ⟨Nat.le_of_ble_eq_true rfl, Nat.le_of_ble_eq_true rfl⟩) (r_recv hE hW 30 0 rfl (C := RX7) (ci := 10) rfl rfl) rfl hl.1 rfl (Nat.le_of_ble_eq_true rfl) dL_law_446 ⟨by show (cells + 53) + 0 ≤ 601024; omega, by show (slots + 2572) + 0 ≤ 7293034; omega⟩ (fun c9 S9 H locs hp hW hS => ?_)
  obtain ⟨rfl, rfl⟩ := hp
  refine lv_iload hx hb dL_law_449 (lv_at hl 1 rfl) ?_
  refine lv_icmp_eq (tgt := 456) hx hb dL_law_451 (by decide) (fun c8 => ?_) (fun c8 => absurd (hq1.trans ek.symm) c8)
  have hZ9 : ∃ n np : Nat, SIM t9 u9 ρ9 n np := hsim _ _ _ hP hR
  obtain ⟨n9, np9, hZ9⟩ := hZ9
  have hG : W p l e room_1 s m #[Value.ref b] below meth c H locs (cells + 53) (slots + 2572) Q (F0 m 473 ls []) := by
    refine lv_goto (tgt := 1439) hx hb dL_law_473 (by decide) ?_
    refine W.widen (k := cells + 54) (n := slots + 2578) (by omega) (by omega) ?_
    exact kk t9 u9 ρ9 lo9 ad9 n9 np9 H locs ls hW hS hZ9 (lv_sub hl [2, 3, 4, 5, 6] rfl)
  refine lv_iload hx hb dL_law_456 (lv_at hl 1 rfl) ?_
  refine lv_if_ne (tgt := 473) hx hb dL_law_458 (by decide) (fun c8 => hG) (fun c8 => ?_)
  refine lv_aload_n hx hb dL_law_461 rfl (lv_at hl 5 rfl) ?_
  refine lv_iconst (v := (0 : Int32)) hx hb dL_law_462 (by decide) ?_
  refine r_lald hx hb hE hW (lo := lo9) rfl dL_law_463 ?_
  refine lv_iload hx hb dL_law_464 (lv_at hl 0 rfl) ?_
  refine lv_i2l (v := b9.toInt64) hx hb dL_law_466 rfl ?_
  refine W.lcmp hx hb dL_law_467 ?_
  refine lv_if_eq (tgt := 473) hx hb dL_law_468 (by decide) (fun q => hG) (fun q => absurd ?_ q)
  rw [hlo (ek.symm.trans c8), hq2 (ek.symm.trans c8)]
  exact lcmp_self
set_option maxHeartbeats 2000000 in
set_option maxRecDepth 100000 in
theorem law_c5 {p : Program} {l : Launch} {e : Env} {s : State} {m : MethodId} {below : List Frame} {meth : Method} {c : Code} {b L : Nat} {xs : Nat → Int32} {z : Nat} {G : Gl} (X : LCX p l e s m below meth c b L xs z G) {Q : State → Prop} {σ : SG} {ν : NU} {ρ : RH} {lo : Int64} {ad : Nat → Nat → Nat} {H : Heap} {locs : List Loc} {ls : Array Slot} {cells slots i n np : Nat} (hi : i + 5 ≤ L) (hW : WP z G ad (σ, ν, ρ, lo) H) (hS : va_S (Az z) s.heap H locs) (hZ : SIM σ ν ρ n np) (hl : lv_has ls 7 [(0, .ref b), (1, .ref (ad 0 0)), (2, .ref (ad 30 0)), (3, .ref (ad 31 0)), (4, .int (nI i))]) (hc : cells + 54 ≤ 601024) (hs : slots + 2578 ≤ 7293034)
    (kk : ∀ (σ : SG) (ν : NU) (ρ : RH) (lo : Int64) (ad : Nat → Nat → Nat) (n np : Nat) (H : Heap) (locs : List Loc) (ls : Array Slot), WP z G ad (σ, ν, ρ, lo) H → va_S (Az z) s.heap H locs → SIM σ ν ρ n np → lv_has ls 7 [(0, .ref b), (1, .ref (ad 0 0)), (2, .ref (ad 30 0)), (3, .ref (ad 31 0)), (4, .int (nI i))] → W p l e room_1 s m #[Value.ref b] below meth c H locs (cells + 54) (slots + 2578) Q (F0 m 1439 ls [])) : W p l e room_1 s m #[Value.ref b] below meth c H locs cells slots Q (F0 m 476 ls []) := by
  obtain ⟨hx, hb, hml, hown, hts, hE, hz, hlt, hX, hbl, hbA, hL⟩ := X
  obtain ⟨k, r, P, R, hwc, hwr, hsim⟩ := z_instruct hZ ((xs (nI i + 1).toNatClampNeg)) ((xs (nI i + 2).toNatClampNeg)) ((xs (nI i + 3).toNatClampNeg)) ((xs (nI i + 4).toNatClampNeg))
  refine lv_aload_n hx hb dL_law_476 rfl (lv_at hl 1 rfl) ?_
  refine lv_aload_n hx hb dL_law_477 rfl (lv_at hl 0 rfl) ?_
  refine lv_iload hx hb dL_law_478 (lv_at hl 4 rfl) ?_
  refine lv_iconst (v := (1 : Int32)) hx hb dL_law_480 (by decide) ?_
  refine lv_iadd hx hb dL_law_481 ?_
  refine va_sld hx hb hX hbl hbA hS (in_arg hi hL (j := 1) (by decide)) dL_law_482 ?_
  refine lv_aload_n hx hb dL_law_483 rfl (lv_at hl 0 rfl) ?_
  refine lv_iload hx hb dL_law_484 (lv_at hl 4 rfl) ?_
  refine lv_iconst (v := (2 : Int32)) hx hb dL_law_486 (by decide) ?_
  refine lv_iadd hx hb dL_law_487 ?_
  refine va_sld hx hb hX hbl hbA hS (in_arg hi hL (j := 2) (by decide)) dL_law_488 ?_
  refine lv_aload_n hx hb dL_law_489 rfl (lv_at hl 0 rfl) ?_
  refine lv_iload hx hb dL_law_490 (lv_at hl 4 rfl) ?_
  refine lv_iconst (v := (3 : Int32)) hx hb dL_law_492 (by decide) ?_
  refine lv_iadd hx hb dL_law_493 ?_
  refine va_sld hx hb hX hbl hbA hS (in_arg hi hL (j := 3) (by decide)) dL_law_494 ?_
  refine lv_aload_n hx hb dL_law_495 rfl (lv_at hl 0 rfl) ?_
  refine lv_iload hx hb dL_law_496 (lv_at hl 4 rfl) ?_
  refine lv_iconst (v := (4 : Int32)) hx hb dL_law_498 (by decide) ?_
  refine lv_iadd hx hb dL_law_499 ?_
  refine va_sld hx hb hX hbl hbA hS (in_arg hi hL (j := 4) (by decide)) dL_law_500 ?_
  refine lv_aload_n hx hb dL_law_501 rfl (lv_at hl 3 rfl) ?_
  refine k_SW (rest := []) (As := [.ref (ad 0 0), .int (xs (nI i + 1).toNatClampNeg), .int (xs (nI i + 2).toNatClampNeg), .int (xs (nI i + 3).toNatClampNeg), .int (xs (nI i + 4).toNatClampNeg), .ref (ad 31 0)]) ⟨hx, hb, hml, hown, hts⟩ hE hz hS hW (mtL_instruct l hlt z G ad σ ν ρ lo ((xs (nI i + 1).toNatClampNeg)) ((xs (nI i + 2).toNatClampNeg)) ((xs (nI i + 3).toNatClampNeg)) ((xs (nI i + 4).toNatClampNeg)) k r P hwc) (vx_cwSW 6 hts gL_law_L_instruct rfl rfl rfl (by decide +kernel) ⟨Nat.le_of_ble_eq_true rfl, Nat.le_of_ble_eq_true rfl⟩) rfl hl.1 rfl (Nat.le_of_ble_eq_true rfl) dL_law_502 ⟨by show cells + 54 ≤ 601024; omega, by show slots + 2578 ≤ 7293034; omega⟩ (fun k9 S9 ad9 H locs hp hW hS => ?_)
  obtain ⟨ek, t9, u9, lo9, e9, hXt, hlo, hP⟩ := hp
  dsimp only at e9 hXt
  subst e9
  have hl : lv_has ls 7 [(0, .ref b), (1, .ref (ad9 0 0)), (2, .ref (ad9 30 0)), (3, .ref (ad9 31 0)), (4, .int (nI i))] := by rw [(hXt 0 0 (by decide) rfl).2, (hXt 30 0 (by decide) rfl).2, (hXt 31 0 (by decide) rfl).2]; exact hl
  refine lv_istore (lv' := [(5, .int k9), (0, .ref b), (1, .ref (ad9 0 0)), (2, .ref (ad9 30 0)), (3, .ref (ad9 31 0)), (4, .int (nI i))]) hx hb dL_law_505 hl (by decide) rfl (fun ls hl => ?_)
  refine lv_aload_n hx hb dL_law_507 rfl (lv_at hl 3 rfl) ?_
  refine lv_aload_n hx hb dL_law_508 rfl (lv_at hl 1 rfl) ?_
  refine lv_iload hx hb dL_law_509 (lv_at hl 5 rfl) ?_
  refine lv_iconst (v := (1 : Int32)) hx hb dL_law_511 (by decide) ?_
  refine lv_iadd hx hb dL_law_512 ?_
  refine va_sld hx hb hX hbl hbA hS (in_arg hi hL (j := 1) (by decide)) dL_law_513 ?_
  refine lv_aload_n hx hb dL_law_514 rfl (lv_at hl 1 rfl) ?_
  refine lv_iload hx hb dL_law_515 (lv_at hl 5 rfl) ?_
  refine lv_iconst (v := (2 : Int32)) hx hb dL_law_517 (by decide) ?_
  refine lv_iadd hx hb dL_law_518 ?_
  refine va_sld hx hb hX hbl hbA hS (in_arg hi hL (j := 2) (by decide)) dL_law_519 ?_
  refine lv_aload_n hx hb dL_law_520 rfl (lv_at hl 1 rfl) ?_
  refine lv_iload hx hb dL_law_521 (lv_at hl 5 rfl) ?_
  refine lv_iconst (v := (3 : Int32)) hx hb dL_law_523 (by decide) ?_
  refine lv_iadd hx hb dL_law_524 ?_
  refine va_sld hx hb hX hbl hbA hS (in_arg hi hL (j := 3) (by decide)) dL_law_525 ?_
  refine lv_aload_n hx hb dL_law_526 rfl (lv_at hl 1 rfl) ?_
  refine lv_iload hx hb dL_law_527 (lv_at hl 5 rfl) ?_
  refine lv_iconst (v := (4 : Int32)) hx hb dL_law_529 (by decide) ?_
  refine lv_iadd hx hb dL_law_530 ?_
  refine va_sld hx hb hX hbl hbA hS (in_arg hi hL (j := 4) (by decide)) dL_law_531 ?_
  refine k_Vi (rest := []) (As := [.int (xs (nI i + 1).toNatClampNeg), .int (xs (nI i + 2).toNatClampNeg), .int (xs (nI i + 3).toNatClampNeg), .int (xs (nI i + 4).toNatClampNeg)]) ⟨hx, hb, hml, hown, hts⟩ hE hz hS hW (mtX7_instruct l z G ad9 t9 u9 ρ lo9 ((xs (nI i + 1).toNatClampNeg)) ((xs (nI i + 2).toNatClampNeg)) ((xs (nI i + 3).toNatClampNeg)) ((xs (nI i + 4).toNatClampNeg)) _ hwr) (cwV 4 hts gL_law_X7_instruct rfl rfl rfl (by decide +kernel) ⟨Nat.le_of_ble_eq_true rfl, Nat.le_of_ble_eq_true rfl⟩) (r_recv hE hW 30 0 rfl (C := RX7) (ci := 10) rfl rfl) rfl hl.1 rfl (Nat.le_of_ble_eq_true rfl) dL_law_532 ⟨by show (cells + 54) + 0 ≤ 601024; omega, by show (slots + 2578) + 0 ≤ 7293034; omega⟩ (fun b9 S9 H locs hp hW hS => ?_)
  obtain ⟨ρ9, rfl, hq1, hq2, hR⟩ := hp
  refine lv_istore (lv' := [(6, .int b9), (5, .int k9), (0, .ref b), (1, .ref (ad9 0 0)), (2, .ref (ad9 30 0)), (3, .ref (ad9 31 0)), (4, .int (nI i))]) hx hb dL_law_535 hl (by decide) rfl (fun ls hl => ?_)
  refine lv_aload_n hx hb dL_law_537 rfl (lv_at hl 4 rfl) ?_
  refine k_Vi (rest := []) (As := []) ⟨hx, hb, hml, hown, hts⟩ hE hz hS hW (mtX7_thrown l z G ad9 t9 u9 ρ9 lo9 (fun r9 => r9 = ρ9 48 0) (by unfold wpX7_thrown; exact rfl)) (cwV 0 hts gL_law_X7_thrown rfl rfl rfl (by decide +kernel) ⟨Nat.le_of_ble_eq_true rfl, Nat.le_of_ble_eq_true rfl⟩) (r_recv hE hW 30 0 rfl (C := RX7) (ci := 10) rfl rfl) rfl hl.1 rfl (Nat.le_of_ble_eq_true rfl) dL_law_538 ⟨by show (cells + 54) + 0 ≤ 601024; omega, by show (slots + 2578) + 0 ≤ 7293034; omega⟩ (fun c9 S9 H locs hp hW hS => ?_)
  obtain ⟨rfl, rfl⟩ := hp
  refine lv_iload hx hb dL_law_541 (lv_at hl 1 rfl) ?_
  refine lv_icmp_eq (tgt := 548) hx hb dL_law_543 (by decide) (fun c8 => ?_) (fun c8 => absurd (hq1.trans ek.symm) c8)
  have hZ9 : ∃ n np : Nat, SIM t9 u9 ρ9 n np := hsim _ _ _ hP hR
  obtain ⟨n9, np9, hZ9⟩ := hZ9
  have hG : W p l e room_1 s m #[Value.ref b] below meth c H locs (cells + 54) (slots + 2578) Q (F0 m 565 ls []) := by
    refine lv_goto (tgt := 1439) hx hb dL_law_565 (by decide) ?_
    refine W.widen (k := cells + 54) (n := slots + 2578) (by omega) (by omega) ?_
    exact kk t9 u9 ρ9 lo9 ad9 n9 np9 H locs ls hW hS hZ9 (lv_sub hl [2, 3, 4, 5, 6] rfl)
  refine lv_iload hx hb dL_law_548 (lv_at hl 1 rfl) ?_
  refine lv_if_ne (tgt := 565) hx hb dL_law_550 (by decide) (fun c8 => hG) (fun c8 => ?_)
  refine lv_aload_n hx hb dL_law_553 rfl (lv_at hl 5 rfl) ?_
  refine lv_iconst (v := (0 : Int32)) hx hb dL_law_554 (by decide) ?_
  refine r_lald hx hb hE hW (lo := lo9) rfl dL_law_555 ?_
  refine lv_iload hx hb dL_law_556 (lv_at hl 0 rfl) ?_
  refine lv_i2l (v := b9.toInt64) hx hb dL_law_558 rfl ?_
  refine W.lcmp hx hb dL_law_559 ?_
  refine lv_if_eq (tgt := 565) hx hb dL_law_560 (by decide) (fun q => hG) (fun q => absurd ?_ q)
  rw [hlo (ek.symm.trans c8), hq2 (ek.symm.trans c8)]
  exact lcmp_self
set_option maxHeartbeats 2000000 in
set_option maxRecDepth 100000 in
theorem law_c6 {p : Program} {l : Launch} {e : Env} {s : State} {m : MethodId} {below : List Frame} {meth : Method} {c : Code} {b L : Nat} {xs : Nat → Int32} {z : Nat} {G : Gl} (X : LCX p l e s m below meth c b L xs z G) {Q : State → Prop} {σ : SG} {ν : NU} {ρ : RH} {lo : Int64} {ad : Nat → Nat → Nat} {H : Heap} {locs : List Loc} {ls : Array Slot} {cells slots i n np : Nat} (hi : i + 5 ≤ L) (hW : WP z G ad (σ, ν, ρ, lo) H) (hS : va_S (Az z) s.heap H locs) (hZ : SIM σ ν ρ n np) (hl : lv_has ls 7 [(0, .ref b), (1, .ref (ad 0 0)), (2, .ref (ad 30 0)), (3, .ref (ad 31 0)), (4, .int (nI i))]) (hc : cells + 54 ≤ 601024) (hs : slots + 2578 ≤ 7293034)
    (kk : ∀ (σ : SG) (ν : NU) (ρ : RH) (lo : Int64) (ad : Nat → Nat → Nat) (n np : Nat) (H : Heap) (locs : List Loc) (ls : Array Slot), WP z G ad (σ, ν, ρ, lo) H → va_S (Az z) s.heap H locs → SIM σ ν ρ n np → lv_has ls 7 [(0, .ref b), (1, .ref (ad 0 0)), (2, .ref (ad 30 0)), (3, .ref (ad 31 0)), (4, .int (nI i))] → W p l e room_1 s m #[Value.ref b] below meth c H locs (cells + 54) (slots + 2578) Q (F0 m 1439 ls [])) : W p l e room_1 s m #[Value.ref b] below meth c H locs cells slots Q (F0 m 568 ls []) := by
  obtain ⟨hx, hb, hml, hown, hts, hE, hz, hlt, hX, hbl, hbA, hL⟩ := X
  obtain ⟨k, P, R, hwc, hwr, hsim⟩ := z_order hZ ((xs (nI i + 1).toNatClampNeg)) ((xs (nI i + 2).toNatClampNeg))
  refine lv_aload_n hx hb dL_law_568 rfl (lv_at hl 1 rfl) ?_
  refine lv_aload_n hx hb dL_law_569 rfl (lv_at hl 0 rfl) ?_
  refine lv_iload hx hb dL_law_570 (lv_at hl 4 rfl) ?_
  refine lv_iconst (v := (1 : Int32)) hx hb dL_law_572 (by decide) ?_
  refine lv_iadd hx hb dL_law_573 ?_
  refine va_sld hx hb hX hbl hbA hS (in_arg hi hL (j := 1) (by decide)) dL_law_574 ?_
  refine lv_aload_n hx hb dL_law_575 rfl (lv_at hl 0 rfl) ?_
  refine lv_iload hx hb dL_law_576 (lv_at hl 4 rfl) ?_
  refine lv_iconst (v := (2 : Int32)) hx hb dL_law_578 (by decide) ?_
  refine lv_iadd hx hb dL_law_579 ?_
  refine va_sld hx hb hX hbl hbA hS (in_arg hi hL (j := 2) (by decide)) dL_law_580 ?_
  refine k_SW (rest := []) (As := [.ref (ad 0 0), .int (xs (nI i + 1).toNatClampNeg), .int (xs (nI i + 2).toNatClampNeg)]) ⟨hx, hb, hml, hown, hts⟩ hE hz hS hW (mtL_order l hlt z G ad σ ν ρ lo ((xs (nI i + 1).toNatClampNeg)) ((xs (nI i + 2).toNatClampNeg)) k P hwc) (vx_cwSW 3 hts gL_law_L_order rfl rfl rfl (by decide +kernel) ⟨Nat.le_of_ble_eq_true rfl, Nat.le_of_ble_eq_true rfl⟩) rfl hl.1 rfl (Nat.le_of_ble_eq_true rfl) dL_law_581 ⟨by show cells + 43 ≤ 601024; omega, by show slots + 2472 ≤ 7293034; omega⟩ (fun k9 S9 ad9 H locs hp hW hS => ?_)
  obtain ⟨ek, t9, u9, lo9, e9, hXt, hP⟩ := hp
  dsimp only at e9 hXt
  subst e9
  have hl : lv_has ls 7 [(0, .ref b), (1, .ref (ad9 0 0)), (2, .ref (ad9 30 0)), (3, .ref (ad9 31 0)), (4, .int (nI i))] := by rw [(hXt 0 0 (by decide) rfl).2, (hXt 30 0 (by decide) rfl).2, (hXt 31 0 (by decide) rfl).2]; exact hl
  refine lv_istore (lv' := [(5, .int k9), (0, .ref b), (1, .ref (ad9 0 0)), (2, .ref (ad9 30 0)), (3, .ref (ad9 31 0)), (4, .int (nI i))]) hx hb dL_law_584 hl (by decide) rfl (fun ls hl => ?_)
  refine lv_aload_n hx hb dL_law_586 rfl (lv_at hl 3 rfl) ?_
  refine lv_aload_n hx hb dL_law_587 rfl (lv_at hl 1 rfl) ?_
  refine lv_iload hx hb dL_law_588 (lv_at hl 5 rfl) ?_
  refine lv_iconst (v := (1 : Int32)) hx hb dL_law_590 (by decide) ?_
  refine lv_iadd hx hb dL_law_591 ?_
  refine va_sld hx hb hX hbl hbA hS (in_arg hi hL (j := 1) (by decide)) dL_law_592 ?_
  refine lv_aload_n hx hb dL_law_593 rfl (lv_at hl 1 rfl) ?_
  refine lv_iload hx hb dL_law_594 (lv_at hl 5 rfl) ?_
  refine lv_iconst (v := (2 : Int32)) hx hb dL_law_596 (by decide) ?_
  refine lv_iadd hx hb dL_law_597 ?_
  refine va_sld hx hb hX hbl hbA hS (in_arg hi hL (j := 2) (by decide)) dL_law_598 ?_
  refine k_Vv (rest := []) (As := [.int (xs (nI i + 1).toNatClampNeg), .int (xs (nI i + 2).toNatClampNeg)]) ⟨hx, hb, hml, hown, hts⟩ hE hz hS hW (mtX7_order l z G ad9 t9 u9 ρ lo9 ((xs (nI i + 1).toNatClampNeg)) ((xs (nI i + 2).toNatClampNeg)) _ hwr) (cwV 2 hts gL_law_X7_order rfl rfl rfl (by decide +kernel) ⟨Nat.le_of_ble_eq_true rfl, Nat.le_of_ble_eq_true rfl⟩) (r_recv hE hW 30 0 rfl (C := RX7) (ci := 10) rfl rfl) rfl hl.1 rfl (Nat.le_of_ble_eq_true rfl) dL_law_599 ⟨by show (cells + 43) + 0 ≤ 601024; omega, by show (slots + 2472) + 0 ≤ 7293034; omega⟩ (fun S9 H locs hp hW hS => ?_)
  obtain ⟨ρ9, rfl, hq1, hR⟩ := hp
  refine lv_aload_n hx hb dL_law_602 rfl (lv_at hl 3 rfl) ?_
  refine k_Vi (rest := []) (As := []) ⟨hx, hb, hml, hown, hts⟩ hE hz hS hW (mtX7_thrown l z G ad9 t9 u9 ρ9 lo9 (fun r9 => r9 = ρ9 48 0) (by unfold wpX7_thrown; exact rfl)) (cwV 0 hts gL_law_X7_thrown rfl rfl rfl (by decide +kernel) ⟨Nat.le_of_ble_eq_true rfl, Nat.le_of_ble_eq_true rfl⟩) (r_recv hE hW 30 0 rfl (C := RX7) (ci := 10) rfl rfl) rfl hl.1 rfl (Nat.le_of_ble_eq_true rfl) dL_law_603 ⟨by show (cells + 43) + 0 ≤ 601024; omega, by show (slots + 2472) + 0 ≤ 7293034; omega⟩ (fun c9 S9 H locs hp hW hS => ?_)
  obtain ⟨rfl, rfl⟩ := hp
  refine lv_iload hx hb dL_law_606 (lv_at hl 0 rfl) ?_
  refine lv_icmp_eq (tgt := 613) hx hb dL_law_608 (by decide) (fun c8 => ?_) (fun c8 => absurd (hq1.trans ek.symm) c8)
  have hZ9 : ∃ n np : Nat, SIM t9 u9 ρ9 n np := hsim _ _ _ hP hR
  obtain ⟨n9, np9, hZ9⟩ := hZ9
  have hG : W p l e room_1 s m #[Value.ref b] below meth c H locs (cells + 43) (slots + 2472) Q (F0 m 613 ls []) := by
    refine lv_goto (tgt := 1439) hx hb dL_law_613 (by decide) ?_
    refine W.widen (k := cells + 54) (n := slots + 2578) (by omega) (by omega) ?_
    exact kk t9 u9 ρ9 lo9 ad9 n9 np9 H locs ls hW hS hZ9 (lv_sub hl [1, 2, 3, 4, 5] rfl)
  exact hG
set_option maxHeartbeats 2000000 in
set_option maxRecDepth 100000 in
theorem law_c7 {p : Program} {l : Launch} {e : Env} {s : State} {m : MethodId} {below : List Frame} {meth : Method} {c : Code} {b L : Nat} {xs : Nat → Int32} {z : Nat} {G : Gl} (X : LCX p l e s m below meth c b L xs z G) {Q : State → Prop} {σ : SG} {ν : NU} {ρ : RH} {lo : Int64} {ad : Nat → Nat → Nat} {H : Heap} {locs : List Loc} {ls : Array Slot} {cells slots i n np : Nat} (hi : i + 5 ≤ L) (hW : WP z G ad (σ, ν, ρ, lo) H) (hS : va_S (Az z) s.heap H locs) (hZ : SIM σ ν ρ n np) (hl : lv_has ls 7 [(0, .ref b), (1, .ref (ad 0 0)), (2, .ref (ad 30 0)), (3, .ref (ad 31 0)), (4, .int (nI i))]) (hc : cells + 54 ≤ 601024) (hs : slots + 2578 ≤ 7293034)
    (kk : ∀ (σ : SG) (ν : NU) (ρ : RH) (lo : Int64) (ad : Nat → Nat → Nat) (n np : Nat) (H : Heap) (locs : List Loc) (ls : Array Slot), WP z G ad (σ, ν, ρ, lo) H → va_S (Az z) s.heap H locs → SIM σ ν ρ n np → lv_has ls 7 [(0, .ref b), (1, .ref (ad 0 0)), (2, .ref (ad 30 0)), (3, .ref (ad 31 0)), (4, .int (nI i))] → W p l e room_1 s m #[Value.ref b] below meth c H locs (cells + 54) (slots + 2578) Q (F0 m 1439 ls [])) : W p l e room_1 s m #[Value.ref b] below meth c H locs cells slots Q (F0 m 616 ls []) := by
  obtain ⟨hx, hb, hml, hown, hts, hE, hz, hlt, hX, hbl, hbA, hL⟩ := X
  obtain ⟨k, P, R, hwc, hwr, hsim⟩ := z_strike hZ ((xs (nI i + 1).toNatClampNeg)) ((xs (nI i + 2).toNatClampNeg))
  refine lv_aload_n hx hb dL_law_616 rfl (lv_at hl 1 rfl) ?_
  refine lv_aload_n hx hb dL_law_617 rfl (lv_at hl 0 rfl) ?_
  refine lv_iload hx hb dL_law_618 (lv_at hl 4 rfl) ?_
  refine lv_iconst (v := (1 : Int32)) hx hb dL_law_620 (by decide) ?_
  refine lv_iadd hx hb dL_law_621 ?_
  refine va_sld hx hb hX hbl hbA hS (in_arg hi hL (j := 1) (by decide)) dL_law_622 ?_
  refine lv_aload_n hx hb dL_law_623 rfl (lv_at hl 0 rfl) ?_
  refine lv_iload hx hb dL_law_624 (lv_at hl 4 rfl) ?_
  refine lv_iconst (v := (2 : Int32)) hx hb dL_law_626 (by decide) ?_
  refine lv_iadd hx hb dL_law_627 ?_
  refine va_sld hx hb hX hbl hbA hS (in_arg hi hL (j := 2) (by decide)) dL_law_628 ?_
  refine k_SW (rest := []) (As := [.ref (ad 0 0), .int (xs (nI i + 1).toNatClampNeg), .int (xs (nI i + 2).toNatClampNeg)]) ⟨hx, hb, hml, hown, hts⟩ hE hz hS hW (mtL_strike l hlt z G ad σ ν ρ lo ((xs (nI i + 1).toNatClampNeg)) ((xs (nI i + 2).toNatClampNeg)) k P hwc) (vx_cwSW 3 hts gL_law_L_strike rfl rfl rfl (by decide +kernel) ⟨Nat.le_of_ble_eq_true rfl, Nat.le_of_ble_eq_true rfl⟩) rfl hl.1 rfl (Nat.le_of_ble_eq_true rfl) dL_law_629 ⟨by show cells + 43 ≤ 601024; omega, by show slots + 2472 ≤ 7293034; omega⟩ (fun k9 S9 ad9 H locs hp hW hS => ?_)
  obtain ⟨ek, t9, u9, lo9, e9, hXt, hP⟩ := hp
  dsimp only at e9 hXt
  subst e9
  have hl : lv_has ls 7 [(0, .ref b), (1, .ref (ad9 0 0)), (2, .ref (ad9 30 0)), (3, .ref (ad9 31 0)), (4, .int (nI i))] := by rw [(hXt 0 0 (by decide) rfl).2, (hXt 30 0 (by decide) rfl).2, (hXt 31 0 (by decide) rfl).2]; exact hl
  refine lv_istore (lv' := [(5, .int k9), (0, .ref b), (1, .ref (ad9 0 0)), (2, .ref (ad9 30 0)), (3, .ref (ad9 31 0)), (4, .int (nI i))]) hx hb dL_law_632 hl (by decide) rfl (fun ls hl => ?_)
  refine lv_aload_n hx hb dL_law_634 rfl (lv_at hl 3 rfl) ?_
  refine lv_aload_n hx hb dL_law_635 rfl (lv_at hl 1 rfl) ?_
  refine lv_iload hx hb dL_law_636 (lv_at hl 5 rfl) ?_
  refine lv_iconst (v := (1 : Int32)) hx hb dL_law_638 (by decide) ?_
  refine lv_iadd hx hb dL_law_639 ?_
  refine va_sld hx hb hX hbl hbA hS (in_arg hi hL (j := 1) (by decide)) dL_law_640 ?_
  refine lv_aload_n hx hb dL_law_641 rfl (lv_at hl 1 rfl) ?_
  refine lv_iload hx hb dL_law_642 (lv_at hl 5 rfl) ?_
  refine lv_iconst (v := (2 : Int32)) hx hb dL_law_644 (by decide) ?_
  refine lv_iadd hx hb dL_law_645 ?_
  refine va_sld hx hb hX hbl hbA hS (in_arg hi hL (j := 2) (by decide)) dL_law_646 ?_
  refine k_Vv (rest := []) (As := [.int (xs (nI i + 1).toNatClampNeg), .int (xs (nI i + 2).toNatClampNeg)]) ⟨hx, hb, hml, hown, hts⟩ hE hz hS hW (mtX7_strike l z G ad9 t9 u9 ρ lo9 ((xs (nI i + 1).toNatClampNeg)) ((xs (nI i + 2).toNatClampNeg)) _ hwr) (cwV 2 hts gL_law_X7_strike rfl rfl rfl (by decide +kernel) ⟨Nat.le_of_ble_eq_true rfl, Nat.le_of_ble_eq_true rfl⟩) (r_recv hE hW 30 0 rfl (C := RX7) (ci := 10) rfl rfl) rfl hl.1 rfl (Nat.le_of_ble_eq_true rfl) dL_law_647 ⟨by show (cells + 43) + 0 ≤ 601024; omega, by show (slots + 2472) + 0 ≤ 7293034; omega⟩ (fun S9 H locs hp hW hS => ?_)
  obtain ⟨ρ9, rfl, hq1, hR⟩ := hp
  refine lv_aload_n hx hb dL_law_650 rfl (lv_at hl 3 rfl) ?_
  refine k_Vi (rest := []) (As := []) ⟨hx, hb, hml, hown, hts⟩ hE hz hS hW (mtX7_thrown l z G ad9 t9 u9 ρ9 lo9 (fun r9 => r9 = ρ9 48 0) (by unfold wpX7_thrown; exact rfl)) (cwV 0 hts gL_law_X7_thrown rfl rfl rfl (by decide +kernel) ⟨Nat.le_of_ble_eq_true rfl, Nat.le_of_ble_eq_true rfl⟩) (r_recv hE hW 30 0 rfl (C := RX7) (ci := 10) rfl rfl) rfl hl.1 rfl (Nat.le_of_ble_eq_true rfl) dL_law_651 ⟨by show (cells + 43) + 0 ≤ 601024; omega, by show (slots + 2472) + 0 ≤ 7293034; omega⟩ (fun c9 S9 H locs hp hW hS => ?_)
  obtain ⟨rfl, rfl⟩ := hp
  refine lv_iload hx hb dL_law_654 (lv_at hl 0 rfl) ?_
  refine lv_icmp_eq (tgt := 661) hx hb dL_law_656 (by decide) (fun c8 => ?_) (fun c8 => absurd (hq1.trans ek.symm) c8)
  have hZ9 : ∃ n np : Nat, SIM t9 u9 ρ9 n np := hsim _ _ _ hP hR
  obtain ⟨n9, np9, hZ9⟩ := hZ9
  have hG : W p l e room_1 s m #[Value.ref b] below meth c H locs (cells + 43) (slots + 2472) Q (F0 m 661 ls []) := by
    refine lv_goto (tgt := 1439) hx hb dL_law_661 (by decide) ?_
    refine W.widen (k := cells + 54) (n := slots + 2578) (by omega) (by omega) ?_
    exact kk t9 u9 ρ9 lo9 ad9 n9 np9 H locs ls hW hS hZ9 (lv_sub hl [1, 2, 3, 4, 5] rfl)
  exact hG
set_option maxHeartbeats 2000000 in
set_option maxRecDepth 100000 in
theorem law_c8 {p : Program} {l : Launch} {e : Env} {s : State} {m : MethodId} {below : List Frame} {meth : Method} {c : Code} {b L : Nat} {xs : Nat → Int32} {z : Nat} {G : Gl} (X : LCX p l e s m below meth c b L xs z G) {Q : State → Prop} {σ : SG} {ν : NU} {ρ : RH} {lo : Int64} {ad : Nat → Nat → Nat} {H : Heap} {locs : List Loc} {ls : Array Slot} {cells slots i n np : Nat} (hi : i + 5 ≤ L) (hW : WP z G ad (σ, ν, ρ, lo) H) (hS : va_S (Az z) s.heap H locs) (hZ : SIM σ ν ρ n np) (hl : lv_has ls 7 [(0, .ref b), (1, .ref (ad 0 0)), (2, .ref (ad 30 0)), (3, .ref (ad 31 0)), (4, .int (nI i))]) (hc : cells + 54 ≤ 601024) (hs : slots + 2578 ≤ 7293034)
    (kk : ∀ (σ : SG) (ν : NU) (ρ : RH) (lo : Int64) (ad : Nat → Nat → Nat) (n np : Nat) (H : Heap) (locs : List Loc) (ls : Array Slot), WP z G ad (σ, ν, ρ, lo) H → va_S (Az z) s.heap H locs → SIM σ ν ρ n np → lv_has ls 7 [(0, .ref b), (1, .ref (ad 0 0)), (2, .ref (ad 30 0)), (3, .ref (ad 31 0)), (4, .int (nI i))] → W p l e room_1 s m #[Value.ref b] below meth c H locs (cells + 54) (slots + 2578) Q (F0 m 1439 ls [])) : W p l e room_1 s m #[Value.ref b] below meth c H locs cells slots Q (F0 m 664 ls []) := by
  obtain ⟨hx, hb, hml, hown, hts, hE, hz, hlt, hX, hbl, hbA, hL⟩ := X
  obtain ⟨k, P, R, hwc, hwr, hsim⟩ := z_suspend hZ ((xs (nI i + 1).toNatClampNeg)) ((xs (nI i + 2).toNatClampNeg)) ((xs (nI i + 3).toNatClampNeg))
  refine lv_aload_n hx hb dL_law_664 rfl (lv_at hl 1 rfl) ?_
  refine lv_aload_n hx hb dL_law_665 rfl (lv_at hl 0 rfl) ?_
  refine lv_iload hx hb dL_law_666 (lv_at hl 4 rfl) ?_
  refine lv_iconst (v := (1 : Int32)) hx hb dL_law_668 (by decide) ?_
  refine lv_iadd hx hb dL_law_669 ?_
  refine va_sld hx hb hX hbl hbA hS (in_arg hi hL (j := 1) (by decide)) dL_law_670 ?_
  refine lv_aload_n hx hb dL_law_671 rfl (lv_at hl 0 rfl) ?_
  refine lv_iload hx hb dL_law_672 (lv_at hl 4 rfl) ?_
  refine lv_iconst (v := (2 : Int32)) hx hb dL_law_674 (by decide) ?_
  refine lv_iadd hx hb dL_law_675 ?_
  refine va_sld hx hb hX hbl hbA hS (in_arg hi hL (j := 2) (by decide)) dL_law_676 ?_
  refine lv_aload_n hx hb dL_law_677 rfl (lv_at hl 0 rfl) ?_
  refine lv_iload hx hb dL_law_678 (lv_at hl 4 rfl) ?_
  refine lv_iconst (v := (3 : Int32)) hx hb dL_law_680 (by decide) ?_
  refine lv_iadd hx hb dL_law_681 ?_
  refine va_sld hx hb hX hbl hbA hS (in_arg hi hL (j := 3) (by decide)) dL_law_682 ?_
  refine k_SW (rest := []) (As := [.ref (ad 0 0), .int (xs (nI i + 1).toNatClampNeg), .int (xs (nI i + 2).toNatClampNeg), .int (xs (nI i + 3).toNatClampNeg)]) ⟨hx, hb, hml, hown, hts⟩ hE hz hS hW (mtL_suspend l hlt z G ad σ ν ρ lo ((xs (nI i + 1).toNatClampNeg)) ((xs (nI i + 2).toNatClampNeg)) ((xs (nI i + 3).toNatClampNeg)) k P hwc) (vx_cwSW 4 hts gL_law_L_suspend rfl rfl rfl (by decide +kernel) ⟨Nat.le_of_ble_eq_true rfl, Nat.le_of_ble_eq_true rfl⟩) rfl hl.1 rfl (Nat.le_of_ble_eq_true rfl) dL_law_683 ⟨by show cells + 44 ≤ 601024; omega, by show slots + 2478 ≤ 7293034; omega⟩ (fun k9 S9 ad9 H locs hp hW hS => ?_)
  obtain ⟨ek, t9, u9, lo9, e9, hXt, hP⟩ := hp
  dsimp only at e9 hXt
  subst e9
  have hl : lv_has ls 7 [(0, .ref b), (1, .ref (ad9 0 0)), (2, .ref (ad9 30 0)), (3, .ref (ad9 31 0)), (4, .int (nI i))] := by rw [(hXt 0 0 (by decide) rfl).2, (hXt 30 0 (by decide) rfl).2, (hXt 31 0 (by decide) rfl).2]; exact hl
  refine lv_istore (lv' := [(5, .int k9), (0, .ref b), (1, .ref (ad9 0 0)), (2, .ref (ad9 30 0)), (3, .ref (ad9 31 0)), (4, .int (nI i))]) hx hb dL_law_686 hl (by decide) rfl (fun ls hl => ?_)
  refine lv_aload_n hx hb dL_law_688 rfl (lv_at hl 3 rfl) ?_
  refine lv_aload_n hx hb dL_law_689 rfl (lv_at hl 1 rfl) ?_
  refine lv_iload hx hb dL_law_690 (lv_at hl 5 rfl) ?_
  refine lv_iconst (v := (1 : Int32)) hx hb dL_law_692 (by decide) ?_
  refine lv_iadd hx hb dL_law_693 ?_
  refine va_sld hx hb hX hbl hbA hS (in_arg hi hL (j := 1) (by decide)) dL_law_694 ?_
  refine lv_aload_n hx hb dL_law_695 rfl (lv_at hl 1 rfl) ?_
  refine lv_iload hx hb dL_law_696 (lv_at hl 5 rfl) ?_
  refine lv_iconst (v := (2 : Int32)) hx hb dL_law_698 (by decide) ?_
  refine lv_iadd hx hb dL_law_699 ?_
  refine va_sld hx hb hX hbl hbA hS (in_arg hi hL (j := 2) (by decide)) dL_law_700 ?_
  refine lv_aload_n hx hb dL_law_701 rfl (lv_at hl 1 rfl) ?_
  refine lv_iload hx hb dL_law_702 (lv_at hl 5 rfl) ?_
  refine lv_iconst (v := (3 : Int32)) hx hb dL_law_704 (by decide) ?_
  refine lv_iadd hx hb dL_law_705 ?_
  refine va_sld hx hb hX hbl hbA hS (in_arg hi hL (j := 3) (by decide)) dL_law_706 ?_
  refine k_Vv (rest := []) (As := [.int (xs (nI i + 1).toNatClampNeg), .int (xs (nI i + 2).toNatClampNeg), .int (xs (nI i + 3).toNatClampNeg)]) ⟨hx, hb, hml, hown, hts⟩ hE hz hS hW (mtX7_suspend l z G ad9 t9 u9 ρ lo9 ((xs (nI i + 1).toNatClampNeg)) ((xs (nI i + 2).toNatClampNeg)) ((xs (nI i + 3).toNatClampNeg)) _ hwr) (cwV 3 hts gL_law_X7_suspend rfl rfl rfl (by decide +kernel) ⟨Nat.le_of_ble_eq_true rfl, Nat.le_of_ble_eq_true rfl⟩) (r_recv hE hW 30 0 rfl (C := RX7) (ci := 10) rfl rfl) rfl hl.1 rfl (Nat.le_of_ble_eq_true rfl) dL_law_707 ⟨by show (cells + 44) + 0 ≤ 601024; omega, by show (slots + 2478) + 0 ≤ 7293034; omega⟩ (fun S9 H locs hp hW hS => ?_)
  obtain ⟨ρ9, rfl, hq1, hR⟩ := hp
  refine lv_aload_n hx hb dL_law_710 rfl (lv_at hl 3 rfl) ?_
  refine k_Vi (rest := []) (As := []) ⟨hx, hb, hml, hown, hts⟩ hE hz hS hW (mtX7_thrown l z G ad9 t9 u9 ρ9 lo9 (fun r9 => r9 = ρ9 48 0) (by unfold wpX7_thrown; exact rfl)) (cwV 0 hts gL_law_X7_thrown rfl rfl rfl (by decide +kernel) ⟨Nat.le_of_ble_eq_true rfl, Nat.le_of_ble_eq_true rfl⟩) (r_recv hE hW 30 0 rfl (C := RX7) (ci := 10) rfl rfl) rfl hl.1 rfl (Nat.le_of_ble_eq_true rfl) dL_law_711 ⟨by show (cells + 44) + 0 ≤ 601024; omega, by show (slots + 2478) + 0 ≤ 7293034; omega⟩ (fun c9 S9 H locs hp hW hS => ?_)
  obtain ⟨rfl, rfl⟩ := hp
  refine lv_iload hx hb dL_law_714 (lv_at hl 0 rfl) ?_
  refine lv_icmp_eq (tgt := 721) hx hb dL_law_716 (by decide) (fun c8 => ?_) (fun c8 => absurd (hq1.trans ek.symm) c8)
  have hZ9 : ∃ n np : Nat, SIM t9 u9 ρ9 n np := hsim _ _ _ hP hR
  obtain ⟨n9, np9, hZ9⟩ := hZ9
  have hG : W p l e room_1 s m #[Value.ref b] below meth c H locs (cells + 44) (slots + 2478) Q (F0 m 721 ls []) := by
    refine lv_goto (tgt := 1439) hx hb dL_law_721 (by decide) ?_
    refine W.widen (k := cells + 54) (n := slots + 2578) (by omega) (by omega) ?_
    exact kk t9 u9 ρ9 lo9 ad9 n9 np9 H locs ls hW hS hZ9 (lv_sub hl [1, 2, 3, 4, 5] rfl)
  exact hG
set_option maxHeartbeats 2000000 in
set_option maxRecDepth 100000 in
theorem law_c9 {p : Program} {l : Launch} {e : Env} {s : State} {m : MethodId} {below : List Frame} {meth : Method} {c : Code} {b L : Nat} {xs : Nat → Int32} {z : Nat} {G : Gl} (X : LCX p l e s m below meth c b L xs z G) {Q : State → Prop} {σ : SG} {ν : NU} {ρ : RH} {lo : Int64} {ad : Nat → Nat → Nat} {H : Heap} {locs : List Loc} {ls : Array Slot} {cells slots i n np : Nat} (hi : i + 5 ≤ L) (hW : WP z G ad (σ, ν, ρ, lo) H) (hS : va_S (Az z) s.heap H locs) (hZ : SIM σ ν ρ n np) (hl : lv_has ls 7 [(0, .ref b), (1, .ref (ad 0 0)), (2, .ref (ad 30 0)), (3, .ref (ad 31 0)), (4, .int (nI i))]) (hc : cells + 54 ≤ 601024) (hs : slots + 2578 ≤ 7293034)
    (kk : ∀ (σ : SG) (ν : NU) (ρ : RH) (lo : Int64) (ad : Nat → Nat → Nat) (n np : Nat) (H : Heap) (locs : List Loc) (ls : Array Slot), WP z G ad (σ, ν, ρ, lo) H → va_S (Az z) s.heap H locs → SIM σ ν ρ n np → lv_has ls 7 [(0, .ref b), (1, .ref (ad 0 0)), (2, .ref (ad 30 0)), (3, .ref (ad 31 0)), (4, .int (nI i))] → W p l e room_1 s m #[Value.ref b] below meth c H locs (cells + 54) (slots + 2578) Q (F0 m 1439 ls [])) : W p l e room_1 s m #[Value.ref b] below meth c H locs cells slots Q (F0 m 724 ls []) := by
  obtain ⟨hx, hb, hml, hown, hts, hE, hz, hlt, hX, hbl, hbA, hL⟩ := X
  obtain ⟨k, r, P, R, hwc, hwr, hsim⟩ := z_look hZ ((xs (nI i + 1).toNatClampNeg)) ((xs (nI i + 2).toNatClampNeg)) ((xs (nI i + 3).toNatClampNeg))
  refine lv_aload_n hx hb dL_law_724 rfl (lv_at hl 1 rfl) ?_
  refine lv_aload_n hx hb dL_law_725 rfl (lv_at hl 0 rfl) ?_
  refine lv_iload hx hb dL_law_726 (lv_at hl 4 rfl) ?_
  refine lv_iconst (v := (1 : Int32)) hx hb dL_law_728 (by decide) ?_
  refine lv_iadd hx hb dL_law_729 ?_
  refine va_sld hx hb hX hbl hbA hS (in_arg hi hL (j := 1) (by decide)) dL_law_730 ?_
  refine lv_aload_n hx hb dL_law_731 rfl (lv_at hl 0 rfl) ?_
  refine lv_iload hx hb dL_law_732 (lv_at hl 4 rfl) ?_
  refine lv_iconst (v := (2 : Int32)) hx hb dL_law_734 (by decide) ?_
  refine lv_iadd hx hb dL_law_735 ?_
  refine va_sld hx hb hX hbl hbA hS (in_arg hi hL (j := 2) (by decide)) dL_law_736 ?_
  refine lv_aload_n hx hb dL_law_737 rfl (lv_at hl 0 rfl) ?_
  refine lv_iload hx hb dL_law_738 (lv_at hl 4 rfl) ?_
  refine lv_iconst (v := (3 : Int32)) hx hb dL_law_740 (by decide) ?_
  refine lv_iadd hx hb dL_law_741 ?_
  refine va_sld hx hb hX hbl hbA hS (in_arg hi hL (j := 3) (by decide)) dL_law_742 ?_
  refine lv_aload_n hx hb dL_law_743 rfl (lv_at hl 3 rfl) ?_
  refine k_SW (rest := []) (As := [.ref (ad 0 0), .int (xs (nI i + 1).toNatClampNeg), .int (xs (nI i + 2).toNatClampNeg), .int (xs (nI i + 3).toNatClampNeg), .ref (ad 31 0)]) ⟨hx, hb, hml, hown, hts⟩ hE hz hS hW (mtL_look l hlt z G ad σ ν ρ lo ((xs (nI i + 1).toNatClampNeg)) ((xs (nI i + 2).toNatClampNeg)) ((xs (nI i + 3).toNatClampNeg)) k r P hwc) (vx_cwSW 5 hts gL_law_L_look rfl rfl rfl (by decide +kernel) ⟨Nat.le_of_ble_eq_true rfl, Nat.le_of_ble_eq_true rfl⟩) rfl hl.1 rfl (Nat.le_of_ble_eq_true rfl) dL_law_744 ⟨by show cells + 42 ≤ 601024; omega, by show slots + 2466 ≤ 7293034; omega⟩ (fun k9 S9 ad9 H locs hp hW hS => ?_)
  obtain ⟨ek, t9, u9, lo9, e9, hXt, hlo, hP⟩ := hp
  dsimp only at e9 hXt
  subst e9
  have hl : lv_has ls 7 [(0, .ref b), (1, .ref (ad9 0 0)), (2, .ref (ad9 30 0)), (3, .ref (ad9 31 0)), (4, .int (nI i))] := by rw [(hXt 0 0 (by decide) rfl).2, (hXt 30 0 (by decide) rfl).2, (hXt 31 0 (by decide) rfl).2]; exact hl
  refine lv_istore (lv' := [(5, .int k9), (0, .ref b), (1, .ref (ad9 0 0)), (2, .ref (ad9 30 0)), (3, .ref (ad9 31 0)), (4, .int (nI i))]) hx hb dL_law_747 hl (by decide) rfl (fun ls hl => ?_)
  refine lv_aload_n hx hb dL_law_749 rfl (lv_at hl 3 rfl) ?_
  refine lv_aload_n hx hb dL_law_750 rfl (lv_at hl 1 rfl) ?_
  refine lv_iload hx hb dL_law_751 (lv_at hl 5 rfl) ?_
  refine lv_iconst (v := (1 : Int32)) hx hb dL_law_753 (by decide) ?_
  refine lv_iadd hx hb dL_law_754 ?_
  refine va_sld hx hb hX hbl hbA hS (in_arg hi hL (j := 1) (by decide)) dL_law_755 ?_
  refine lv_aload_n hx hb dL_law_756 rfl (lv_at hl 1 rfl) ?_
  refine lv_iload hx hb dL_law_757 (lv_at hl 5 rfl) ?_
  refine lv_iconst (v := (2 : Int32)) hx hb dL_law_759 (by decide) ?_
  refine lv_iadd hx hb dL_law_760 ?_
  refine va_sld hx hb hX hbl hbA hS (in_arg hi hL (j := 2) (by decide)) dL_law_761 ?_
  refine lv_aload_n hx hb dL_law_762 rfl (lv_at hl 1 rfl) ?_
  refine lv_iload hx hb dL_law_763 (lv_at hl 5 rfl) ?_
  refine lv_iconst (v := (3 : Int32)) hx hb dL_law_765 (by decide) ?_
  refine lv_iadd hx hb dL_law_766 ?_
  refine va_sld hx hb hX hbl hbA hS (in_arg hi hL (j := 3) (by decide)) dL_law_767 ?_
  refine k_Vi (rest := []) (As := [.int (xs (nI i + 1).toNatClampNeg), .int (xs (nI i + 2).toNatClampNeg), .int (xs (nI i + 3).toNatClampNeg)]) ⟨hx, hb, hml, hown, hts⟩ hE hz hS hW (mtX7_look l z G ad9 t9 u9 ρ lo9 ((xs (nI i + 1).toNatClampNeg)) ((xs (nI i + 2).toNatClampNeg)) ((xs (nI i + 3).toNatClampNeg)) _ hwr) (cwV 3 hts gL_law_X7_look rfl rfl rfl (by decide +kernel) ⟨Nat.le_of_ble_eq_true rfl, Nat.le_of_ble_eq_true rfl⟩) (r_recv hE hW 30 0 rfl (C := RX7) (ci := 10) rfl rfl) rfl hl.1 rfl (Nat.le_of_ble_eq_true rfl) dL_law_768 ⟨by show (cells + 42) + 0 ≤ 601024; omega, by show (slots + 2466) + 0 ≤ 7293034; omega⟩ (fun b9 S9 H locs hp hW hS => ?_)
  obtain ⟨ρ9, rfl, hq1, hq2, hR⟩ := hp
  refine lv_istore (lv' := [(6, .int b9), (5, .int k9), (0, .ref b), (1, .ref (ad9 0 0)), (2, .ref (ad9 30 0)), (3, .ref (ad9 31 0)), (4, .int (nI i))]) hx hb dL_law_771 hl (by decide) rfl (fun ls hl => ?_)
  refine lv_aload_n hx hb dL_law_773 rfl (lv_at hl 4 rfl) ?_
  refine k_Vi (rest := []) (As := []) ⟨hx, hb, hml, hown, hts⟩ hE hz hS hW (mtX7_thrown l z G ad9 t9 u9 ρ9 lo9 (fun r9 => r9 = ρ9 48 0) (by unfold wpX7_thrown; exact rfl)) (cwV 0 hts gL_law_X7_thrown rfl rfl rfl (by decide +kernel) ⟨Nat.le_of_ble_eq_true rfl, Nat.le_of_ble_eq_true rfl⟩) (r_recv hE hW 30 0 rfl (C := RX7) (ci := 10) rfl rfl) rfl hl.1 rfl (Nat.le_of_ble_eq_true rfl) dL_law_774 ⟨by show (cells + 42) + 0 ≤ 601024; omega, by show (slots + 2466) + 0 ≤ 7293034; omega⟩ (fun c9 S9 H locs hp hW hS => ?_)
  obtain ⟨rfl, rfl⟩ := hp
  refine lv_iload hx hb dL_law_777 (lv_at hl 1 rfl) ?_
  refine lv_icmp_eq (tgt := 784) hx hb dL_law_779 (by decide) (fun c8 => ?_) (fun c8 => absurd (hq1.trans ek.symm) c8)
  have hZ9 : ∃ n np : Nat, SIM t9 u9 ρ9 n np := hsim _ _ _ hP hR
  obtain ⟨n9, np9, hZ9⟩ := hZ9
  have hG : W p l e room_1 s m #[Value.ref b] below meth c H locs (cells + 42) (slots + 2466) Q (F0 m 801 ls []) := by
    refine lv_goto (tgt := 1439) hx hb dL_law_801 (by decide) ?_
    refine W.widen (k := cells + 54) (n := slots + 2578) (by omega) (by omega) ?_
    exact kk t9 u9 ρ9 lo9 ad9 n9 np9 H locs ls hW hS hZ9 (lv_sub hl [2, 3, 4, 5, 6] rfl)
  refine lv_iload hx hb dL_law_784 (lv_at hl 1 rfl) ?_
  refine lv_if_ne (tgt := 801) hx hb dL_law_786 (by decide) (fun c8 => hG) (fun c8 => ?_)
  refine lv_aload_n hx hb dL_law_789 rfl (lv_at hl 5 rfl) ?_
  refine lv_iconst (v := (0 : Int32)) hx hb dL_law_790 (by decide) ?_
  refine r_lald hx hb hE hW (lo := lo9) rfl dL_law_791 ?_
  refine lv_iload hx hb dL_law_792 (lv_at hl 0 rfl) ?_
  refine lv_i2l (v := b9.toInt64) hx hb dL_law_794 rfl ?_
  refine W.lcmp hx hb dL_law_795 ?_
  refine lv_if_eq (tgt := 801) hx hb dL_law_796 (by decide) (fun q => hG) (fun q => absurd ?_ q)
  rw [hlo (ek.symm.trans c8), hq2 (ek.symm.trans c8)]
  exact lcmp_self
set_option maxHeartbeats 2000000 in
set_option maxRecDepth 100000 in
theorem law_c10 {p : Program} {l : Launch} {e : Env} {s : State} {m : MethodId} {below : List Frame} {meth : Method} {c : Code} {b L : Nat} {xs : Nat → Int32} {z : Nat} {G : Gl} (X : LCX p l e s m below meth c b L xs z G) {Q : State → Prop} {σ : SG} {ν : NU} {ρ : RH} {lo : Int64} {ad : Nat → Nat → Nat} {H : Heap} {locs : List Loc} {ls : Array Slot} {cells slots i n np : Nat} (hi : i + 5 ≤ L) (hW : WP z G ad (σ, ν, ρ, lo) H) (hS : va_S (Az z) s.heap H locs) (hZ : SIM σ ν ρ n np) (hl : lv_has ls 7 [(0, .ref b), (1, .ref (ad 0 0)), (2, .ref (ad 30 0)), (3, .ref (ad 31 0)), (4, .int (nI i))]) (hc : cells + 54 ≤ 601024) (hs : slots + 2578 ≤ 7293034)
    (kk : ∀ (σ : SG) (ν : NU) (ρ : RH) (lo : Int64) (ad : Nat → Nat → Nat) (n np : Nat) (H : Heap) (locs : List Loc) (ls : Array Slot), WP z G ad (σ, ν, ρ, lo) H → va_S (Az z) s.heap H locs → SIM σ ν ρ n np → lv_has ls 7 [(0, .ref b), (1, .ref (ad 0 0)), (2, .ref (ad 30 0)), (3, .ref (ad 31 0)), (4, .int (nI i))] → W p l e room_1 s m #[Value.ref b] below meth c H locs (cells + 54) (slots + 2578) Q (F0 m 1439 ls [])) : W p l e room_1 s m #[Value.ref b] below meth c H locs cells slots Q (F0 m 804 ls []) := by
  obtain ⟨hx, hb, hml, hown, hts, hE, hz, hlt, hX, hbl, hbA, hL⟩ := X
  obtain ⟨k, r, hwc, hwr⟩ := z_provisionAt hZ ((xs (nI i + 1).toNatClampNeg))
  refine lv_aload_n hx hb dL_law_804 rfl (lv_at hl 1 rfl) ?_
  refine lv_aload_n hx hb dL_law_805 rfl (lv_at hl 0 rfl) ?_
  refine lv_iload hx hb dL_law_806 (lv_at hl 4 rfl) ?_
  refine lv_iconst (v := (1 : Int32)) hx hb dL_law_808 (by decide) ?_
  refine lv_iadd hx hb dL_law_809 ?_
  refine va_sld hx hb hX hbl hbA hS (in_arg hi hL (j := 1) (by decide)) dL_law_810 ?_
  refine lv_aload_n hx hb dL_law_811 rfl (lv_at hl 3 rfl) ?_
  refine k_SW (rest := []) (As := [.ref (ad 0 0), .int (xs (nI i + 1).toNatClampNeg), .ref (ad 31 0)]) ⟨hx, hb, hml, hown, hts⟩ hE hz hS hW (mtL_provisionAt l hlt z G ad σ ν ρ lo ((xs (nI i + 1).toNatClampNeg)) k r hwc) (vx_cwSW 3 hts gL_law_L_provisionAt rfl rfl rfl (by decide +kernel) ⟨Nat.le_of_ble_eq_true rfl, Nat.le_of_ble_eq_true rfl⟩) rfl hl.1 rfl (Nat.le_of_ble_eq_true rfl) dL_law_812 ⟨by show cells + 1 ≤ 601024; omega, by show slots + 6 ≤ 7293034; omega⟩ (fun k9 S9 ad9 H locs hp hW hS => ?_)
  obtain ⟨ek, t9, u9, lo9, e9, hXt, hlo, hP⟩ := hp
  dsimp only at e9 hXt
  subst e9
  have hl : lv_has ls 7 [(0, .ref b), (1, .ref (ad9 0 0)), (2, .ref (ad9 30 0)), (3, .ref (ad9 31 0)), (4, .int (nI i))] := by rw [(hXt 0 0 (by decide) rfl).2, (hXt 30 0 (by decide) rfl).2, (hXt 31 0 (by decide) rfl).2]; exact hl
  refine lv_istore (lv' := [(5, .int k9), (0, .ref b), (1, .ref (ad9 0 0)), (2, .ref (ad9 30 0)), (3, .ref (ad9 31 0)), (4, .int (nI i))]) hx hb dL_law_815 hl (by decide) rfl (fun ls hl => ?_)
  refine lv_aload_n hx hb dL_law_817 rfl (lv_at hl 3 rfl) ?_
  refine lv_aload_n hx hb dL_law_818 rfl (lv_at hl 1 rfl) ?_
  refine lv_iload hx hb dL_law_819 (lv_at hl 5 rfl) ?_
  refine lv_iconst (v := (1 : Int32)) hx hb dL_law_821 (by decide) ?_
  refine lv_iadd hx hb dL_law_822 ?_
  refine va_sld hx hb hX hbl hbA hS (in_arg hi hL (j := 1) (by decide)) dL_law_823 ?_
  refine k_Vi (rest := []) (As := [.int (xs (nI i + 1).toNatClampNeg)]) ⟨hx, hb, hml, hown, hts⟩ hE hz hS hW (mtX7_provisionAt l z G ad9 t9 u9 ρ lo9 ((xs (nI i + 1).toNatClampNeg)) _ hwr) (cwV 1 hts gL_law_X7_provisionAt rfl rfl rfl (by decide +kernel) ⟨Nat.le_of_ble_eq_true rfl, Nat.le_of_ble_eq_true rfl⟩) (r_recv hE hW 30 0 rfl (C := RX7) (ci := 10) rfl rfl) rfl hl.1 rfl (Nat.le_of_ble_eq_true rfl) dL_law_824 ⟨by show (cells + 1) + 0 ≤ 601024; omega, by show (slots + 6) + 0 ≤ 7293034; omega⟩ (fun b9 S9 H locs hp hW hS => ?_)
  obtain ⟨ρ9, rfl, hq1, hq2, hR⟩ := hp
  refine lv_istore (lv' := [(6, .int b9), (5, .int k9), (0, .ref b), (1, .ref (ad9 0 0)), (2, .ref (ad9 30 0)), (3, .ref (ad9 31 0)), (4, .int (nI i))]) hx hb dL_law_827 hl (by decide) rfl (fun ls hl => ?_)
  refine lv_aload_n hx hb dL_law_829 rfl (lv_at hl 4 rfl) ?_
  refine k_Vi (rest := []) (As := []) ⟨hx, hb, hml, hown, hts⟩ hE hz hS hW (mtX7_thrown l z G ad9 t9 u9 ρ9 lo9 (fun r9 => r9 = ρ9 48 0) (by unfold wpX7_thrown; exact rfl)) (cwV 0 hts gL_law_X7_thrown rfl rfl rfl (by decide +kernel) ⟨Nat.le_of_ble_eq_true rfl, Nat.le_of_ble_eq_true rfl⟩) (r_recv hE hW 30 0 rfl (C := RX7) (ci := 10) rfl rfl) rfl hl.1 rfl (Nat.le_of_ble_eq_true rfl) dL_law_830 ⟨by show (cells + 1) + 0 ≤ 601024; omega, by show (slots + 6) + 0 ≤ 7293034; omega⟩ (fun c9 S9 H locs hp hW hS => ?_)
  obtain ⟨rfl, rfl⟩ := hp
  refine lv_iload hx hb dL_law_833 (lv_at hl 1 rfl) ?_
  refine lv_icmp_eq (tgt := 840) hx hb dL_law_835 (by decide) (fun c8 => ?_) (fun c8 => absurd (hq1.trans ek.symm) c8)
  have hZ9 : ∃ n np : Nat, SIM t9 u9 ρ9 n np := by
    obtain ⟨e1, e2⟩ := hP
    subst e1 e2
    exact ⟨n, np, hZ.lo hR⟩
  obtain ⟨n9, np9, hZ9⟩ := hZ9
  have hG : W p l e room_1 s m #[Value.ref b] below meth c H locs (cells + 1) (slots + 6) Q (F0 m 857 ls []) := by
    refine lv_goto (tgt := 1439) hx hb dL_law_857 (by decide) ?_
    refine W.widen (k := cells + 54) (n := slots + 2578) (by omega) (by omega) ?_
    exact kk t9 u9 ρ9 lo9 ad9 n9 np9 H locs ls hW hS hZ9 (lv_sub hl [2, 3, 4, 5, 6] rfl)
  refine lv_iload hx hb dL_law_840 (lv_at hl 1 rfl) ?_
  refine lv_if_ne (tgt := 857) hx hb dL_law_842 (by decide) (fun c8 => hG) (fun c8 => ?_)
  refine lv_aload_n hx hb dL_law_845 rfl (lv_at hl 5 rfl) ?_
  refine lv_iconst (v := (0 : Int32)) hx hb dL_law_846 (by decide) ?_
  refine r_lald hx hb hE hW (lo := lo9) rfl dL_law_847 ?_
  refine lv_iload hx hb dL_law_848 (lv_at hl 0 rfl) ?_
  refine lv_i2l (v := b9.toInt64) hx hb dL_law_850 rfl ?_
  refine W.lcmp hx hb dL_law_851 ?_
  refine lv_if_eq (tgt := 857) hx hb dL_law_852 (by decide) (fun q => hG) (fun q => absurd ?_ q)
  rw [hlo (ek.symm.trans c8), hq2 (ek.symm.trans c8)]
  exact lcmp_self
set_option maxHeartbeats 2000000 in
set_option maxRecDepth 100000 in
theorem law_c11 {p : Program} {l : Launch} {e : Env} {s : State} {m : MethodId} {below : List Frame} {meth : Method} {c : Code} {b L : Nat} {xs : Nat → Int32} {z : Nat} {G : Gl} (X : LCX p l e s m below meth c b L xs z G) {Q : State → Prop} {σ : SG} {ν : NU} {ρ : RH} {lo : Int64} {ad : Nat → Nat → Nat} {H : Heap} {locs : List Loc} {ls : Array Slot} {cells slots i n np : Nat} (hi : i + 5 ≤ L) (hW : WP z G ad (σ, ν, ρ, lo) H) (hS : va_S (Az z) s.heap H locs) (hZ : SIM σ ν ρ n np) (hl : lv_has ls 7 [(0, .ref b), (1, .ref (ad 0 0)), (2, .ref (ad 30 0)), (3, .ref (ad 31 0)), (4, .int (nI i))]) (hc : cells + 54 ≤ 601024) (hs : slots + 2578 ≤ 7293034)
    (kk : ∀ (σ : SG) (ν : NU) (ρ : RH) (lo : Int64) (ad : Nat → Nat → Nat) (n np : Nat) (H : Heap) (locs : List Loc) (ls : Array Slot), WP z G ad (σ, ν, ρ, lo) H → va_S (Az z) s.heap H locs → SIM σ ν ρ n np → lv_has ls 7 [(0, .ref b), (1, .ref (ad 0 0)), (2, .ref (ad 30 0)), (3, .ref (ad 31 0)), (4, .int (nI i))] → W p l e room_1 s m #[Value.ref b] below meth c H locs (cells + 54) (slots + 2578) Q (F0 m 1439 ls [])) : W p l e room_1 s m #[Value.ref b] below meth c H locs cells slots Q (F0 m 860 ls []) := by
  obtain ⟨hx, hb, hml, hown, hts, hE, hz, hlt, hX, hbl, hbA, hL⟩ := X
  obtain ⟨k, r, hwc, hwr⟩ := z_label hZ ((xs (nI i + 1).toNatClampNeg))
  refine lv_aload_n hx hb dL_law_860 rfl (lv_at hl 1 rfl) ?_
  refine lv_aload_n hx hb dL_law_861 rfl (lv_at hl 0 rfl) ?_
  refine lv_iload hx hb dL_law_862 (lv_at hl 4 rfl) ?_
  refine lv_iconst (v := (1 : Int32)) hx hb dL_law_864 (by decide) ?_
  refine lv_iadd hx hb dL_law_865 ?_
  refine va_sld hx hb hX hbl hbA hS (in_arg hi hL (j := 1) (by decide)) dL_law_866 ?_
  refine lv_aload_n hx hb dL_law_867 rfl (lv_at hl 3 rfl) ?_
  refine k_SW (rest := []) (As := [.ref (ad 0 0), .int (xs (nI i + 1).toNatClampNeg), .ref (ad 31 0)]) ⟨hx, hb, hml, hown, hts⟩ hE hz hS hW (mtL_label l hlt z G ad σ ν ρ lo ((xs (nI i + 1).toNatClampNeg)) k r hwc) (vx_cwSW 3 hts gL_law_L_label rfl rfl rfl (by decide +kernel) ⟨Nat.le_of_ble_eq_true rfl, Nat.le_of_ble_eq_true rfl⟩) rfl hl.1 rfl (Nat.le_of_ble_eq_true rfl) dL_law_868 ⟨by show cells + 1 ≤ 601024; omega, by show slots + 6 ≤ 7293034; omega⟩ (fun k9 S9 ad9 H locs hp hW hS => ?_)
  obtain ⟨ek, t9, u9, lo9, e9, hXt, hlo, hP⟩ := hp
  dsimp only at e9 hXt
  subst e9
  have hl : lv_has ls 7 [(0, .ref b), (1, .ref (ad9 0 0)), (2, .ref (ad9 30 0)), (3, .ref (ad9 31 0)), (4, .int (nI i))] := by rw [(hXt 0 0 (by decide) rfl).2, (hXt 30 0 (by decide) rfl).2, (hXt 31 0 (by decide) rfl).2]; exact hl
  refine lv_istore (lv' := [(5, .int k9), (0, .ref b), (1, .ref (ad9 0 0)), (2, .ref (ad9 30 0)), (3, .ref (ad9 31 0)), (4, .int (nI i))]) hx hb dL_law_871 hl (by decide) rfl (fun ls hl => ?_)
  refine lv_aload_n hx hb dL_law_873 rfl (lv_at hl 3 rfl) ?_
  refine lv_aload_n hx hb dL_law_874 rfl (lv_at hl 1 rfl) ?_
  refine lv_iload hx hb dL_law_875 (lv_at hl 5 rfl) ?_
  refine lv_iconst (v := (1 : Int32)) hx hb dL_law_877 (by decide) ?_
  refine lv_iadd hx hb dL_law_878 ?_
  refine va_sld hx hb hX hbl hbA hS (in_arg hi hL (j := 1) (by decide)) dL_law_879 ?_
  refine k_Vi (rest := []) (As := [.int (xs (nI i + 1).toNatClampNeg)]) ⟨hx, hb, hml, hown, hts⟩ hE hz hS hW (mtX7_label l z G ad9 t9 u9 ρ lo9 ((xs (nI i + 1).toNatClampNeg)) _ hwr) (cwV 1 hts gL_law_X7_label rfl rfl rfl (by decide +kernel) ⟨Nat.le_of_ble_eq_true rfl, Nat.le_of_ble_eq_true rfl⟩) (r_recv hE hW 30 0 rfl (C := RX7) (ci := 10) rfl rfl) rfl hl.1 rfl (Nat.le_of_ble_eq_true rfl) dL_law_880 ⟨by show (cells + 1) + 0 ≤ 601024; omega, by show (slots + 6) + 0 ≤ 7293034; omega⟩ (fun b9 S9 H locs hp hW hS => ?_)
  obtain ⟨ρ9, rfl, hq1, hq2, hR⟩ := hp
  refine lv_istore (lv' := [(6, .int b9), (5, .int k9), (0, .ref b), (1, .ref (ad9 0 0)), (2, .ref (ad9 30 0)), (3, .ref (ad9 31 0)), (4, .int (nI i))]) hx hb dL_law_883 hl (by decide) rfl (fun ls hl => ?_)
  refine lv_aload_n hx hb dL_law_885 rfl (lv_at hl 4 rfl) ?_
  refine k_Vi (rest := []) (As := []) ⟨hx, hb, hml, hown, hts⟩ hE hz hS hW (mtX7_thrown l z G ad9 t9 u9 ρ9 lo9 (fun r9 => r9 = ρ9 48 0) (by unfold wpX7_thrown; exact rfl)) (cwV 0 hts gL_law_X7_thrown rfl rfl rfl (by decide +kernel) ⟨Nat.le_of_ble_eq_true rfl, Nat.le_of_ble_eq_true rfl⟩) (r_recv hE hW 30 0 rfl (C := RX7) (ci := 10) rfl rfl) rfl hl.1 rfl (Nat.le_of_ble_eq_true rfl) dL_law_886 ⟨by show (cells + 1) + 0 ≤ 601024; omega, by show (slots + 6) + 0 ≤ 7293034; omega⟩ (fun c9 S9 H locs hp hW hS => ?_)
  obtain ⟨rfl, rfl⟩ := hp
  refine lv_iload hx hb dL_law_889 (lv_at hl 1 rfl) ?_
  refine lv_icmp_eq (tgt := 896) hx hb dL_law_891 (by decide) (fun c8 => ?_) (fun c8 => absurd (hq1.trans ek.symm) c8)
  have hZ9 : ∃ n np : Nat, SIM t9 u9 ρ9 n np := by
    obtain ⟨e1, e2⟩ := hP
    subst e1 e2
    exact ⟨n, np, hZ.lo hR⟩
  obtain ⟨n9, np9, hZ9⟩ := hZ9
  have hG : W p l e room_1 s m #[Value.ref b] below meth c H locs (cells + 1) (slots + 6) Q (F0 m 913 ls []) := by
    refine lv_goto (tgt := 1439) hx hb dL_law_913 (by decide) ?_
    refine W.widen (k := cells + 54) (n := slots + 2578) (by omega) (by omega) ?_
    exact kk t9 u9 ρ9 lo9 ad9 n9 np9 H locs ls hW hS hZ9 (lv_sub hl [2, 3, 4, 5, 6] rfl)
  refine lv_iload hx hb dL_law_896 (lv_at hl 1 rfl) ?_
  refine lv_if_ne (tgt := 913) hx hb dL_law_898 (by decide) (fun c8 => hG) (fun c8 => ?_)
  refine lv_aload_n hx hb dL_law_901 rfl (lv_at hl 5 rfl) ?_
  refine lv_iconst (v := (0 : Int32)) hx hb dL_law_902 (by decide) ?_
  refine r_lald hx hb hE hW (lo := lo9) rfl dL_law_903 ?_
  refine lv_iload hx hb dL_law_904 (lv_at hl 0 rfl) ?_
  refine lv_i2l (v := b9.toInt64) hx hb dL_law_906 rfl ?_
  refine W.lcmp hx hb dL_law_907 ?_
  refine lv_if_eq (tgt := 913) hx hb dL_law_908 (by decide) (fun q => hG) (fun q => absurd ?_ q)
  rw [hlo (ek.symm.trans c8), hq2 (ek.symm.trans c8)]
  exact lcmp_self
set_option maxHeartbeats 2000000 in
set_option maxRecDepth 100000 in
theorem law_c12 {p : Program} {l : Launch} {e : Env} {s : State} {m : MethodId} {below : List Frame} {meth : Method} {c : Code} {b L : Nat} {xs : Nat → Int32} {z : Nat} {G : Gl} (X : LCX p l e s m below meth c b L xs z G) {Q : State → Prop} {σ : SG} {ν : NU} {ρ : RH} {lo : Int64} {ad : Nat → Nat → Nat} {H : Heap} {locs : List Loc} {ls : Array Slot} {cells slots i n np : Nat} (hi : i + 5 ≤ L) (hW : WP z G ad (σ, ν, ρ, lo) H) (hS : va_S (Az z) s.heap H locs) (hZ : SIM σ ν ρ n np) (hl : lv_has ls 7 [(0, .ref b), (1, .ref (ad 0 0)), (2, .ref (ad 30 0)), (3, .ref (ad 31 0)), (4, .int (nI i))]) (hc : cells + 54 ≤ 601024) (hs : slots + 2578 ≤ 7293034)
    (kk : ∀ (σ : SG) (ν : NU) (ρ : RH) (lo : Int64) (ad : Nat → Nat → Nat) (n np : Nat) (H : Heap) (locs : List Loc) (ls : Array Slot), WP z G ad (σ, ν, ρ, lo) H → va_S (Az z) s.heap H locs → SIM σ ν ρ n np → lv_has ls 7 [(0, .ref b), (1, .ref (ad 0 0)), (2, .ref (ad 30 0)), (3, .ref (ad 31 0)), (4, .int (nI i))] → W p l e room_1 s m #[Value.ref b] below meth c H locs (cells + 54) (slots + 2578) Q (F0 m 1439 ls [])) : W p l e room_1 s m #[Value.ref b] below meth c H locs cells slots Q (F0 m 916 ls []) := by
  obtain ⟨hx, hb, hml, hown, hts, hE, hz, hlt, hX, hbl, hbA, hL⟩ := X
  obtain ⟨k, r, hwc, hwr⟩ := z_parent hZ ((xs (nI i + 1).toNatClampNeg))
  refine lv_aload_n hx hb dL_law_916 rfl (lv_at hl 1 rfl) ?_
  refine lv_aload_n hx hb dL_law_917 rfl (lv_at hl 0 rfl) ?_
  refine lv_iload hx hb dL_law_918 (lv_at hl 4 rfl) ?_
  refine lv_iconst (v := (1 : Int32)) hx hb dL_law_920 (by decide) ?_
  refine lv_iadd hx hb dL_law_921 ?_
  refine va_sld hx hb hX hbl hbA hS (in_arg hi hL (j := 1) (by decide)) dL_law_922 ?_
  refine lv_aload_n hx hb dL_law_923 rfl (lv_at hl 3 rfl) ?_
  refine k_SW (rest := []) (As := [.ref (ad 0 0), .int (xs (nI i + 1).toNatClampNeg), .ref (ad 31 0)]) ⟨hx, hb, hml, hown, hts⟩ hE hz hS hW (mtL_parent l hlt z G ad σ ν ρ lo ((xs (nI i + 1).toNatClampNeg)) k r hwc) (vx_cwSW 3 hts gL_law_L_parent rfl rfl rfl (by decide +kernel) ⟨Nat.le_of_ble_eq_true rfl, Nat.le_of_ble_eq_true rfl⟩) rfl hl.1 rfl (Nat.le_of_ble_eq_true rfl) dL_law_924 ⟨by show cells + 1 ≤ 601024; omega, by show slots + 6 ≤ 7293034; omega⟩ (fun k9 S9 ad9 H locs hp hW hS => ?_)
  obtain ⟨ek, t9, u9, lo9, e9, hXt, hlo, hP⟩ := hp
  dsimp only at e9 hXt
  subst e9
  have hl : lv_has ls 7 [(0, .ref b), (1, .ref (ad9 0 0)), (2, .ref (ad9 30 0)), (3, .ref (ad9 31 0)), (4, .int (nI i))] := by rw [(hXt 0 0 (by decide) rfl).2, (hXt 30 0 (by decide) rfl).2, (hXt 31 0 (by decide) rfl).2]; exact hl
  refine lv_istore (lv' := [(5, .int k9), (0, .ref b), (1, .ref (ad9 0 0)), (2, .ref (ad9 30 0)), (3, .ref (ad9 31 0)), (4, .int (nI i))]) hx hb dL_law_927 hl (by decide) rfl (fun ls hl => ?_)
  refine lv_aload_n hx hb dL_law_929 rfl (lv_at hl 3 rfl) ?_
  refine lv_aload_n hx hb dL_law_930 rfl (lv_at hl 1 rfl) ?_
  refine lv_iload hx hb dL_law_931 (lv_at hl 5 rfl) ?_
  refine lv_iconst (v := (1 : Int32)) hx hb dL_law_933 (by decide) ?_
  refine lv_iadd hx hb dL_law_934 ?_
  refine va_sld hx hb hX hbl hbA hS (in_arg hi hL (j := 1) (by decide)) dL_law_935 ?_
  refine k_Vi (rest := []) (As := [.int (xs (nI i + 1).toNatClampNeg)]) ⟨hx, hb, hml, hown, hts⟩ hE hz hS hW (mtX7_parent l z G ad9 t9 u9 ρ lo9 ((xs (nI i + 1).toNatClampNeg)) _ hwr) (cwV 1 hts gL_law_X7_parent rfl rfl rfl (by decide +kernel) ⟨Nat.le_of_ble_eq_true rfl, Nat.le_of_ble_eq_true rfl⟩) (r_recv hE hW 30 0 rfl (C := RX7) (ci := 10) rfl rfl) rfl hl.1 rfl (Nat.le_of_ble_eq_true rfl) dL_law_936 ⟨by show (cells + 1) + 0 ≤ 601024; omega, by show (slots + 6) + 0 ≤ 7293034; omega⟩ (fun b9 S9 H locs hp hW hS => ?_)
  obtain ⟨ρ9, rfl, hq1, hq2, hR⟩ := hp
  refine lv_istore (lv' := [(6, .int b9), (5, .int k9), (0, .ref b), (1, .ref (ad9 0 0)), (2, .ref (ad9 30 0)), (3, .ref (ad9 31 0)), (4, .int (nI i))]) hx hb dL_law_939 hl (by decide) rfl (fun ls hl => ?_)
  refine lv_aload_n hx hb dL_law_941 rfl (lv_at hl 4 rfl) ?_
  refine k_Vi (rest := []) (As := []) ⟨hx, hb, hml, hown, hts⟩ hE hz hS hW (mtX7_thrown l z G ad9 t9 u9 ρ9 lo9 (fun r9 => r9 = ρ9 48 0) (by unfold wpX7_thrown; exact rfl)) (cwV 0 hts gL_law_X7_thrown rfl rfl rfl (by decide +kernel) ⟨Nat.le_of_ble_eq_true rfl, Nat.le_of_ble_eq_true rfl⟩) (r_recv hE hW 30 0 rfl (C := RX7) (ci := 10) rfl rfl) rfl hl.1 rfl (Nat.le_of_ble_eq_true rfl) dL_law_942 ⟨by show (cells + 1) + 0 ≤ 601024; omega, by show (slots + 6) + 0 ≤ 7293034; omega⟩ (fun c9 S9 H locs hp hW hS => ?_)
  obtain ⟨rfl, rfl⟩ := hp
  refine lv_iload hx hb dL_law_945 (lv_at hl 1 rfl) ?_
  refine lv_icmp_eq (tgt := 952) hx hb dL_law_947 (by decide) (fun c8 => ?_) (fun c8 => absurd (hq1.trans ek.symm) c8)
  have hZ9 : ∃ n np : Nat, SIM t9 u9 ρ9 n np := by
    obtain ⟨e1, e2⟩ := hP
    subst e1 e2
    exact ⟨n, np, hZ.lo hR⟩
  obtain ⟨n9, np9, hZ9⟩ := hZ9
  have hG : W p l e room_1 s m #[Value.ref b] below meth c H locs (cells + 1) (slots + 6) Q (F0 m 969 ls []) := by
    refine lv_goto (tgt := 1439) hx hb dL_law_969 (by decide) ?_
    refine W.widen (k := cells + 54) (n := slots + 2578) (by omega) (by omega) ?_
    exact kk t9 u9 ρ9 lo9 ad9 n9 np9 H locs ls hW hS hZ9 (lv_sub hl [2, 3, 4, 5, 6] rfl)
  refine lv_iload hx hb dL_law_952 (lv_at hl 1 rfl) ?_
  refine lv_if_ne (tgt := 969) hx hb dL_law_954 (by decide) (fun c8 => hG) (fun c8 => ?_)
  refine lv_aload_n hx hb dL_law_957 rfl (lv_at hl 5 rfl) ?_
  refine lv_iconst (v := (0 : Int32)) hx hb dL_law_958 (by decide) ?_
  refine r_lald hx hb hE hW (lo := lo9) rfl dL_law_959 ?_
  refine lv_iload hx hb dL_law_960 (lv_at hl 0 rfl) ?_
  refine lv_i2l (v := b9.toInt64) hx hb dL_law_962 rfl ?_
  refine W.lcmp hx hb dL_law_963 ?_
  refine lv_if_eq (tgt := 969) hx hb dL_law_964 (by decide) (fun q => hG) (fun q => absurd ?_ q)
  rw [hlo (ek.symm.trans c8), hq2 (ek.symm.trans c8)]
  exact lcmp_self
set_option maxHeartbeats 2000000 in
set_option maxRecDepth 100000 in
theorem law_c13 {p : Program} {l : Launch} {e : Env} {s : State} {m : MethodId} {below : List Frame} {meth : Method} {c : Code} {b L : Nat} {xs : Nat → Int32} {z : Nat} {G : Gl} (X : LCX p l e s m below meth c b L xs z G) {Q : State → Prop} {σ : SG} {ν : NU} {ρ : RH} {lo : Int64} {ad : Nat → Nat → Nat} {H : Heap} {locs : List Loc} {ls : Array Slot} {cells slots i n np : Nat} (hi : i + 5 ≤ L) (hW : WP z G ad (σ, ν, ρ, lo) H) (hS : va_S (Az z) s.heap H locs) (hZ : SIM σ ν ρ n np) (hl : lv_has ls 7 [(0, .ref b), (1, .ref (ad 0 0)), (2, .ref (ad 30 0)), (3, .ref (ad 31 0)), (4, .int (nI i))]) (hc : cells + 54 ≤ 601024) (hs : slots + 2578 ≤ 7293034)
    (kk : ∀ (σ : SG) (ν : NU) (ρ : RH) (lo : Int64) (ad : Nat → Nat → Nat) (n np : Nat) (H : Heap) (locs : List Loc) (ls : Array Slot), WP z G ad (σ, ν, ρ, lo) H → va_S (Az z) s.heap H locs → SIM σ ν ρ n np → lv_has ls 7 [(0, .ref b), (1, .ref (ad 0 0)), (2, .ref (ad 30 0)), (3, .ref (ad 31 0)), (4, .int (nI i))] → W p l e room_1 s m #[Value.ref b] below meth c H locs (cells + 54) (slots + 2578) Q (F0 m 1439 ls [])) : W p l e room_1 s m #[Value.ref b] below meth c H locs cells slots Q (F0 m 972 ls []) := by
  obtain ⟨hx, hb, hml, hown, hts, hE, hz, hlt, hX, hbl, hbA, hL⟩ := X
  obtain ⟨k, r, hwc, hwr⟩ := z_words hZ ((xs (nI i + 1).toNatClampNeg))
  refine lv_aload_n hx hb dL_law_972 rfl (lv_at hl 1 rfl) ?_
  refine lv_aload_n hx hb dL_law_973 rfl (lv_at hl 0 rfl) ?_
  refine lv_iload hx hb dL_law_974 (lv_at hl 4 rfl) ?_
  refine lv_iconst (v := (1 : Int32)) hx hb dL_law_976 (by decide) ?_
  refine lv_iadd hx hb dL_law_977 ?_
  refine va_sld hx hb hX hbl hbA hS (in_arg hi hL (j := 1) (by decide)) dL_law_978 ?_
  refine lv_aload_n hx hb dL_law_979 rfl (lv_at hl 3 rfl) ?_
  refine k_SW (rest := []) (As := [.ref (ad 0 0), .int (xs (nI i + 1).toNatClampNeg), .ref (ad 31 0)]) ⟨hx, hb, hml, hown, hts⟩ hE hz hS hW (mtL_words l hlt z G ad σ ν ρ lo ((xs (nI i + 1).toNatClampNeg)) k r hwc) (vx_cwSW 3 hts gL_law_L_words rfl rfl rfl (by decide +kernel) ⟨Nat.le_of_ble_eq_true rfl, Nat.le_of_ble_eq_true rfl⟩) rfl hl.1 rfl (Nat.le_of_ble_eq_true rfl) dL_law_980 ⟨by show cells + 1 ≤ 601024; omega, by show slots + 6 ≤ 7293034; omega⟩ (fun k9 S9 ad9 H locs hp hW hS => ?_)
  obtain ⟨ek, t9, u9, lo9, e9, hXt, hlo, hP⟩ := hp
  dsimp only at e9 hXt
  subst e9
  have hl : lv_has ls 7 [(0, .ref b), (1, .ref (ad9 0 0)), (2, .ref (ad9 30 0)), (3, .ref (ad9 31 0)), (4, .int (nI i))] := by rw [(hXt 0 0 (by decide) rfl).2, (hXt 30 0 (by decide) rfl).2, (hXt 31 0 (by decide) rfl).2]; exact hl
  refine lv_istore (lv' := [(5, .int k9), (0, .ref b), (1, .ref (ad9 0 0)), (2, .ref (ad9 30 0)), (3, .ref (ad9 31 0)), (4, .int (nI i))]) hx hb dL_law_983 hl (by decide) rfl (fun ls hl => ?_)
  refine lv_aload_n hx hb dL_law_985 rfl (lv_at hl 3 rfl) ?_
  refine lv_aload_n hx hb dL_law_986 rfl (lv_at hl 1 rfl) ?_
  refine lv_iload hx hb dL_law_987 (lv_at hl 5 rfl) ?_
  refine lv_iconst (v := (1 : Int32)) hx hb dL_law_989 (by decide) ?_
  refine lv_iadd hx hb dL_law_990 ?_
  refine va_sld hx hb hX hbl hbA hS (in_arg hi hL (j := 1) (by decide)) dL_law_991 ?_
  refine k_Vi (rest := []) (As := [.int (xs (nI i + 1).toNatClampNeg)]) ⟨hx, hb, hml, hown, hts⟩ hE hz hS hW (mtX7_words l z G ad9 t9 u9 ρ lo9 ((xs (nI i + 1).toNatClampNeg)) _ hwr) (cwV 1 hts gL_law_X7_words rfl rfl rfl (by decide +kernel) ⟨Nat.le_of_ble_eq_true rfl, Nat.le_of_ble_eq_true rfl⟩) (r_recv hE hW 30 0 rfl (C := RX7) (ci := 10) rfl rfl) rfl hl.1 rfl (Nat.le_of_ble_eq_true rfl) dL_law_992 ⟨by show (cells + 1) + 0 ≤ 601024; omega, by show (slots + 6) + 0 ≤ 7293034; omega⟩ (fun b9 S9 H locs hp hW hS => ?_)
  obtain ⟨ρ9, rfl, hq1, hq2, hR⟩ := hp
  refine lv_istore (lv' := [(6, .int b9), (5, .int k9), (0, .ref b), (1, .ref (ad9 0 0)), (2, .ref (ad9 30 0)), (3, .ref (ad9 31 0)), (4, .int (nI i))]) hx hb dL_law_995 hl (by decide) rfl (fun ls hl => ?_)
  refine lv_aload_n hx hb dL_law_997 rfl (lv_at hl 4 rfl) ?_
  refine k_Vi (rest := []) (As := []) ⟨hx, hb, hml, hown, hts⟩ hE hz hS hW (mtX7_thrown l z G ad9 t9 u9 ρ9 lo9 (fun r9 => r9 = ρ9 48 0) (by unfold wpX7_thrown; exact rfl)) (cwV 0 hts gL_law_X7_thrown rfl rfl rfl (by decide +kernel) ⟨Nat.le_of_ble_eq_true rfl, Nat.le_of_ble_eq_true rfl⟩) (r_recv hE hW 30 0 rfl (C := RX7) (ci := 10) rfl rfl) rfl hl.1 rfl (Nat.le_of_ble_eq_true rfl) dL_law_998 ⟨by show (cells + 1) + 0 ≤ 601024; omega, by show (slots + 6) + 0 ≤ 7293034; omega⟩ (fun c9 S9 H locs hp hW hS => ?_)
  obtain ⟨rfl, rfl⟩ := hp
  refine lv_iload hx hb dL_law_1001 (lv_at hl 1 rfl) ?_
  refine lv_icmp_eq (tgt := 1008) hx hb dL_law_1003 (by decide) (fun c8 => ?_) (fun c8 => absurd (hq1.trans ek.symm) c8)
  have hZ9 : ∃ n np : Nat, SIM t9 u9 ρ9 n np := by
    obtain ⟨e1, e2⟩ := hP
    subst e1 e2
    exact ⟨n, np, hZ.lo hR⟩
  obtain ⟨n9, np9, hZ9⟩ := hZ9
  have hG : W p l e room_1 s m #[Value.ref b] below meth c H locs (cells + 1) (slots + 6) Q (F0 m 1025 ls []) := by
    refine lv_goto (tgt := 1439) hx hb dL_law_1025 (by decide) ?_
    refine W.widen (k := cells + 54) (n := slots + 2578) (by omega) (by omega) ?_
    exact kk t9 u9 ρ9 lo9 ad9 n9 np9 H locs ls hW hS hZ9 (lv_sub hl [2, 3, 4, 5, 6] rfl)
  refine lv_iload hx hb dL_law_1008 (lv_at hl 1 rfl) ?_
  refine lv_if_ne (tgt := 1025) hx hb dL_law_1010 (by decide) (fun c8 => hG) (fun c8 => ?_)
  refine lv_aload_n hx hb dL_law_1013 rfl (lv_at hl 5 rfl) ?_
  refine lv_iconst (v := (0 : Int32)) hx hb dL_law_1014 (by decide) ?_
  refine r_lald hx hb hE hW (lo := lo9) rfl dL_law_1015 ?_
  refine lv_iload hx hb dL_law_1016 (lv_at hl 0 rfl) ?_
  refine lv_i2l (v := b9.toInt64) hx hb dL_law_1018 rfl ?_
  refine W.lcmp hx hb dL_law_1019 ?_
  refine lv_if_eq (tgt := 1025) hx hb dL_law_1020 (by decide) (fun q => hG) (fun q => absurd ?_ q)
  rw [hlo (ek.symm.trans c8), hq2 (ek.symm.trans c8)]
  exact lcmp_self
set_option maxHeartbeats 2000000 in
set_option maxRecDepth 100000 in
theorem law_c14 {p : Program} {l : Launch} {e : Env} {s : State} {m : MethodId} {below : List Frame} {meth : Method} {c : Code} {b L : Nat} {xs : Nat → Int32} {z : Nat} {G : Gl} (X : LCX p l e s m below meth c b L xs z G) {Q : State → Prop} {σ : SG} {ν : NU} {ρ : RH} {lo : Int64} {ad : Nat → Nat → Nat} {H : Heap} {locs : List Loc} {ls : Array Slot} {cells slots i n np : Nat} (hi : i + 5 ≤ L) (hW : WP z G ad (σ, ν, ρ, lo) H) (hS : va_S (Az z) s.heap H locs) (hZ : SIM σ ν ρ n np) (hl : lv_has ls 7 [(0, .ref b), (1, .ref (ad 0 0)), (2, .ref (ad 30 0)), (3, .ref (ad 31 0)), (4, .int (nI i))]) (hc : cells + 54 ≤ 601024) (hs : slots + 2578 ≤ 7293034)
    (kk : ∀ (σ : SG) (ν : NU) (ρ : RH) (lo : Int64) (ad : Nat → Nat → Nat) (n np : Nat) (H : Heap) (locs : List Loc) (ls : Array Slot), WP z G ad (σ, ν, ρ, lo) H → va_S (Az z) s.heap H locs → SIM σ ν ρ n np → lv_has ls 7 [(0, .ref b), (1, .ref (ad 0 0)), (2, .ref (ad 30 0)), (3, .ref (ad 31 0)), (4, .int (nI i))] → W p l e room_1 s m #[Value.ref b] below meth c H locs (cells + 54) (slots + 2578) Q (F0 m 1439 ls [])) : W p l e room_1 s m #[Value.ref b] below meth c H locs cells slots Q (F0 m 1028 ls []) := by
  obtain ⟨hx, hb, hml, hown, hts, hE, hz, hlt, hX, hbl, hbA, hL⟩ := X
  obtain ⟨k, r, hwc, hwr⟩ := z_wordAt hZ ((xs (nI i + 1).toNatClampNeg)) ((xs (nI i + 2).toNatClampNeg))
  refine lv_aload_n hx hb dL_law_1028 rfl (lv_at hl 1 rfl) ?_
  refine lv_aload_n hx hb dL_law_1029 rfl (lv_at hl 0 rfl) ?_
  refine lv_iload hx hb dL_law_1030 (lv_at hl 4 rfl) ?_
  refine lv_iconst (v := (1 : Int32)) hx hb dL_law_1032 (by decide) ?_
  refine lv_iadd hx hb dL_law_1033 ?_
  refine va_sld hx hb hX hbl hbA hS (in_arg hi hL (j := 1) (by decide)) dL_law_1034 ?_
  refine lv_aload_n hx hb dL_law_1035 rfl (lv_at hl 0 rfl) ?_
  refine lv_iload hx hb dL_law_1036 (lv_at hl 4 rfl) ?_
  refine lv_iconst (v := (2 : Int32)) hx hb dL_law_1038 (by decide) ?_
  refine lv_iadd hx hb dL_law_1039 ?_
  refine va_sld hx hb hX hbl hbA hS (in_arg hi hL (j := 2) (by decide)) dL_law_1040 ?_
  refine lv_aload_n hx hb dL_law_1041 rfl (lv_at hl 3 rfl) ?_
  refine k_SW (rest := []) (As := [.ref (ad 0 0), .int (xs (nI i + 1).toNatClampNeg), .int (xs (nI i + 2).toNatClampNeg), .ref (ad 31 0)]) ⟨hx, hb, hml, hown, hts⟩ hE hz hS hW (mtL_wordAt l hlt z G ad σ ν ρ lo ((xs (nI i + 1).toNatClampNeg)) ((xs (nI i + 2).toNatClampNeg)) k r hwc) (vx_cwSW 4 hts gL_law_L_wordAt rfl rfl rfl (by decide +kernel) ⟨Nat.le_of_ble_eq_true rfl, Nat.le_of_ble_eq_true rfl⟩) rfl hl.1 rfl (Nat.le_of_ble_eq_true rfl) dL_law_1042 ⟨by show cells + 2 ≤ 601024; omega, by show slots + 12 ≤ 7293034; omega⟩ (fun k9 S9 ad9 H locs hp hW hS => ?_)
  obtain ⟨ek, t9, u9, lo9, e9, hXt, hlo, hP⟩ := hp
  dsimp only at e9 hXt
  subst e9
  have hl : lv_has ls 7 [(0, .ref b), (1, .ref (ad9 0 0)), (2, .ref (ad9 30 0)), (3, .ref (ad9 31 0)), (4, .int (nI i))] := by rw [(hXt 0 0 (by decide) rfl).2, (hXt 30 0 (by decide) rfl).2, (hXt 31 0 (by decide) rfl).2]; exact hl
  refine lv_istore (lv' := [(5, .int k9), (0, .ref b), (1, .ref (ad9 0 0)), (2, .ref (ad9 30 0)), (3, .ref (ad9 31 0)), (4, .int (nI i))]) hx hb dL_law_1045 hl (by decide) rfl (fun ls hl => ?_)
  refine lv_aload_n hx hb dL_law_1047 rfl (lv_at hl 3 rfl) ?_
  refine lv_aload_n hx hb dL_law_1048 rfl (lv_at hl 1 rfl) ?_
  refine lv_iload hx hb dL_law_1049 (lv_at hl 5 rfl) ?_
  refine lv_iconst (v := (1 : Int32)) hx hb dL_law_1051 (by decide) ?_
  refine lv_iadd hx hb dL_law_1052 ?_
  refine va_sld hx hb hX hbl hbA hS (in_arg hi hL (j := 1) (by decide)) dL_law_1053 ?_
  refine lv_aload_n hx hb dL_law_1054 rfl (lv_at hl 1 rfl) ?_
  refine lv_iload hx hb dL_law_1055 (lv_at hl 5 rfl) ?_
  refine lv_iconst (v := (2 : Int32)) hx hb dL_law_1057 (by decide) ?_
  refine lv_iadd hx hb dL_law_1058 ?_
  refine va_sld hx hb hX hbl hbA hS (in_arg hi hL (j := 2) (by decide)) dL_law_1059 ?_
  refine k_Vi (rest := []) (As := [.int (xs (nI i + 1).toNatClampNeg), .int (xs (nI i + 2).toNatClampNeg)]) ⟨hx, hb, hml, hown, hts⟩ hE hz hS hW (mtX7_wordAt l z G ad9 t9 u9 ρ lo9 ((xs (nI i + 1).toNatClampNeg)) ((xs (nI i + 2).toNatClampNeg)) _ hwr) (cwV 2 hts gL_law_X7_wordAt rfl rfl rfl (by decide +kernel) ⟨Nat.le_of_ble_eq_true rfl, Nat.le_of_ble_eq_true rfl⟩) (r_recv hE hW 30 0 rfl (C := RX7) (ci := 10) rfl rfl) rfl hl.1 rfl (Nat.le_of_ble_eq_true rfl) dL_law_1060 ⟨by show (cells + 2) + 0 ≤ 601024; omega, by show (slots + 12) + 0 ≤ 7293034; omega⟩ (fun b9 S9 H locs hp hW hS => ?_)
  obtain ⟨ρ9, rfl, hq1, hq2, hR⟩ := hp
  refine lv_istore (lv' := [(6, .int b9), (5, .int k9), (0, .ref b), (1, .ref (ad9 0 0)), (2, .ref (ad9 30 0)), (3, .ref (ad9 31 0)), (4, .int (nI i))]) hx hb dL_law_1063 hl (by decide) rfl (fun ls hl => ?_)
  refine lv_aload_n hx hb dL_law_1065 rfl (lv_at hl 4 rfl) ?_
  refine k_Vi (rest := []) (As := []) ⟨hx, hb, hml, hown, hts⟩ hE hz hS hW (mtX7_thrown l z G ad9 t9 u9 ρ9 lo9 (fun r9 => r9 = ρ9 48 0) (by unfold wpX7_thrown; exact rfl)) (cwV 0 hts gL_law_X7_thrown rfl rfl rfl (by decide +kernel) ⟨Nat.le_of_ble_eq_true rfl, Nat.le_of_ble_eq_true rfl⟩) (r_recv hE hW 30 0 rfl (C := RX7) (ci := 10) rfl rfl) rfl hl.1 rfl (Nat.le_of_ble_eq_true rfl) dL_law_1066 ⟨by show (cells + 2) + 0 ≤ 601024; omega, by show (slots + 12) + 0 ≤ 7293034; omega⟩ (fun c9 S9 H locs hp hW hS => ?_)
  obtain ⟨rfl, rfl⟩ := hp
  refine lv_iload hx hb dL_law_1069 (lv_at hl 1 rfl) ?_
  refine lv_icmp_eq (tgt := 1076) hx hb dL_law_1071 (by decide) (fun c8 => ?_) (fun c8 => absurd (hq1.trans ek.symm) c8)
  have hZ9 : ∃ n np : Nat, SIM t9 u9 ρ9 n np := by
    obtain ⟨e1, e2⟩ := hP
    subst e1 e2
    exact ⟨n, np, hZ.lo hR⟩
  obtain ⟨n9, np9, hZ9⟩ := hZ9
  have hG : W p l e room_1 s m #[Value.ref b] below meth c H locs (cells + 2) (slots + 12) Q (F0 m 1093 ls []) := by
    refine lv_goto (tgt := 1439) hx hb dL_law_1093 (by decide) ?_
    refine W.widen (k := cells + 54) (n := slots + 2578) (by omega) (by omega) ?_
    exact kk t9 u9 ρ9 lo9 ad9 n9 np9 H locs ls hW hS hZ9 (lv_sub hl [2, 3, 4, 5, 6] rfl)
  refine lv_iload hx hb dL_law_1076 (lv_at hl 1 rfl) ?_
  refine lv_if_ne (tgt := 1093) hx hb dL_law_1078 (by decide) (fun c8 => hG) (fun c8 => ?_)
  refine lv_aload_n hx hb dL_law_1081 rfl (lv_at hl 5 rfl) ?_
  refine lv_iconst (v := (0 : Int32)) hx hb dL_law_1082 (by decide) ?_
  refine r_lald hx hb hE hW (lo := lo9) rfl dL_law_1083 ?_
  refine lv_iload hx hb dL_law_1084 (lv_at hl 0 rfl) ?_
  refine lv_i2l (v := b9.toInt64) hx hb dL_law_1086 rfl ?_
  refine W.lcmp hx hb dL_law_1087 ?_
  refine lv_if_eq (tgt := 1093) hx hb dL_law_1088 (by decide) (fun q => hG) (fun q => absurd ?_ q)
  rw [hlo (ek.symm.trans c8), hq2 (ek.symm.trans c8)]
  exact lcmp_self
set_option maxHeartbeats 2000000 in
set_option maxRecDepth 100000 in
theorem law_c15 {p : Program} {l : Launch} {e : Env} {s : State} {m : MethodId} {below : List Frame} {meth : Method} {c : Code} {b L : Nat} {xs : Nat → Int32} {z : Nat} {G : Gl} (X : LCX p l e s m below meth c b L xs z G) {Q : State → Prop} {σ : SG} {ν : NU} {ρ : RH} {lo : Int64} {ad : Nat → Nat → Nat} {H : Heap} {locs : List Loc} {ls : Array Slot} {cells slots i n np : Nat} (hi : i + 5 ≤ L) (hW : WP z G ad (σ, ν, ρ, lo) H) (hS : va_S (Az z) s.heap H locs) (hZ : SIM σ ν ρ n np) (hl : lv_has ls 7 [(0, .ref b), (1, .ref (ad 0 0)), (2, .ref (ad 30 0)), (3, .ref (ad 31 0)), (4, .int (nI i))]) (hc : cells + 54 ≤ 601024) (hs : slots + 2578 ≤ 7293034)
    (kk : ∀ (σ : SG) (ν : NU) (ρ : RH) (lo : Int64) (ad : Nat → Nat → Nat) (n np : Nat) (H : Heap) (locs : List Loc) (ls : Array Slot), WP z G ad (σ, ν, ρ, lo) H → va_S (Az z) s.heap H locs → SIM σ ν ρ n np → lv_has ls 7 [(0, .ref b), (1, .ref (ad 0 0)), (2, .ref (ad 30 0)), (3, .ref (ad 31 0)), (4, .int (nI i))] → W p l e room_1 s m #[Value.ref b] below meth c H locs (cells + 54) (slots + 2578) Q (F0 m 1439 ls [])) : W p l e room_1 s m #[Value.ref b] below meth c H locs cells slots Q (F0 m 1096 ls []) := by
  obtain ⟨hx, hb, hml, hown, hts, hE, hz, hlt, hX, hbl, hbA, hL⟩ := X
  obtain ⟨k, r, P, R, hwc, hwr, hsim⟩ := z_wordAnew hZ ((xs (nI i + 1).toNatClampNeg)) ((xs (nI i + 2).toNatClampNeg))
  refine lv_aload_n hx hb dL_law_1096 rfl (lv_at hl 1 rfl) ?_
  refine lv_aload_n hx hb dL_law_1097 rfl (lv_at hl 0 rfl) ?_
  refine lv_iload hx hb dL_law_1098 (lv_at hl 4 rfl) ?_
  refine lv_iconst (v := (1 : Int32)) hx hb dL_law_1100 (by decide) ?_
  refine lv_iadd hx hb dL_law_1101 ?_
  refine va_sld hx hb hX hbl hbA hS (in_arg hi hL (j := 1) (by decide)) dL_law_1102 ?_
  refine lv_aload_n hx hb dL_law_1103 rfl (lv_at hl 0 rfl) ?_
  refine lv_iload hx hb dL_law_1104 (lv_at hl 4 rfl) ?_
  refine lv_iconst (v := (2 : Int32)) hx hb dL_law_1106 (by decide) ?_
  refine lv_iadd hx hb dL_law_1107 ?_
  refine va_sld hx hb hX hbl hbA hS (in_arg hi hL (j := 2) (by decide)) dL_law_1108 ?_
  refine lv_aload_n hx hb dL_law_1109 rfl (lv_at hl 3 rfl) ?_
  refine k_SW (rest := []) (As := [.ref (ad 0 0), .int (xs (nI i + 1).toNatClampNeg), .int (xs (nI i + 2).toNatClampNeg), .ref (ad 31 0)]) ⟨hx, hb, hml, hown, hts⟩ hE hz hS hW (mtL_wordAnew l hlt z G ad σ ν ρ lo ((xs (nI i + 1).toNatClampNeg)) ((xs (nI i + 2).toNatClampNeg)) k r P hwc) (vx_cwSW 4 hts gL_law_L_wordAnew rfl rfl rfl (by decide +kernel) ⟨Nat.le_of_ble_eq_true rfl, Nat.le_of_ble_eq_true rfl⟩) rfl hl.1 rfl (Nat.le_of_ble_eq_true rfl) dL_law_1110 ⟨by show cells + 2 ≤ 601024; omega, by show slots + 12 ≤ 7293034; omega⟩ (fun k9 S9 ad9 H locs hp hW hS => ?_)
  obtain ⟨ek, t9, u9, lo9, e9, hXt, hlo, hP⟩ := hp
  dsimp only at e9 hXt
  subst e9
  have hl : lv_has ls 7 [(0, .ref b), (1, .ref (ad9 0 0)), (2, .ref (ad9 30 0)), (3, .ref (ad9 31 0)), (4, .int (nI i))] := by rw [(hXt 0 0 (by decide) rfl).2, (hXt 30 0 (by decide) rfl).2, (hXt 31 0 (by decide) rfl).2]; exact hl
  refine lv_istore (lv' := [(5, .int k9), (0, .ref b), (1, .ref (ad9 0 0)), (2, .ref (ad9 30 0)), (3, .ref (ad9 31 0)), (4, .int (nI i))]) hx hb dL_law_1113 hl (by decide) rfl (fun ls hl => ?_)
  refine lv_aload_n hx hb dL_law_1115 rfl (lv_at hl 3 rfl) ?_
  refine lv_aload_n hx hb dL_law_1116 rfl (lv_at hl 1 rfl) ?_
  refine lv_iload hx hb dL_law_1117 (lv_at hl 5 rfl) ?_
  refine lv_iconst (v := (1 : Int32)) hx hb dL_law_1119 (by decide) ?_
  refine lv_iadd hx hb dL_law_1120 ?_
  refine va_sld hx hb hX hbl hbA hS (in_arg hi hL (j := 1) (by decide)) dL_law_1121 ?_
  refine lv_aload_n hx hb dL_law_1122 rfl (lv_at hl 1 rfl) ?_
  refine lv_iload hx hb dL_law_1123 (lv_at hl 5 rfl) ?_
  refine lv_iconst (v := (2 : Int32)) hx hb dL_law_1125 (by decide) ?_
  refine lv_iadd hx hb dL_law_1126 ?_
  refine va_sld hx hb hX hbl hbA hS (in_arg hi hL (j := 2) (by decide)) dL_law_1127 ?_
  refine k_Vi (rest := []) (As := [.int (xs (nI i + 1).toNatClampNeg), .int (xs (nI i + 2).toNatClampNeg)]) ⟨hx, hb, hml, hown, hts⟩ hE hz hS hW (mtX7_wordAnew l z G ad9 t9 u9 ρ lo9 ((xs (nI i + 1).toNatClampNeg)) ((xs (nI i + 2).toNatClampNeg)) _ hwr) (cwV 2 hts gL_law_X7_wordAnew rfl rfl rfl (by decide +kernel) ⟨Nat.le_of_ble_eq_true rfl, Nat.le_of_ble_eq_true rfl⟩) (r_recv hE hW 30 0 rfl (C := RX7) (ci := 10) rfl rfl) rfl hl.1 rfl (Nat.le_of_ble_eq_true rfl) dL_law_1128 ⟨by show (cells + 2) + 0 ≤ 601024; omega, by show (slots + 12) + 0 ≤ 7293034; omega⟩ (fun b9 S9 H locs hp hW hS => ?_)
  obtain ⟨ρ9, rfl, hq1, hq2, hR⟩ := hp
  refine lv_istore (lv' := [(6, .int b9), (5, .int k9), (0, .ref b), (1, .ref (ad9 0 0)), (2, .ref (ad9 30 0)), (3, .ref (ad9 31 0)), (4, .int (nI i))]) hx hb dL_law_1131 hl (by decide) rfl (fun ls hl => ?_)
  refine lv_aload_n hx hb dL_law_1133 rfl (lv_at hl 4 rfl) ?_
  refine k_Vi (rest := []) (As := []) ⟨hx, hb, hml, hown, hts⟩ hE hz hS hW (mtX7_thrown l z G ad9 t9 u9 ρ9 lo9 (fun r9 => r9 = ρ9 48 0) (by unfold wpX7_thrown; exact rfl)) (cwV 0 hts gL_law_X7_thrown rfl rfl rfl (by decide +kernel) ⟨Nat.le_of_ble_eq_true rfl, Nat.le_of_ble_eq_true rfl⟩) (r_recv hE hW 30 0 rfl (C := RX7) (ci := 10) rfl rfl) rfl hl.1 rfl (Nat.le_of_ble_eq_true rfl) dL_law_1134 ⟨by show (cells + 2) + 0 ≤ 601024; omega, by show (slots + 12) + 0 ≤ 7293034; omega⟩ (fun c9 S9 H locs hp hW hS => ?_)
  obtain ⟨rfl, rfl⟩ := hp
  refine lv_iload hx hb dL_law_1137 (lv_at hl 1 rfl) ?_
  refine lv_icmp_eq (tgt := 1144) hx hb dL_law_1139 (by decide) (fun c8 => ?_) (fun c8 => absurd (hq1.trans ek.symm) c8)
  have hZ9 : ∃ n np : Nat, SIM t9 u9 ρ9 n np := hsim _ _ _ hP hR
  obtain ⟨n9, np9, hZ9⟩ := hZ9
  have hG : W p l e room_1 s m #[Value.ref b] below meth c H locs (cells + 2) (slots + 12) Q (F0 m 1161 ls []) := by
    refine lv_goto (tgt := 1439) hx hb dL_law_1161 (by decide) ?_
    refine W.widen (k := cells + 54) (n := slots + 2578) (by omega) (by omega) ?_
    exact kk t9 u9 ρ9 lo9 ad9 n9 np9 H locs ls hW hS hZ9 (lv_sub hl [2, 3, 4, 5, 6] rfl)
  refine lv_iload hx hb dL_law_1144 (lv_at hl 1 rfl) ?_
  refine lv_if_ne (tgt := 1161) hx hb dL_law_1146 (by decide) (fun c8 => hG) (fun c8 => ?_)
  refine lv_aload_n hx hb dL_law_1149 rfl (lv_at hl 5 rfl) ?_
  refine lv_iconst (v := (0 : Int32)) hx hb dL_law_1150 (by decide) ?_
  refine r_lald hx hb hE hW (lo := lo9) rfl dL_law_1151 ?_
  refine lv_iload hx hb dL_law_1152 (lv_at hl 0 rfl) ?_
  refine lv_i2l (v := b9.toInt64) hx hb dL_law_1154 rfl ?_
  refine W.lcmp hx hb dL_law_1155 ?_
  refine lv_if_eq (tgt := 1161) hx hb dL_law_1156 (by decide) (fun q => hG) (fun q => absurd ?_ q)
  rw [hlo (ek.symm.trans c8), hq2 (ek.symm.trans c8)]
  exact lcmp_self
set_option maxHeartbeats 2000000 in
set_option maxRecDepth 100000 in
theorem law_c16 {p : Program} {l : Launch} {e : Env} {s : State} {m : MethodId} {below : List Frame} {meth : Method} {c : Code} {b L : Nat} {xs : Nat → Int32} {z : Nat} {G : Gl} (X : LCX p l e s m below meth c b L xs z G) {Q : State → Prop} {σ : SG} {ν : NU} {ρ : RH} {lo : Int64} {ad : Nat → Nat → Nat} {H : Heap} {locs : List Loc} {ls : Array Slot} {cells slots i n np : Nat} (hi : i + 5 ≤ L) (hW : WP z G ad (σ, ν, ρ, lo) H) (hS : va_S (Az z) s.heap H locs) (hZ : SIM σ ν ρ n np) (hl : lv_has ls 7 [(0, .ref b), (1, .ref (ad 0 0)), (2, .ref (ad 30 0)), (3, .ref (ad 31 0)), (4, .int (nI i))]) (hc : cells + 54 ≤ 601024) (hs : slots + 2578 ≤ 7293034)
    (kk : ∀ (σ : SG) (ν : NU) (ρ : RH) (lo : Int64) (ad : Nat → Nat → Nat) (n np : Nat) (H : Heap) (locs : List Loc) (ls : Array Slot), WP z G ad (σ, ν, ρ, lo) H → va_S (Az z) s.heap H locs → SIM σ ν ρ n np → lv_has ls 7 [(0, .ref b), (1, .ref (ad 0 0)), (2, .ref (ad 30 0)), (3, .ref (ad 31 0)), (4, .int (nI i))] → W p l e room_1 s m #[Value.ref b] below meth c H locs (cells + 54) (slots + 2578) Q (F0 m 1439 ls [])) : W p l e room_1 s m #[Value.ref b] below meth c H locs cells slots Q (F0 m 1164 ls []) := by
  obtain ⟨hx, hb, hml, hown, hts, hE, hz, hlt, hX, hbl, hbA, hL⟩ := X
  obtain ⟨k, r, hwc, hwr⟩ := z_origin hZ ((xs (nI i + 1).toNatClampNeg)) ((xs (nI i + 2).toNatClampNeg))
  refine lv_aload_n hx hb dL_law_1164 rfl (lv_at hl 1 rfl) ?_
  refine lv_aload_n hx hb dL_law_1165 rfl (lv_at hl 0 rfl) ?_
  refine lv_iload hx hb dL_law_1166 (lv_at hl 4 rfl) ?_
  refine lv_iconst (v := (1 : Int32)) hx hb dL_law_1168 (by decide) ?_
  refine lv_iadd hx hb dL_law_1169 ?_
  refine va_sld hx hb hX hbl hbA hS (in_arg hi hL (j := 1) (by decide)) dL_law_1170 ?_
  refine lv_aload_n hx hb dL_law_1171 rfl (lv_at hl 0 rfl) ?_
  refine lv_iload hx hb dL_law_1172 (lv_at hl 4 rfl) ?_
  refine lv_iconst (v := (2 : Int32)) hx hb dL_law_1174 (by decide) ?_
  refine lv_iadd hx hb dL_law_1175 ?_
  refine va_sld hx hb hX hbl hbA hS (in_arg hi hL (j := 2) (by decide)) dL_law_1176 ?_
  refine lv_aload_n hx hb dL_law_1177 rfl (lv_at hl 3 rfl) ?_
  refine k_SW (rest := []) (As := [.ref (ad 0 0), .int (xs (nI i + 1).toNatClampNeg), .int (xs (nI i + 2).toNatClampNeg), .ref (ad 31 0)]) ⟨hx, hb, hml, hown, hts⟩ hE hz hS hW (mtL_origin l hlt z G ad σ ν ρ lo ((xs (nI i + 1).toNatClampNeg)) ((xs (nI i + 2).toNatClampNeg)) k r hwc) (vx_cwSW 4 hts gL_law_L_origin rfl rfl rfl (by decide +kernel) ⟨Nat.le_of_ble_eq_true rfl, Nat.le_of_ble_eq_true rfl⟩) rfl hl.1 rfl (Nat.le_of_ble_eq_true rfl) dL_law_1178 ⟨by show cells + 2 ≤ 601024; omega, by show slots + 12 ≤ 7293034; omega⟩ (fun k9 S9 ad9 H locs hp hW hS => ?_)
  obtain ⟨ek, t9, u9, lo9, e9, hXt, hlo, hP⟩ := hp
  dsimp only at e9 hXt
  subst e9
  have hl : lv_has ls 7 [(0, .ref b), (1, .ref (ad9 0 0)), (2, .ref (ad9 30 0)), (3, .ref (ad9 31 0)), (4, .int (nI i))] := by rw [(hXt 0 0 (by decide) rfl).2, (hXt 30 0 (by decide) rfl).2, (hXt 31 0 (by decide) rfl).2]; exact hl
  refine lv_istore (lv' := [(5, .int k9), (0, .ref b), (1, .ref (ad9 0 0)), (2, .ref (ad9 30 0)), (3, .ref (ad9 31 0)), (4, .int (nI i))]) hx hb dL_law_1181 hl (by decide) rfl (fun ls hl => ?_)
  refine lv_aload_n hx hb dL_law_1183 rfl (lv_at hl 3 rfl) ?_
  refine lv_aload_n hx hb dL_law_1184 rfl (lv_at hl 1 rfl) ?_
  refine lv_iload hx hb dL_law_1185 (lv_at hl 5 rfl) ?_
  refine lv_iconst (v := (1 : Int32)) hx hb dL_law_1187 (by decide) ?_
  refine lv_iadd hx hb dL_law_1188 ?_
  refine va_sld hx hb hX hbl hbA hS (in_arg hi hL (j := 1) (by decide)) dL_law_1189 ?_
  refine lv_aload_n hx hb dL_law_1190 rfl (lv_at hl 1 rfl) ?_
  refine lv_iload hx hb dL_law_1191 (lv_at hl 5 rfl) ?_
  refine lv_iconst (v := (2 : Int32)) hx hb dL_law_1193 (by decide) ?_
  refine lv_iadd hx hb dL_law_1194 ?_
  refine va_sld hx hb hX hbl hbA hS (in_arg hi hL (j := 2) (by decide)) dL_law_1195 ?_
  refine k_Vi (rest := []) (As := [.int (xs (nI i + 1).toNatClampNeg), .int (xs (nI i + 2).toNatClampNeg)]) ⟨hx, hb, hml, hown, hts⟩ hE hz hS hW (mtX7_origin l z G ad9 t9 u9 ρ lo9 ((xs (nI i + 1).toNatClampNeg)) ((xs (nI i + 2).toNatClampNeg)) _ hwr) (cwV 2 hts gL_law_X7_origin rfl rfl rfl (by decide +kernel) ⟨Nat.le_of_ble_eq_true rfl, Nat.le_of_ble_eq_true rfl⟩) (r_recv hE hW 30 0 rfl (C := RX7) (ci := 10) rfl rfl) rfl hl.1 rfl (Nat.le_of_ble_eq_true rfl) dL_law_1196 ⟨by show (cells + 2) + 0 ≤ 601024; omega, by show (slots + 12) + 0 ≤ 7293034; omega⟩ (fun b9 S9 H locs hp hW hS => ?_)
  obtain ⟨ρ9, rfl, hq1, hq2, hR⟩ := hp
  refine lv_istore (lv' := [(6, .int b9), (5, .int k9), (0, .ref b), (1, .ref (ad9 0 0)), (2, .ref (ad9 30 0)), (3, .ref (ad9 31 0)), (4, .int (nI i))]) hx hb dL_law_1199 hl (by decide) rfl (fun ls hl => ?_)
  refine lv_aload_n hx hb dL_law_1201 rfl (lv_at hl 4 rfl) ?_
  refine k_Vi (rest := []) (As := []) ⟨hx, hb, hml, hown, hts⟩ hE hz hS hW (mtX7_thrown l z G ad9 t9 u9 ρ9 lo9 (fun r9 => r9 = ρ9 48 0) (by unfold wpX7_thrown; exact rfl)) (cwV 0 hts gL_law_X7_thrown rfl rfl rfl (by decide +kernel) ⟨Nat.le_of_ble_eq_true rfl, Nat.le_of_ble_eq_true rfl⟩) (r_recv hE hW 30 0 rfl (C := RX7) (ci := 10) rfl rfl) rfl hl.1 rfl (Nat.le_of_ble_eq_true rfl) dL_law_1202 ⟨by show (cells + 2) + 0 ≤ 601024; omega, by show (slots + 12) + 0 ≤ 7293034; omega⟩ (fun c9 S9 H locs hp hW hS => ?_)
  obtain ⟨rfl, rfl⟩ := hp
  refine lv_iload hx hb dL_law_1205 (lv_at hl 1 rfl) ?_
  refine lv_icmp_eq (tgt := 1212) hx hb dL_law_1207 (by decide) (fun c8 => ?_) (fun c8 => absurd (hq1.trans ek.symm) c8)
  have hZ9 : ∃ n np : Nat, SIM t9 u9 ρ9 n np := by
    obtain ⟨e1, e2⟩ := hP
    subst e1 e2
    exact ⟨n, np, hZ.lo hR⟩
  obtain ⟨n9, np9, hZ9⟩ := hZ9
  have hG : W p l e room_1 s m #[Value.ref b] below meth c H locs (cells + 2) (slots + 12) Q (F0 m 1229 ls []) := by
    refine lv_goto (tgt := 1439) hx hb dL_law_1229 (by decide) ?_
    refine W.widen (k := cells + 54) (n := slots + 2578) (by omega) (by omega) ?_
    exact kk t9 u9 ρ9 lo9 ad9 n9 np9 H locs ls hW hS hZ9 (lv_sub hl [2, 3, 4, 5, 6] rfl)
  refine lv_iload hx hb dL_law_1212 (lv_at hl 1 rfl) ?_
  refine lv_if_ne (tgt := 1229) hx hb dL_law_1214 (by decide) (fun c8 => hG) (fun c8 => ?_)
  refine lv_aload_n hx hb dL_law_1217 rfl (lv_at hl 5 rfl) ?_
  refine lv_iconst (v := (0 : Int32)) hx hb dL_law_1218 (by decide) ?_
  refine r_lald hx hb hE hW (lo := lo9) rfl dL_law_1219 ?_
  refine lv_iload hx hb dL_law_1220 (lv_at hl 0 rfl) ?_
  refine lv_i2l (v := b9.toInt64) hx hb dL_law_1222 rfl ?_
  refine W.lcmp hx hb dL_law_1223 ?_
  refine lv_if_eq (tgt := 1229) hx hb dL_law_1224 (by decide) (fun q => hG) (fun q => absurd ?_ q)
  rw [hlo (ek.symm.trans c8), hq2 (ek.symm.trans c8)]
  exact lcmp_self
set_option maxHeartbeats 2000000 in
set_option maxRecDepth 100000 in
theorem law_c17 {p : Program} {l : Launch} {e : Env} {s : State} {m : MethodId} {below : List Frame} {meth : Method} {c : Code} {b L : Nat} {xs : Nat → Int32} {z : Nat} {G : Gl} (X : LCX p l e s m below meth c b L xs z G) {Q : State → Prop} {σ : SG} {ν : NU} {ρ : RH} {lo : Int64} {ad : Nat → Nat → Nat} {H : Heap} {locs : List Loc} {ls : Array Slot} {cells slots i n np : Nat} (hi : i + 5 ≤ L) (hW : WP z G ad (σ, ν, ρ, lo) H) (hS : va_S (Az z) s.heap H locs) (hZ : SIM σ ν ρ n np) (hl : lv_has ls 7 [(0, .ref b), (1, .ref (ad 0 0)), (2, .ref (ad 30 0)), (3, .ref (ad 31 0)), (4, .int (nI i))]) (hc : cells + 54 ≤ 601024) (hs : slots + 2578 ≤ 7293034)
    (kk : ∀ (σ : SG) (ν : NU) (ρ : RH) (lo : Int64) (ad : Nat → Nat → Nat) (n np : Nat) (H : Heap) (locs : List Loc) (ls : Array Slot), WP z G ad (σ, ν, ρ, lo) H → va_S (Az z) s.heap H locs → SIM σ ν ρ n np → lv_has ls 7 [(0, .ref b), (1, .ref (ad 0 0)), (2, .ref (ad 30 0)), (3, .ref (ad 31 0)), (4, .int (nI i))] → W p l e room_1 s m #[Value.ref b] below meth c H locs (cells + 54) (slots + 2578) Q (F0 m 1439 ls [])) : W p l e room_1 s m #[Value.ref b] below meth c H locs cells slots Q (F0 m 1232 ls []) := by
  obtain ⟨hx, hb, hml, hown, hts, hE, hz, hlt, hX, hbl, hbA, hL⟩ := X
  obtain ⟨k, r, P, R, hwc, hwr, hsim⟩ := z_refers hZ ((xs (nI i + 1).toNatClampNeg)) ((xs (nI i + 2).toNatClampNeg))
  refine lv_aload_n hx hb dL_law_1232 rfl (lv_at hl 1 rfl) ?_
  refine lv_aload_n hx hb dL_law_1233 rfl (lv_at hl 0 rfl) ?_
  refine lv_iload hx hb dL_law_1234 (lv_at hl 4 rfl) ?_
  refine lv_iconst (v := (1 : Int32)) hx hb dL_law_1236 (by decide) ?_
  refine lv_iadd hx hb dL_law_1237 ?_
  refine va_sld hx hb hX hbl hbA hS (in_arg hi hL (j := 1) (by decide)) dL_law_1238 ?_
  refine lv_aload_n hx hb dL_law_1239 rfl (lv_at hl 0 rfl) ?_
  refine lv_iload hx hb dL_law_1240 (lv_at hl 4 rfl) ?_
  refine lv_iconst (v := (2 : Int32)) hx hb dL_law_1242 (by decide) ?_
  refine lv_iadd hx hb dL_law_1243 ?_
  refine va_sld hx hb hX hbl hbA hS (in_arg hi hL (j := 2) (by decide)) dL_law_1244 ?_
  refine lv_aload_n hx hb dL_law_1245 rfl (lv_at hl 3 rfl) ?_
  refine k_SW (rest := []) (As := [.ref (ad 0 0), .int (xs (nI i + 1).toNatClampNeg), .int (xs (nI i + 2).toNatClampNeg), .ref (ad 31 0)]) ⟨hx, hb, hml, hown, hts⟩ hE hz hS hW (mtL_refers l hlt z G ad σ ν ρ lo ((xs (nI i + 1).toNatClampNeg)) ((xs (nI i + 2).toNatClampNeg)) k r P hwc) (vx_cwSW 4 hts gL_law_L_refers rfl rfl rfl (by decide +kernel) ⟨Nat.le_of_ble_eq_true rfl, Nat.le_of_ble_eq_true rfl⟩) rfl hl.1 rfl (Nat.le_of_ble_eq_true rfl) dL_law_1246 ⟨by show cells + 43 ≤ 601024; omega, by show slots + 2472 ≤ 7293034; omega⟩ (fun k9 S9 ad9 H locs hp hW hS => ?_)
  obtain ⟨ek, t9, u9, lo9, e9, hXt, hlo, hP⟩ := hp
  dsimp only at e9 hXt
  subst e9
  have hl : lv_has ls 7 [(0, .ref b), (1, .ref (ad9 0 0)), (2, .ref (ad9 30 0)), (3, .ref (ad9 31 0)), (4, .int (nI i))] := by rw [(hXt 0 0 (by decide) rfl).2, (hXt 30 0 (by decide) rfl).2, (hXt 31 0 (by decide) rfl).2]; exact hl
  refine lv_istore (lv' := [(5, .int k9), (0, .ref b), (1, .ref (ad9 0 0)), (2, .ref (ad9 30 0)), (3, .ref (ad9 31 0)), (4, .int (nI i))]) hx hb dL_law_1249 hl (by decide) rfl (fun ls hl => ?_)
  refine lv_aload_n hx hb dL_law_1251 rfl (lv_at hl 3 rfl) ?_
  refine lv_aload_n hx hb dL_law_1252 rfl (lv_at hl 1 rfl) ?_
  refine lv_iload hx hb dL_law_1253 (lv_at hl 5 rfl) ?_
  refine lv_iconst (v := (1 : Int32)) hx hb dL_law_1255 (by decide) ?_
  refine lv_iadd hx hb dL_law_1256 ?_
  refine va_sld hx hb hX hbl hbA hS (in_arg hi hL (j := 1) (by decide)) dL_law_1257 ?_
  refine lv_aload_n hx hb dL_law_1258 rfl (lv_at hl 1 rfl) ?_
  refine lv_iload hx hb dL_law_1259 (lv_at hl 5 rfl) ?_
  refine lv_iconst (v := (2 : Int32)) hx hb dL_law_1261 (by decide) ?_
  refine lv_iadd hx hb dL_law_1262 ?_
  refine va_sld hx hb hX hbl hbA hS (in_arg hi hL (j := 2) (by decide)) dL_law_1263 ?_
  refine k_Vi (rest := []) (As := [.int (xs (nI i + 1).toNatClampNeg), .int (xs (nI i + 2).toNatClampNeg)]) ⟨hx, hb, hml, hown, hts⟩ hE hz hS hW (mtX7_refers l z G ad9 t9 u9 ρ lo9 ((xs (nI i + 1).toNatClampNeg)) ((xs (nI i + 2).toNatClampNeg)) _ hwr) (cwV 2 hts gL_law_X7_refers rfl rfl rfl (by decide +kernel) ⟨Nat.le_of_ble_eq_true rfl, Nat.le_of_ble_eq_true rfl⟩) (r_recv hE hW 30 0 rfl (C := RX7) (ci := 10) rfl rfl) rfl hl.1 rfl (Nat.le_of_ble_eq_true rfl) dL_law_1264 ⟨by show (cells + 43) + 0 ≤ 601024; omega, by show (slots + 2472) + 0 ≤ 7293034; omega⟩ (fun b9 S9 H locs hp hW hS => ?_)
  obtain ⟨ρ9, rfl, hq1, hq2, hR⟩ := hp
  refine lv_istore (lv' := [(6, .int b9), (5, .int k9), (0, .ref b), (1, .ref (ad9 0 0)), (2, .ref (ad9 30 0)), (3, .ref (ad9 31 0)), (4, .int (nI i))]) hx hb dL_law_1267 hl (by decide) rfl (fun ls hl => ?_)
  refine lv_aload_n hx hb dL_law_1269 rfl (lv_at hl 4 rfl) ?_
  refine k_Vi (rest := []) (As := []) ⟨hx, hb, hml, hown, hts⟩ hE hz hS hW (mtX7_thrown l z G ad9 t9 u9 ρ9 lo9 (fun r9 => r9 = ρ9 48 0) (by unfold wpX7_thrown; exact rfl)) (cwV 0 hts gL_law_X7_thrown rfl rfl rfl (by decide +kernel) ⟨Nat.le_of_ble_eq_true rfl, Nat.le_of_ble_eq_true rfl⟩) (r_recv hE hW 30 0 rfl (C := RX7) (ci := 10) rfl rfl) rfl hl.1 rfl (Nat.le_of_ble_eq_true rfl) dL_law_1270 ⟨by show (cells + 43) + 0 ≤ 601024; omega, by show (slots + 2472) + 0 ≤ 7293034; omega⟩ (fun c9 S9 H locs hp hW hS => ?_)
  obtain ⟨rfl, rfl⟩ := hp
  refine lv_iload hx hb dL_law_1273 (lv_at hl 1 rfl) ?_
  refine lv_icmp_eq (tgt := 1280) hx hb dL_law_1275 (by decide) (fun c8 => ?_) (fun c8 => absurd (hq1.trans ek.symm) c8)
  have hZ9 : ∃ n np : Nat, SIM t9 u9 ρ9 n np := hsim _ _ _ hP hR
  obtain ⟨n9, np9, hZ9⟩ := hZ9
  have hG : W p l e room_1 s m #[Value.ref b] below meth c H locs (cells + 43) (slots + 2472) Q (F0 m 1297 ls []) := by
    refine lv_goto (tgt := 1439) hx hb dL_law_1297 (by decide) ?_
    refine W.widen (k := cells + 54) (n := slots + 2578) (by omega) (by omega) ?_
    exact kk t9 u9 ρ9 lo9 ad9 n9 np9 H locs ls hW hS hZ9 (lv_sub hl [2, 3, 4, 5, 6] rfl)
  refine lv_iload hx hb dL_law_1280 (lv_at hl 1 rfl) ?_
  refine lv_if_ne (tgt := 1297) hx hb dL_law_1282 (by decide) (fun c8 => hG) (fun c8 => ?_)
  refine lv_aload_n hx hb dL_law_1285 rfl (lv_at hl 5 rfl) ?_
  refine lv_iconst (v := (0 : Int32)) hx hb dL_law_1286 (by decide) ?_
  refine r_lald hx hb hE hW (lo := lo9) rfl dL_law_1287 ?_
  refine lv_iload hx hb dL_law_1288 (lv_at hl 0 rfl) ?_
  refine lv_i2l (v := b9.toInt64) hx hb dL_law_1290 rfl ?_
  refine W.lcmp hx hb dL_law_1291 ?_
  refine lv_if_eq (tgt := 1297) hx hb dL_law_1292 (by decide) (fun q => hG) (fun q => absurd ?_ q)
  rw [hlo (ek.symm.trans c8), hq2 (ek.symm.trans c8)]
  exact lcmp_self
set_option maxHeartbeats 2000000 in
set_option maxRecDepth 100000 in
theorem law_c18 {p : Program} {l : Launch} {e : Env} {s : State} {m : MethodId} {below : List Frame} {meth : Method} {c : Code} {b L : Nat} {xs : Nat → Int32} {z : Nat} {G : Gl} (X : LCX p l e s m below meth c b L xs z G) {Q : State → Prop} {σ : SG} {ν : NU} {ρ : RH} {lo : Int64} {ad : Nat → Nat → Nat} {H : Heap} {locs : List Loc} {ls : Array Slot} {cells slots i n np : Nat} (hi : i + 5 ≤ L) (hW : WP z G ad (σ, ν, ρ, lo) H) (hS : va_S (Az z) s.heap H locs) (hZ : SIM σ ν ρ n np) (hl : lv_has ls 7 [(0, .ref b), (1, .ref (ad 0 0)), (2, .ref (ad 30 0)), (3, .ref (ad 31 0)), (4, .int (nI i))]) (hc : cells + 54 ≤ 601024) (hs : slots + 2578 ≤ 7293034)
    (kk : ∀ (σ : SG) (ν : NU) (ρ : RH) (lo : Int64) (ad : Nat → Nat → Nat) (n np : Nat) (H : Heap) (locs : List Loc) (ls : Array Slot), WP z G ad (σ, ν, ρ, lo) H → va_S (Az z) s.heap H locs → SIM σ ν ρ n np → lv_has ls 7 [(0, .ref b), (1, .ref (ad 0 0)), (2, .ref (ad 30 0)), (3, .ref (ad 31 0)), (4, .int (nI i))] → W p l e room_1 s m #[Value.ref b] below meth c H locs (cells + 54) (slots + 2578) Q (F0 m 1439 ls [])) : W p l e room_1 s m #[Value.ref b] below meth c H locs cells slots Q (F0 m 1300 ls []) := by
  obtain ⟨hx, hb, hml, hown, hts, hE, hz, hlt, hX, hbl, hbA, hL⟩ := X
  obtain ⟨k, r, hwc, hwr⟩ := z_state hZ ((xs (nI i + 1).toNatClampNeg))
  refine lv_aload_n hx hb dL_law_1300 rfl (lv_at hl 1 rfl) ?_
  refine lv_aload_n hx hb dL_law_1301 rfl (lv_at hl 0 rfl) ?_
  refine lv_iload hx hb dL_law_1302 (lv_at hl 4 rfl) ?_
  refine lv_iconst (v := (1 : Int32)) hx hb dL_law_1304 (by decide) ?_
  refine lv_iadd hx hb dL_law_1305 ?_
  refine va_sld hx hb hX hbl hbA hS (in_arg hi hL (j := 1) (by decide)) dL_law_1306 ?_
  refine lv_aload_n hx hb dL_law_1307 rfl (lv_at hl 3 rfl) ?_
  refine k_SW (rest := []) (As := [.ref (ad 0 0), .int (xs (nI i + 1).toNatClampNeg), .ref (ad 31 0)]) ⟨hx, hb, hml, hown, hts⟩ hE hz hS hW (mtL_state l hlt z G ad σ ν ρ lo ((xs (nI i + 1).toNatClampNeg)) k r hwc) (vx_cwSW 3 hts gL_law_L_state rfl rfl rfl (by decide +kernel) ⟨Nat.le_of_ble_eq_true rfl, Nat.le_of_ble_eq_true rfl⟩) rfl hl.1 rfl (Nat.le_of_ble_eq_true rfl) dL_law_1308 ⟨by show cells + 1 ≤ 601024; omega, by show slots + 6 ≤ 7293034; omega⟩ (fun k9 S9 ad9 H locs hp hW hS => ?_)
  obtain ⟨ek, t9, u9, lo9, e9, hXt, hlo, hP⟩ := hp
  dsimp only at e9 hXt
  subst e9
  have hl : lv_has ls 7 [(0, .ref b), (1, .ref (ad9 0 0)), (2, .ref (ad9 30 0)), (3, .ref (ad9 31 0)), (4, .int (nI i))] := by rw [(hXt 0 0 (by decide) rfl).2, (hXt 30 0 (by decide) rfl).2, (hXt 31 0 (by decide) rfl).2]; exact hl
  refine lv_istore (lv' := [(5, .int k9), (0, .ref b), (1, .ref (ad9 0 0)), (2, .ref (ad9 30 0)), (3, .ref (ad9 31 0)), (4, .int (nI i))]) hx hb dL_law_1311 hl (by decide) rfl (fun ls hl => ?_)
  refine lv_aload_n hx hb dL_law_1313 rfl (lv_at hl 3 rfl) ?_
  refine lv_aload_n hx hb dL_law_1314 rfl (lv_at hl 1 rfl) ?_
  refine lv_iload hx hb dL_law_1315 (lv_at hl 5 rfl) ?_
  refine lv_iconst (v := (1 : Int32)) hx hb dL_law_1317 (by decide) ?_
  refine lv_iadd hx hb dL_law_1318 ?_
  refine va_sld hx hb hX hbl hbA hS (in_arg hi hL (j := 1) (by decide)) dL_law_1319 ?_
  refine k_Vi (rest := []) (As := [.int (xs (nI i + 1).toNatClampNeg)]) ⟨hx, hb, hml, hown, hts⟩ hE hz hS hW (mtX7_state l z G ad9 t9 u9 ρ lo9 ((xs (nI i + 1).toNatClampNeg)) _ hwr) (cwV 1 hts gL_law_X7_state rfl rfl rfl (by decide +kernel) ⟨Nat.le_of_ble_eq_true rfl, Nat.le_of_ble_eq_true rfl⟩) (r_recv hE hW 30 0 rfl (C := RX7) (ci := 10) rfl rfl) rfl hl.1 rfl (Nat.le_of_ble_eq_true rfl) dL_law_1320 ⟨by show (cells + 1) + 0 ≤ 601024; omega, by show (slots + 6) + 0 ≤ 7293034; omega⟩ (fun b9 S9 H locs hp hW hS => ?_)
  obtain ⟨ρ9, rfl, hq1, hq2, hR⟩ := hp
  refine lv_istore (lv' := [(6, .int b9), (5, .int k9), (0, .ref b), (1, .ref (ad9 0 0)), (2, .ref (ad9 30 0)), (3, .ref (ad9 31 0)), (4, .int (nI i))]) hx hb dL_law_1323 hl (by decide) rfl (fun ls hl => ?_)
  refine lv_aload_n hx hb dL_law_1325 rfl (lv_at hl 4 rfl) ?_
  refine k_Vi (rest := []) (As := []) ⟨hx, hb, hml, hown, hts⟩ hE hz hS hW (mtX7_thrown l z G ad9 t9 u9 ρ9 lo9 (fun r9 => r9 = ρ9 48 0) (by unfold wpX7_thrown; exact rfl)) (cwV 0 hts gL_law_X7_thrown rfl rfl rfl (by decide +kernel) ⟨Nat.le_of_ble_eq_true rfl, Nat.le_of_ble_eq_true rfl⟩) (r_recv hE hW 30 0 rfl (C := RX7) (ci := 10) rfl rfl) rfl hl.1 rfl (Nat.le_of_ble_eq_true rfl) dL_law_1326 ⟨by show (cells + 1) + 0 ≤ 601024; omega, by show (slots + 6) + 0 ≤ 7293034; omega⟩ (fun c9 S9 H locs hp hW hS => ?_)
  obtain ⟨rfl, rfl⟩ := hp
  refine lv_iload hx hb dL_law_1329 (lv_at hl 1 rfl) ?_
  refine lv_icmp_eq (tgt := 1336) hx hb dL_law_1331 (by decide) (fun c8 => ?_) (fun c8 => absurd (hq1.trans ek.symm) c8)
  have hZ9 : ∃ n np : Nat, SIM t9 u9 ρ9 n np := by
    obtain ⟨e1, e2⟩ := hP
    subst e1 e2
    exact ⟨n, np, hZ.lo hR⟩
  obtain ⟨n9, np9, hZ9⟩ := hZ9
  have hG : W p l e room_1 s m #[Value.ref b] below meth c H locs (cells + 1) (slots + 6) Q (F0 m 1353 ls []) := by
    refine lv_goto (tgt := 1439) hx hb dL_law_1353 (by decide) ?_
    refine W.widen (k := cells + 54) (n := slots + 2578) (by omega) (by omega) ?_
    exact kk t9 u9 ρ9 lo9 ad9 n9 np9 H locs ls hW hS hZ9 (lv_sub hl [2, 3, 4, 5, 6] rfl)
  refine lv_iload hx hb dL_law_1336 (lv_at hl 1 rfl) ?_
  refine lv_if_ne (tgt := 1353) hx hb dL_law_1338 (by decide) (fun c8 => hG) (fun c8 => ?_)
  refine lv_aload_n hx hb dL_law_1341 rfl (lv_at hl 5 rfl) ?_
  refine lv_iconst (v := (0 : Int32)) hx hb dL_law_1342 (by decide) ?_
  refine r_lald hx hb hE hW (lo := lo9) rfl dL_law_1343 ?_
  refine lv_iload hx hb dL_law_1344 (lv_at hl 0 rfl) ?_
  refine lv_i2l (v := b9.toInt64) hx hb dL_law_1346 rfl ?_
  refine W.lcmp hx hb dL_law_1347 ?_
  refine lv_if_eq (tgt := 1353) hx hb dL_law_1348 (by decide) (fun q => hG) (fun q => absurd ?_ q)
  rw [hlo (ek.symm.trans c8), hq2 (ek.symm.trans c8)]
  exact lcmp_self
set_option maxHeartbeats 2000000 in
set_option maxRecDepth 100000 in
theorem law_c19 {p : Program} {l : Launch} {e : Env} {s : State} {m : MethodId} {below : List Frame} {meth : Method} {c : Code} {b L : Nat} {xs : Nat → Int32} {z : Nat} {G : Gl} (X : LCX p l e s m below meth c b L xs z G) {Q : State → Prop} {σ : SG} {ν : NU} {ρ : RH} {lo : Int64} {ad : Nat → Nat → Nat} {H : Heap} {locs : List Loc} {ls : Array Slot} {cells slots i n np : Nat} (hi : i + 5 ≤ L) (hW : WP z G ad (σ, ν, ρ, lo) H) (hS : va_S (Az z) s.heap H locs) (hZ : SIM σ ν ρ n np) (hl : lv_has ls 7 [(0, .ref b), (1, .ref (ad 0 0)), (2, .ref (ad 30 0)), (3, .ref (ad 31 0)), (4, .int (nI i))]) (hc : cells + 54 ≤ 601024) (hs : slots + 2578 ≤ 7293034)
    (kk : ∀ (σ : SG) (ν : NU) (ρ : RH) (lo : Int64) (ad : Nat → Nat → Nat) (n np : Nat) (H : Heap) (locs : List Loc) (ls : Array Slot), WP z G ad (σ, ν, ρ, lo) H → va_S (Az z) s.heap H locs → SIM σ ν ρ n np → lv_has ls 7 [(0, .ref b), (1, .ref (ad 0 0)), (2, .ref (ad 30 0)), (3, .ref (ad 31 0)), (4, .int (nI i))] → W p l e room_1 s m #[Value.ref b] below meth c H locs (cells + 54) (slots + 2578) Q (F0 m 1439 ls [])) : W p l e room_1 s m #[Value.ref b] below meth c H locs cells slots Q (F0 m 1356 ls []) := by
  obtain ⟨hx, hb, hml, hown, hts, hE, hz, hlt, hX, hbl, hbA, hL⟩ := X
  obtain ⟨k, r, hwc, hwr⟩ := z_commences hZ ((xs (nI i + 1).toNatClampNeg))
  refine lv_aload_n hx hb dL_law_1356 rfl (lv_at hl 1 rfl) ?_
  refine lv_aload_n hx hb dL_law_1357 rfl (lv_at hl 0 rfl) ?_
  refine lv_iload hx hb dL_law_1358 (lv_at hl 4 rfl) ?_
  refine lv_iconst (v := (1 : Int32)) hx hb dL_law_1360 (by decide) ?_
  refine lv_iadd hx hb dL_law_1361 ?_
  refine va_sld hx hb hX hbl hbA hS (in_arg hi hL (j := 1) (by decide)) dL_law_1362 ?_
  refine lv_aload_n hx hb dL_law_1363 rfl (lv_at hl 3 rfl) ?_
  refine k_SW (rest := []) (As := [.ref (ad 0 0), .int (xs (nI i + 1).toNatClampNeg), .ref (ad 31 0)]) ⟨hx, hb, hml, hown, hts⟩ hE hz hS hW (mtL_commences l hlt z G ad σ ν ρ lo ((xs (nI i + 1).toNatClampNeg)) k r hwc) (vx_cwSW 3 hts gL_law_L_commences rfl rfl rfl (by decide +kernel) ⟨Nat.le_of_ble_eq_true rfl, Nat.le_of_ble_eq_true rfl⟩) rfl hl.1 rfl (Nat.le_of_ble_eq_true rfl) dL_law_1364 ⟨by show cells + 1 ≤ 601024; omega, by show slots + 6 ≤ 7293034; omega⟩ (fun k9 S9 ad9 H locs hp hW hS => ?_)
  obtain ⟨ek, t9, u9, lo9, e9, hXt, hlo, hP⟩ := hp
  dsimp only at e9 hXt
  subst e9
  have hl : lv_has ls 7 [(0, .ref b), (1, .ref (ad9 0 0)), (2, .ref (ad9 30 0)), (3, .ref (ad9 31 0)), (4, .int (nI i))] := by rw [(hXt 0 0 (by decide) rfl).2, (hXt 30 0 (by decide) rfl).2, (hXt 31 0 (by decide) rfl).2]; exact hl
  refine lv_istore (lv' := [(5, .int k9), (0, .ref b), (1, .ref (ad9 0 0)), (2, .ref (ad9 30 0)), (3, .ref (ad9 31 0)), (4, .int (nI i))]) hx hb dL_law_1367 hl (by decide) rfl (fun ls hl => ?_)
  refine lv_aload_n hx hb dL_law_1369 rfl (lv_at hl 3 rfl) ?_
  refine lv_aload_n hx hb dL_law_1370 rfl (lv_at hl 1 rfl) ?_
  refine lv_iload hx hb dL_law_1371 (lv_at hl 5 rfl) ?_
  refine lv_iconst (v := (1 : Int32)) hx hb dL_law_1373 (by decide) ?_
  refine lv_iadd hx hb dL_law_1374 ?_
  refine va_sld hx hb hX hbl hbA hS (in_arg hi hL (j := 1) (by decide)) dL_law_1375 ?_
  refine k_Vi (rest := []) (As := [.int (xs (nI i + 1).toNatClampNeg)]) ⟨hx, hb, hml, hown, hts⟩ hE hz hS hW (mtX7_commences l z G ad9 t9 u9 ρ lo9 ((xs (nI i + 1).toNatClampNeg)) _ hwr) (cwV 1 hts gL_law_X7_commences rfl rfl rfl (by decide +kernel) ⟨Nat.le_of_ble_eq_true rfl, Nat.le_of_ble_eq_true rfl⟩) (r_recv hE hW 30 0 rfl (C := RX7) (ci := 10) rfl rfl) rfl hl.1 rfl (Nat.le_of_ble_eq_true rfl) dL_law_1376 ⟨by show (cells + 1) + 0 ≤ 601024; omega, by show (slots + 6) + 0 ≤ 7293034; omega⟩ (fun b9 S9 H locs hp hW hS => ?_)
  obtain ⟨ρ9, rfl, hq1, hq2, hR⟩ := hp
  refine lv_istore (lv' := [(6, .int b9), (5, .int k9), (0, .ref b), (1, .ref (ad9 0 0)), (2, .ref (ad9 30 0)), (3, .ref (ad9 31 0)), (4, .int (nI i))]) hx hb dL_law_1379 hl (by decide) rfl (fun ls hl => ?_)
  refine lv_aload_n hx hb dL_law_1381 rfl (lv_at hl 4 rfl) ?_
  refine k_Vi (rest := []) (As := []) ⟨hx, hb, hml, hown, hts⟩ hE hz hS hW (mtX7_thrown l z G ad9 t9 u9 ρ9 lo9 (fun r9 => r9 = ρ9 48 0) (by unfold wpX7_thrown; exact rfl)) (cwV 0 hts gL_law_X7_thrown rfl rfl rfl (by decide +kernel) ⟨Nat.le_of_ble_eq_true rfl, Nat.le_of_ble_eq_true rfl⟩) (r_recv hE hW 30 0 rfl (C := RX7) (ci := 10) rfl rfl) rfl hl.1 rfl (Nat.le_of_ble_eq_true rfl) dL_law_1382 ⟨by show (cells + 1) + 0 ≤ 601024; omega, by show (slots + 6) + 0 ≤ 7293034; omega⟩ (fun c9 S9 H locs hp hW hS => ?_)
  obtain ⟨rfl, rfl⟩ := hp
  refine lv_iload hx hb dL_law_1385 (lv_at hl 1 rfl) ?_
  refine lv_icmp_eq (tgt := 1392) hx hb dL_law_1387 (by decide) (fun c8 => ?_) (fun c8 => absurd (hq1.trans ek.symm) c8)
  have hZ9 : ∃ n np : Nat, SIM t9 u9 ρ9 n np := by
    obtain ⟨e1, e2⟩ := hP
    subst e1 e2
    exact ⟨n, np, hZ.lo hR⟩
  obtain ⟨n9, np9, hZ9⟩ := hZ9
  have hG : W p l e room_1 s m #[Value.ref b] below meth c H locs (cells + 1) (slots + 6) Q (F0 m 1409 ls []) := by
    refine lv_goto (tgt := 1439) hx hb dL_law_1409 (by decide) ?_
    refine W.widen (k := cells + 54) (n := slots + 2578) (by omega) (by omega) ?_
    exact kk t9 u9 ρ9 lo9 ad9 n9 np9 H locs ls hW hS hZ9 (lv_sub hl [2, 3, 4, 5, 6] rfl)
  refine lv_iload hx hb dL_law_1392 (lv_at hl 1 rfl) ?_
  refine lv_if_ne (tgt := 1409) hx hb dL_law_1394 (by decide) (fun c8 => hG) (fun c8 => ?_)
  refine lv_aload_n hx hb dL_law_1397 rfl (lv_at hl 5 rfl) ?_
  refine lv_iconst (v := (0 : Int32)) hx hb dL_law_1398 (by decide) ?_
  refine r_lald hx hb hE hW (lo := lo9) rfl dL_law_1399 ?_
  refine lv_iload hx hb dL_law_1400 (lv_at hl 0 rfl) ?_
  refine lv_i2l (v := b9.toInt64) hx hb dL_law_1402 rfl ?_
  refine W.lcmp hx hb dL_law_1403 ?_
  refine lv_if_eq (tgt := 1409) hx hb dL_law_1404 (by decide) (fun q => hG) (fun q => absurd ?_ q)
  rw [hlo (ek.symm.trans c8), hq2 (ek.symm.trans c8)]
  exact lcmp_self
set_option maxHeartbeats 2000000 in
set_option maxRecDepth 100000 in
theorem law_c20 {p : Program} {l : Launch} {e : Env} {s : State} {m : MethodId} {below : List Frame} {meth : Method} {c : Code} {b L : Nat} {xs : Nat → Int32} {z : Nat} {G : Gl} (X : LCX p l e s m below meth c b L xs z G) {Q : State → Prop} {σ : SG} {ν : NU} {ρ : RH} {lo : Int64} {ad : Nat → Nat → Nat} {H : Heap} {locs : List Loc} {ls : Array Slot} {cells slots i n np : Nat} (hi : i + 5 ≤ L) (hW : WP z G ad (σ, ν, ρ, lo) H) (hS : va_S (Az z) s.heap H locs) (hZ : SIM σ ν ρ n np) (hl : lv_has ls 7 [(0, .ref b), (1, .ref (ad 0 0)), (2, .ref (ad 30 0)), (3, .ref (ad 31 0)), (4, .int (nI i))]) (hc : cells + 54 ≤ 601024) (hs : slots + 2578 ≤ 7293034)
    (kk : ∀ (σ : SG) (ν : NU) (ρ : RH) (lo : Int64) (ad : Nat → Nat → Nat) (n np : Nat) (H : Heap) (locs : List Loc) (ls : Array Slot), WP z G ad (σ, ν, ρ, lo) H → va_S (Az z) s.heap H locs → SIM σ ν ρ n np → lv_has ls 7 [(0, .ref b), (1, .ref (ad 0 0)), (2, .ref (ad 30 0)), (3, .ref (ad 31 0)), (4, .int (nI i))] → W p l e room_1 s m #[Value.ref b] below meth c H locs (cells + 54) (slots + 2578) Q (F0 m 1439 ls [])) : W p l e room_1 s m #[Value.ref b] below meth c H locs cells slots Q (F0 m 1412 ls []) := by
  obtain ⟨hx, hb, hml, hown, hts, hE, hz, hlt, hX, hbl, hbA, hL⟩ := X
  obtain ⟨r, hwc, hwr⟩ := z_conflicts hZ
  refine lv_aload_n hx hb dL_law_1412 rfl (lv_at hl 1 rfl) ?_
  refine k_Vi (rest := []) (As := []) ⟨hx, hb, hml, hown, hts⟩ hE hz hS hW (mtX6_conflicts l z G ad σ ν ρ lo _ hwc) (cwV 0 hts gL_law_X6_conflicts rfl rfl rfl (by decide +kernel) ⟨Nat.le_of_ble_eq_true rfl, Nat.le_of_ble_eq_true rfl⟩) (r_recv hE hW 0 0 rfl (C := RX6) (ci := 9) rfl rfl) rfl hl.1 rfl (Nat.le_of_ble_eq_true rfl) dL_law_1413 ⟨by show cells + 0 ≤ 601024; omega, by show slots + 0 ≤ 7293034; omega⟩ (fun r9 S9 H locs hp hW hS => ?_)
  obtain ⟨rfl, e9⟩ := hp
  refine lv_aload_n hx hb dL_law_1416 rfl (lv_at hl 2 rfl) ?_
  refine k_Vi (rest := [.int r9]) (As := []) ⟨hx, hb, hml, hown, hts⟩ hE hz hS hW (mtX7_conflicts l z G ad σ ν ρ lo _ hwr) (cwV 0 hts gL_law_X7_conflicts rfl rfl rfl (by decide +kernel) ⟨Nat.le_of_ble_eq_true rfl, Nat.le_of_ble_eq_true rfl⟩) (r_recv hE hW 30 0 rfl (C := RX7) (ci := 10) rfl rfl) rfl hl.1 rfl (Nat.le_of_ble_eq_true rfl) dL_law_1417 ⟨by show cells + 0 ≤ 601024; omega, by show slots + 0 ≤ 7293034; omega⟩ (fun b9 S9 H locs hp hW hS => ?_)
  obtain ⟨ρ9, rfl, hq, hR⟩ := hp
  have hG : W p l e room_1 s m #[Value.ref b] below meth c H locs cells slots Q (F0 m 1439 ls []) := by
    refine W.widen (k := cells + 54) (n := slots + 2578) (by omega) (by omega) ?_
    exact kk σ ν ρ9 lo ad n np H locs ls hW hS (hZ.lo hR) hl
  exact lv_icmp_eq (tgt := 1439) hx hb dL_law_1420 (by decide) (fun c8 => hG) (fun c8 => absurd (e9.trans hq.symm) c8)
set_option maxHeartbeats 2000000 in
set_option maxRecDepth 100000 in
theorem law_c21 {p : Program} {l : Launch} {e : Env} {s : State} {m : MethodId} {below : List Frame} {meth : Method} {c : Code} {b L : Nat} {xs : Nat → Int32} {z : Nat} {G : Gl} (X : LCX p l e s m below meth c b L xs z G) {Q : State → Prop} {σ : SG} {ν : NU} {ρ : RH} {lo : Int64} {ad : Nat → Nat → Nat} {H : Heap} {locs : List Loc} {ls : Array Slot} {cells slots i n np : Nat} (hi : i + 5 ≤ L) (hW : WP z G ad (σ, ν, ρ, lo) H) (hS : va_S (Az z) s.heap H locs) (hZ : SIM σ ν ρ n np) (hl : lv_has ls 7 [(0, .ref b), (1, .ref (ad 0 0)), (2, .ref (ad 30 0)), (3, .ref (ad 31 0)), (4, .int (nI i))]) (hc : cells + 54 ≤ 601024) (hs : slots + 2578 ≤ 7293034)
    (kk : ∀ (σ : SG) (ν : NU) (ρ : RH) (lo : Int64) (ad : Nat → Nat → Nat) (n np : Nat) (H : Heap) (locs : List Loc) (ls : Array Slot), WP z G ad (σ, ν, ρ, lo) H → va_S (Az z) s.heap H locs → SIM σ ν ρ n np → lv_has ls 7 [(0, .ref b), (1, .ref (ad 0 0)), (2, .ref (ad 30 0)), (3, .ref (ad 31 0)), (4, .int (nI i))] → W p l e room_1 s m #[Value.ref b] below meth c H locs (cells + 54) (slots + 2578) Q (F0 m 1439 ls [])) : W p l e room_1 s m #[Value.ref b] below meth c H locs cells slots Q (F0 m 1425 ls []) := by
  obtain ⟨hx, hb, hml, hown, hts, hE, hz, hlt, hX, hbl, hbA, hL⟩ := X
  obtain ⟨r, hwc, hwr⟩ := z_print hZ
  refine lv_aload_n hx hb dL_law_1425 rfl (lv_at hl 1 rfl) ?_
  refine k_Vl (rest := []) (As := []) ⟨hx, hb, hml, hown, hts⟩ hE hz hS hW (mtX6_print l z G ad σ ν ρ lo _ hwc) (cwV 0 hts gL_law_X6_print rfl rfl rfl (by decide +kernel) ⟨Nat.le_of_ble_eq_true rfl, Nat.le_of_ble_eq_true rfl⟩) (r_recv hE hW 0 0 rfl (C := RX6) (ci := 9) rfl rfl) rfl hl.1 rfl (Nat.le_of_ble_eq_true rfl) dL_law_1426 ⟨by show cells + 0 ≤ 601024; omega, by show slots + 0 ≤ 7293034; omega⟩ (fun r9 S9 H locs hp hW hS => ?_)
  obtain ⟨rfl, e9⟩ := hp
  refine lv_aload_n hx hb dL_law_1429 rfl (lv_at hl 2 rfl) ?_
  refine k_Vl (rest := [.long r9]) (As := []) ⟨hx, hb, hml, hown, hts⟩ hE hz hS hW (mtX7_print l z G ad σ ν ρ lo _ hwr) (cwV 0 hts gL_law_X7_print rfl rfl rfl (by decide +kernel) ⟨Nat.le_of_ble_eq_true rfl, Nat.le_of_ble_eq_true rfl⟩) (r_recv hE hW 30 0 rfl (C := RX7) (ci := 10) rfl rfl) rfl hl.1 rfl (Nat.le_of_ble_eq_true rfl) dL_law_1430 ⟨by show cells + 0 ≤ 601024; omega, by show slots + 0 ≤ 7293034; omega⟩ (fun b9 S9 H locs hp hW hS => ?_)
  obtain ⟨ρ9, rfl, hq, hR⟩ := hp
  have hG : W p l e room_1 s m #[Value.ref b] below meth c H locs cells slots Q (F0 m 1439 ls []) := by
    refine W.widen (k := cells + 54) (n := slots + 2578) (by omega) (by omega) ?_
    exact kk σ ν ρ9 lo ad n np H locs ls hW hS (hZ.lo hR) hl
  refine W.lcmp hx hb dL_law_1433 ?_
  refine lv_if_eq (tgt := 1439) hx hb dL_law_1434 (by decide) (fun q => hG) (fun q => absurd ?_ q)
  rw [e9, hq]
  exact lcmp_self
theorem law_ti {L : Nat} (h : L ≤ 2560) : (Int32.ofNat L - 5).toInt = (L : Int) - 5 := by
  have e1 : (Int32.ofNat L).toInt = (L : Int) := nI_toInt (show L < 2 ^ 31 by omega)
  rw [show (5 : Int32) = nI 5 from rfl, show Int32.ofNat L = nI L from rfl]
  rw [zb_sub (by rw [ti_n (by omega), ti_n (by omega)]; omega) (by rw [ti_n (by omega), ti_n (by omega)]; omega), ti_n (by omega), ti_n (by omega)]
  rfl
set_option maxHeartbeats 2000000 in
set_option maxRecDepth 100000 in
theorem law_loop {p : Program} {l : Launch} {e : Env} {s : State} {m : MethodId} {below : List Frame} {meth : Method} {c : Code} {b L : Nat} {xs : Nat → Int32} {z : Nat} {G : Gl} (X : LCX p l e s m below meth c b L xs z G) (hze : z = s.heap.size) (hr : meth.sig.returnType = ret) (hlocks : meth.locks = false) : ∀ (k i cells slots : Nat) (σ : SG) (ν : NU) (ρ : RH) (lo : Int64) (ad : Nat → Nat → Nat) (n np : Nat) (H : Heap) (locs : List Loc) (ls : Array Slot), L ≤ i + 5 * k + 4 → i + 5 * k ≤ 2560 → cells + 54 * k ≤ 601024 → slots + 2578 * k ≤ 7293034 → WP z G ad (σ, ν, ρ, lo) H → va_S (Az z) s.heap H locs → SIM σ ν ρ n np → lv_has ls 7 [(0, .ref b), (1, .ref (ad 0 0)), (2, .ref (ad 30 0)), (3, .ref (ad 31 0)), (4, .int (nI i))] → W p l e room_1 s m #[Value.ref b] below meth c H locs cells slots (lw_Z below #[Value.ref b] s) (F0 m 23 ls []) := by
  obtain ⟨hx, hb, hml, hown, hts, hE, hz, hlt, hX, hbl, hbA, hL⟩ := id X
  intro k
  induction k with
  | zero =>
    intro i cells slots σ ν ρ lo ad n np H locs ls h1 h2 h3 h4 hW hS hZ hl
    refine lv_iload hx hb dL_law_23 (lv_at hl 4 rfl) ?_
    refine lv_aload_n hx hb dL_law_25 rfl (lv_at hl 0 rfl) ?_
    refine va_slen hx hb hX hbl hbA hS dL_law_26 ?_
    refine lv_iconst (v := (5 : Int32)) hx hb dL_law_27 (by decide) ?_
    refine lv_isub hx hb dL_law_28 ?_
    have e5 : (Int32.ofNat L - 5).toInt = (L : Int) - 5 := law_ti hL
    refine r_icmp_gt (tgt := 1445) hx hb (nI_toInt (by omega)) e5 dL_law_29 (by decide) (fun c8 => ?_) (fun c8 => absurd c8 (by omega))
    refine lv_iconst (v := (1 : Int32)) hx hb dL_law_1445 (by decide) ?_
    refine va_forget (fun q hq => by have := hS.2.2 q hq; rw [← hze]; exact this) ?_
    refine W.widen (k := 601024) (n := 7293034) (by omega) (by omega) ?_
    exact lw_ret hx hb hr hlocks dL_law_1446
  | succ k ih =>
    intro i cells slots σ ν ρ lo ad n np H locs ls h1 h2 h3 h4 hW hS hZ hl
    refine lv_iload hx hb dL_law_23 (lv_at hl 4 rfl) ?_
    refine lv_aload_n hx hb dL_law_25 rfl (lv_at hl 0 rfl) ?_
    refine va_slen hx hb hX hbl hbA hS dL_law_26 ?_
    refine lv_iconst (v := (5 : Int32)) hx hb dL_law_27 (by decide) ?_
    refine lv_isub hx hb dL_law_28 ?_
    have e5 : (Int32.ofNat L - 5).toInt = (L : Int) - 5 := law_ti hL
    refine r_icmp_gt (tgt := 1445) hx hb (nI_toInt (by omega)) e5 dL_law_29 (by decide) (fun c8 => ?_) (fun c8 => ?_)
    · refine lv_iconst (v := (1 : Int32)) hx hb dL_law_1445 (by decide) ?_
      refine va_forget (fun q hq => by have := hS.2.2 q hq; rw [← hze]; exact this) ?_
      refine W.widen (k := 601024) (n := 7293034) (by omega) (by omega) ?_
      exact lw_ret hx hb hr hlocks dL_law_1446
    · have hi : i + 5 ≤ L := by omega
      have kk : ∀ (σ : SG) (ν : NU) (ρ : RH) (lo : Int64) (ad : Nat → Nat → Nat) (n np : Nat) (H : Heap) (locs : List Loc) (ls : Array Slot), WP z G ad (σ, ν, ρ, lo) H → va_S (Az z) s.heap H locs → SIM σ ν ρ n np → lv_has ls 7 [(0, .ref b), (1, .ref (ad 0 0)), (2, .ref (ad 30 0)), (3, .ref (ad 31 0)), (4, .int (nI i))] → W p l e room_1 s m #[Value.ref b] below meth c H locs (cells + 54) (slots + 2578) (lw_Z below #[Value.ref b] s) (F0 m 1439 ls []) := by
        intro σ ν ρ lo ad n np H locs ls hW hS hZ hl
        refine lv_iinc (v := nI (i + 5)) (lv' := [(4, .int (nI (i + 5))), (0, .ref b), (1, .ref (ad 0 0)), (2, .ref (ad 30 0)), (3, .ref (ad 31 0))]) hx hb dL_law_1439 hl (k := 4) rfl (nI_add i 5) (by decide) rfl (fun ls hl => ?_)
        refine lv_goto (tgt := 23) hx hb dL_law_1442 (by decide) ?_
        exact ih (i + 5) (cells + 54) (slots + 2578) σ ν ρ lo ad n np H locs ls (by omega) (by omega) (by omega) (by omega) hW hS hZ (lv_sub hl [1, 2, 3, 4, 0] rfl)
      refine lv_aload_n hx hb dL_law_32 rfl (lv_at hl 0 rfl) ?_
      refine lv_iload hx hb dL_law_33 (lv_at hl 4 rfl) ?_
      refine va_sld hx hb hX hbl hbA hS (vp_in_nI (by omega) (by omega)) dL_law_35 ?_
      refine lv_bipush (v := (31 : Int32)) hx hb dL_law_36 (by decide) ?_
      refine lv_iand hx hb dL_law_38 ?_
      generalize xs (nI i).toNatClampNeg &&& 31 = x
      by_cases hq : x.toInt < 0 ∨ 21 < x.toInt
      · refine lv_tableOut (tgt := 1439) hx hb dL_law_39 hq (by decide) ?_
        refine W.widen (k := cells + 54) (n := slots + 2578) (by omega) (by omega) ?_
        exact kk σ ν ρ lo ad n np H locs ls hW hS hZ hl
      · have q1 : ¬ x.toInt < 0 := fun q => hq (Or.inl q)
        have q2 : ¬ 21 < x.toInt := fun q => hq (Or.inr q)
        rcases (show x.toInt = 0 ∨ x.toInt = 1 ∨ x.toInt = 2 ∨ x.toInt = 3 ∨ x.toInt = 4 ∨ x.toInt = 5 ∨ x.toInt = 6 ∨ x.toInt = 7 ∨ x.toInt = 8 ∨ x.toInt = 9 ∨ x.toInt = 10 ∨ x.toInt = 11 ∨ x.toInt = 12 ∨ x.toInt = 13 ∨ x.toInt = 14 ∨ x.toInt = 15 ∨ x.toInt = 16 ∨ x.toInt = 17 ∨ x.toInt = 18 ∨ x.toInt = 19 ∨ x.toInt = 20 ∨ x.toInt = 21 by omega) with e8 | e8 | e8 | e8 | e8 | e8 | e8 | e8 | e8 | e8 | e8 | e8 | e8 | e8 | e8 | e8 | e8 | e8 | e8 | e8 | e8 | e8
        · exact lv_tableIn (off := 101) (tgt := 140) hx hb dL_law_39 q1 q2 (by rw [e8]; rfl) (by decide) (law_c0 X hi hW hS hZ hl (by omega) (by omega) kk)
        · exact lv_tableIn (off := 157) (tgt := 196) hx hb dL_law_39 q1 q2 (by rw [e8]; rfl) (by decide) (law_c1 X hi hW hS hZ hl (by omega) (by omega) kk)
        · exact lv_tableIn (off := 201) (tgt := 240) hx hb dL_law_39 q1 q2 (by rw [e8]; rfl) (by decide) (law_c2 X hi hW hS hZ hl (by omega) (by omega) kk)
        · exact lv_tableIn (off := 273) (tgt := 312) hx hb dL_law_39 q1 q2 (by rw [e8]; rfl) (by decide) (law_c3 X hi hW hS hZ hl (by omega) (by omega) kk)
        · exact lv_tableIn (off := 357) (tgt := 396) hx hb dL_law_39 q1 q2 (by rw [e8]; rfl) (by decide) (law_c4 X hi hW hS hZ hl (by omega) (by omega) kk)
        · exact lv_tableIn (off := 437) (tgt := 476) hx hb dL_law_39 q1 q2 (by rw [e8]; rfl) (by decide) (law_c5 X hi hW hS hZ hl (by omega) (by omega) kk)
        · exact lv_tableIn (off := 529) (tgt := 568) hx hb dL_law_39 q1 q2 (by rw [e8]; rfl) (by decide) (law_c6 X hi hW hS hZ hl (by omega) (by omega) kk)
        · exact lv_tableIn (off := 577) (tgt := 616) hx hb dL_law_39 q1 q2 (by rw [e8]; rfl) (by decide) (law_c7 X hi hW hS hZ hl (by omega) (by omega) kk)
        · exact lv_tableIn (off := 625) (tgt := 664) hx hb dL_law_39 q1 q2 (by rw [e8]; rfl) (by decide) (law_c8 X hi hW hS hZ hl (by omega) (by omega) kk)
        · exact lv_tableIn (off := 685) (tgt := 724) hx hb dL_law_39 q1 q2 (by rw [e8]; rfl) (by decide) (law_c9 X hi hW hS hZ hl (by omega) (by omega) kk)
        · exact lv_tableIn (off := 765) (tgt := 804) hx hb dL_law_39 q1 q2 (by rw [e8]; rfl) (by decide) (law_c10 X hi hW hS hZ hl (by omega) (by omega) kk)
        · exact lv_tableIn (off := 821) (tgt := 860) hx hb dL_law_39 q1 q2 (by rw [e8]; rfl) (by decide) (law_c11 X hi hW hS hZ hl (by omega) (by omega) kk)
        · exact lv_tableIn (off := 877) (tgt := 916) hx hb dL_law_39 q1 q2 (by rw [e8]; rfl) (by decide) (law_c12 X hi hW hS hZ hl (by omega) (by omega) kk)
        · exact lv_tableIn (off := 933) (tgt := 972) hx hb dL_law_39 q1 q2 (by rw [e8]; rfl) (by decide) (law_c13 X hi hW hS hZ hl (by omega) (by omega) kk)
        · exact lv_tableIn (off := 989) (tgt := 1028) hx hb dL_law_39 q1 q2 (by rw [e8]; rfl) (by decide) (law_c14 X hi hW hS hZ hl (by omega) (by omega) kk)
        · exact lv_tableIn (off := 1057) (tgt := 1096) hx hb dL_law_39 q1 q2 (by rw [e8]; rfl) (by decide) (law_c15 X hi hW hS hZ hl (by omega) (by omega) kk)
        · exact lv_tableIn (off := 1125) (tgt := 1164) hx hb dL_law_39 q1 q2 (by rw [e8]; rfl) (by decide) (law_c16 X hi hW hS hZ hl (by omega) (by omega) kk)
        · exact lv_tableIn (off := 1193) (tgt := 1232) hx hb dL_law_39 q1 q2 (by rw [e8]; rfl) (by decide) (law_c17 X hi hW hS hZ hl (by omega) (by omega) kk)
        · exact lv_tableIn (off := 1261) (tgt := 1300) hx hb dL_law_39 q1 q2 (by rw [e8]; rfl) (by decide) (law_c18 X hi hW hS hZ hl (by omega) (by omega) kk)
        · exact lv_tableIn (off := 1317) (tgt := 1356) hx hb dL_law_39 q1 q2 (by rw [e8]; rfl) (by decide) (law_c19 X hi hW hS hZ hl (by omega) (by omega) kk)
        · exact lv_tableIn (off := 1373) (tgt := 1412) hx hb dL_law_39 q1 q2 (by rw [e8]; rfl) (by decide) (law_c20 X hi hW hS hZ hl (by omega) (by omega) kk)
        · exact lv_tableIn (off := 1386) (tgt := 1425) hx hb dL_law_39 q1 q2 (by rw [e8]; rfl) (by decide) (law_c21 X hi hW hS hZ hl (by omega) (by omega) kk)

