/-! further rows: references kept in rows, casts, throws, calls that make cells -/
theorem u3_ne {α : Type} {f : Nat → Nat → Nat → α} {k o i : Nat} {x : α} {a : Nat} (h : a ≠ k) : u3 f k o i x a = f a := by
  funext b c
  have h2 : ¬ (a = k ∧ b = o ∧ c = i) := fun q => h q.1
  simp only [u3, if_neg h2]
theorem ex_congr {ν ν' : NU} (h : ν' 99 = ν 99) (h7 : ν' 7 = ν 7) (a b : Nat) : ex ν' a b ↔ ex ν a b := by
  unfold ex
  split <;> simp only [h, h7]
theorem ex_n {ν ν' : NU} (h : ν' 99 = ν 99) {a b : Nat} (ha : a ≠ 8) (he : ex ν a b) : ex ν' a b := by
  revert he
  unfold ex
  split
  all_goals first | exact fun q => q | (rw [h]; exact fun q => q) | exact absurd rfl ha
def Xt (ad ad' : Nat → Nat → Nat) (ν ν' : NU) : Prop := ∀ k o, k ≠ 8 → ex ν k o → ex ν' k o ∧ ad' k o = ad k o
theorem Xt.rf {ad : Nat → Nat → Nat} {ν : NU} : Xt ad ad ν ν := fun _ _ _ h => ⟨h, rfl⟩
theorem Xt.tr {a b c : Nat → Nat → Nat} {ν μ κ : NU} (h1 : Xt a b ν μ) (h2 : Xt b c μ κ) : Xt a c ν κ := fun k o hk h => by
  obtain ⟨e1, q1⟩ := h1 k o hk h
  obtain ⟨e2, q2⟩ := h2 k o hk e1
  exact ⟨e2, q2.trans q1⟩
theorem Xt.n {ad : Nat → Nat → Nat} {ν ν' : NU} (h : ν' 99 = ν 99) : Xt ad ad ν ν' := fun _ _ hk he => ⟨ex_n h hk he, rfl⟩
theorem ct_nu {G : Gl} {ad : Nat → Nat → Nat} {σ : SG} {ν ν' : NU} {ρ : RH} {lo : Int64} {a b : Nat} (h0 : ν' 0 = ν 0) (h3 : ν' 3 = ν 3) (h7 : ν' 7 = ν 7) (h8 : a = 8 → ν' 8 b = ν 8 b) (h13 : a = 13 → ν' 13 b = ν 13 b) : ct G ad (σ, ν', ρ, lo) a b = ct G ad (σ, ν, ρ, lo) a b := by
  show ctr G ad ν' ρ lo a b (σ a b) = ctr G ad ν ρ lo a b (σ a b)
  unfold ctr
  split
  all_goals first
    | rfl
    | (simp only [fl_0, h0]; done)
    | (simp only [fl_3, h3]; done)
    | (simp only [h7, h8 rfl]; done)
    | (simp only [h13 rfl]; done)
    | (simp only [h7]; done)
theorem WP.at9 {z : Nat} {G : Gl} {ad : Nat → Nat → Nat} {S : St} {H : Heap} {t : State} (ht : t.heap = H) (hW : WP z G ad S H) : WP z G ad S t.heap := ht ▸ hW
theorem WP.kept {z : Nat} {G : Gl} {ad : Nat → Nat → Nat} {S : St} {H H1 : Heap} (h : WP z G ad S H) (hq : ∀ q : Nat, q < H.size → H1[q]? = H[q]?) : WP z G ad S H1 := by
  obtain ⟨L, h1, h2, h3⟩ := h
  exact ⟨L, h1, h2.kept (fun k q hk => hq q.1 (h2 k q hk).lt), h3⟩
def Qia (z : Nat) (G : Gl) (post : Int32 → St × (Nat → Nat → Nat) → Prop) : Array Value → State → Outcome → State → Prop := va_Qi post (fun u t => WP z G u.2 u.1 t.heap) (Az z)
def Qva (z : Nat) (G : Gl) (post : St × (Nat → Nat → Nat) → Prop) : Array Value → State → Outcome → State → Prop := va_Qv post (fun u t => WP z G u.2 u.1 t.heap) (Az z)
section RM
variable {p : Program} {l : Launch} {e : Env} {R : Room} {s : State} {m : MethodId} {args : Array Value} {below : List Frame} {meth : Method} {c : Code} {H : Heap} {locs : List Loc} {cells slots : Nat} {Q : State → Prop}
variable {cc : ByteArray} {pc : Nat} {ls : Array Slot} {rest : List Value} {z : Nat} {G : Gl} {ad : Nat → Nat → Nat} {S : St} {Ts : List Cond} {own ref C : String} {T : u_T} {N ci index : Nat} {σ : SG} {ν : NU} {ρ : RH} {lo : Int64}
theorem r_cast (hx : p.tables.exec = Jvm.exec) (hb : c.code = cc) (hts : ∀ w ∈ Ts, w.before args s = true) (hown : s.vm.findClass own = some m.cls) (hE : Ev z G s) (hW : WP z G ad S H) (o : Nat) (he : ex S.2.1 3 o) (hlink : Cond.classLink own index "Amendmark$Instruction" ∈ Ts) (hdg : decode cc pc = .ok (.checkcast index, 3))
    (kk : W p l e R s m args below meth c H locs cells slots Q (F0 m (pc + 3) ls (.ref (ad 3 o) :: rest))) : W p l e R s m args below meth c H locs cells slots Q (F0 m pc ls (.ref (ad 3 o) :: rest)) :=
  va_castY (C := RX0) (nm := RX0) hx hb hown (hts _ hlink) (hE.2.2.2.2.2.2.1 (RX0, RX0) (List.mem_of_getElem? (i := 0) rfl)) (r_recv hE hW 3 o he (ci := 3) rfl rfl) hdg kk
theorem r_told (hx : p.tables.exec = Jvm.exec) (hb : c.code = cc) (hE : Ev z G s) (hW : WP z G ad (σ, ν, ρ, lo) H) (hS : va_S (Az z) s.heap H locs) (o : Nat) (he : ex ν 13 o) (ph : Nat) (hp : ex ν 4 ph) {i : Int32} (hin : vp_in i 40) (hdg : decode cc pc = .ok (.aastore, 1))
    (kk : ∀ (ν1 : NU), ν1 = u3 ν 13 o i.toNatClampNeg (ph + 1) → ∀ (H1 : Heap) (locs1 : List Loc), WP z G ad (σ, ν1, ρ, lo) H1 → va_S (Az z) s.heap H1 locs1 → W p l e R s m args below meth c H1 locs1 cells slots Q (F0 m (pc + 1) ls rest)) : W p l e R s m args below meth c H locs cells slots Q (F0 m pc ls (.ref (ad 4 ph) :: .int i :: .ref (ad 13 o) :: rest)) := by
  obtain ⟨L, hL, hP, hD⟩ := hW
  obtain ⟨q, hq⟩ := List.getElem?_of_mem ((hL 13 o).mp he)
  obtain ⟨q2, hq2⟩ := List.getElem?_of_mem ((hL 4 ph).mp hp)
  have g1 : (L.map (cel G ad (σ, ν, ρ, lo)))[q]? = some (ad 13 o, .inl (G.2.1 2, 40, .inr (.inr (.inr (.inr (fun j => opn (ad 4) (ν 13 o j))))))) := by rw [List.getElem?_map, hq]; rfl
  have g2 : (L.map (cel G ad (σ, ν, ρ, lo)))[q2]? = some (ad 4 ph, .inr (5, fl_4 ad ν ρ ph (σ 4 ph))) := by rw [List.getElem?_map, hq2]; rfl
  refine va_astq (r := (RX2, TX2, 2)) hx hb hE.1 hP hD hS q 2 q2 5 g1 rfl g2 rfl hin hdg (fun H1 locs1 k1 k2 k3 => kk _ rfl H1 locs1 (WP_set hL hD hq ?_ (ex_congr (ν' := u3 ν 13 o i.toNatClampNeg (ph + 1)) (ν := ν) (u3_ne (by decide)) (u3_ne (by decide))) (fun a b _ hn => ct_nu (u3_ne (by decide)) (u3_ne (by decide)) (u3_ne (by decide)) (fun h8 => by rw [u3_ne (by decide)]) (fun h13 => u3_oth (fun t => hn ⟨h13, t.2⟩))) k1 k2) k3)
  exact congrArg (fun f => (Sum.inl (G.2.1 2, 40, Sum.inr (Sum.inr (Sum.inr (Sum.inr f)))) : va_E)) (by funext j; by_cases h : j = i.toNatClampNeg <;> simp [u3, va_up, opn, h])
theorem r_toldN (hx : p.tables.exec = Jvm.exec) (hb : c.code = cc) (hE : Ev z G s) (hW : WP z G ad (σ, ν, ρ, lo) H) (hS : va_S (Az z) s.heap H locs) (o : Nat) (he : ex ν 13 o) {i : Int32} (hin : vp_in i 40) (hdg : decode cc pc = .ok (.aastore, 1))
    (kk : ∀ (ν1 : NU), ν1 = u3 ν 13 o i.toNatClampNeg 0 → ∀ (H1 : Heap) (locs1 : List Loc), WP z G ad (σ, ν1, ρ, lo) H1 → va_S (Az z) s.heap H1 locs1 → W p l e R s m args below meth c H1 locs1 cells slots Q (F0 m (pc + 1) ls rest)) : W p l e R s m args below meth c H locs cells slots Q (F0 m pc ls (.null :: .int i :: .ref (ad 13 o) :: rest)) := by
  obtain ⟨L, hL, hP, hD⟩ := hW
  obtain ⟨q, hq⟩ := List.getElem?_of_mem ((hL 13 o).mp he)
  have g1 : (L.map (cel G ad (σ, ν, ρ, lo)))[q]? = some (ad 13 o, .inl (G.2.1 2, 40, .inr (.inr (.inr (.inr (fun j => opn (ad 4) (ν 13 o j))))))) := by rw [List.getElem?_map, hq]; rfl
  refine va_astqN (C := RX2) hx hb hE.1 hP hD hS q 2 g1 rfl hin hdg (fun H1 locs1 k1 k2 k3 => kk _ rfl H1 locs1 (WP_set hL hD hq ?_ (ex_congr (ν' := u3 ν 13 o i.toNatClampNeg 0) (ν := ν) (u3_ne (by decide)) (u3_ne (by decide))) (fun a b _ hn => ct_nu (u3_ne (by decide)) (u3_ne (by decide)) (u3_ne (by decide)) (fun h8 => by rw [u3_ne (by decide)]) (fun h13 => u3_oth (fun t => hn ⟨h13, t.2⟩))) k1 k2) k3)
  exact congrArg (fun f => (Sum.inl (G.2.1 2, 40, Sum.inr (Sum.inr (Sum.inr (Sum.inr f)))) : va_E)) (by funext j; by_cases h : j = i.toNatClampNeg <;> simp [u3, va_up, opn, h])
theorem r_copyC {nL : Nat} (hx : p.tables.exec = Jvm.exec) (hb : c.code = cc) (hml : c.maxLocals = nL) (hsz : ls.size = nL) (hts : ∀ w ∈ Ts, w.before args s = true) (hown : s.vm.findClass own = some m.cls) (hE : Ev z G s) (hW : WP z G ad (σ, ν, ρ, lo) H) (hS : va_S (Az z) s.heap H locs) (k o : Nat) (he : ex ν k o) {n0 : Nat} (hc : ∀ t : SG, ct G ad (t, ν, ρ, lo) k o = .inl (G.2.1 0, n0, .inl (t k o)))
    (hlink : Cond.methodLink own index arraycopyName ∈ Ts) (hnat : Cond.native arraycopyName ∈ Ts) (hstat : Cond.static arraycopyName ∈ Ts) (hini : Cond.initialized "java/lang/System" ∈ Ts) {sp dp n : Int32}
    (hg : ¬ sp.toInt < 0 ∧ ¬ dp.toInt < 0 ∧ ¬ n.toInt < 0 ∧ sp.toNatClampNeg + n.toNatClampNeg ≤ n0 ∧ dp.toNatClampNeg + n.toNatClampNeg ≤ n0) (hframes : 1 ≤ R.frames) (hlocals : (rest.map fun v => v.category).sum + (nativeFrameWords "java/lang/System" "arraycopy" 5 + 11) ≤ R.locals) (hdg : decode cc pc = .ok (.invokestatic index, 3))
    (kk : ∀ (σ1 : SG), σ1 = r3 σ k o (va_cpy (σ k o) (σ k o) sp.toNatClampNeg dp.toNatClampNeg n.toNatClampNeg) → ∀ (H1 : Heap) (locs1 : List Loc), WP z G ad (σ1, ν, ρ, lo) H1 → va_S (Az z) s.heap H1 locs1 → W p l e R s m args below meth c H1 locs1 cells slots Q (F0 m (pc + 3) ls rest)) : W p l e R s m args below meth c H locs cells slots Q (F0 m pc ls (.int n :: .int dp :: .ref (ad k o) :: .int sp :: .ref (ad k o) :: rest)) := by
  obtain ⟨L, q, hL, hP, hD, hq, hq2⟩ := WP_at hW he
  rw [hc] at hq2
  obtain ⟨h1, h2, h3, h4, h5⟩ := hg
  exact va_copyi (ty := .int) hx hb (hml.trans hsz.symm) hown (hts _ hlink) (hts _ hnat) (hts _ hstat) (hts _ hini) hE.1 hP hD hS q q 0 0 hq2 hq2 rfl rfl rfl (fun t => h1 (ti_lt0.mpr t)) (fun t => h2 (ti_lt0.mpr t)) (fun t => h3 (ti_lt0.mpr t)) h4 h5 (fun _ _ => rfl) hframes hlocals hdg
    (fun H1 locs1 k1 k2 k3 => kk _ rfl H1 locs1 (WP_set hL hD hq ((hc _).trans (by rw [r3_row])) (fun _ _ => Iff.rfl) (fun _ _ _ h => ct_sg (r3_oth h)) k1 k2) k3)
abbrev NMX : List String := ["java/lang/RuntimeException", "java/lang/Exception"]
theorem r_throw {cls text : String} {ik is ic nL k k2 mc0 ms0 : Nat} {Qc : Array Value → State → Outcome → State → Prop} {px0 : String → St → Prop} (hx : p.tables.exec = Jvm.exec) (hb : c.code = cc) (hlt : l.stackTraces = false) (hts : ∀ w ∈ Ts, w.before args s = true) (hown : s.vm.findClass RX6 = some m.cls) (hml : c.maxLocals = nL) (hlk : meth.locks = false) (htb : ∀ x ∈ c.exceptionTable.toList, False) (hE : Ev z G s) (hW : WP z G ad S H) (hS : va_S (Az z) s.heap H locs) (hsz : ls.size = nL)
    (hk : Cond.classLink RX6 ik cls ∈ Ts) (hini : Cond.initialized cls ∈ Ts) (hgw : ∀ w ∈ (vx_atS RX6 ic cls NMX).filter goodWord, w ∈ Ts) (hstr : STR[k]? = some (is, text)) (hcas : CAS[k2]? = some (cls, cls)) (hbad : ∀ w ∈ (vx_atS RX6 ic cls NMX).filter (fun w => !goodWord w), w ∈ [Cond.castable cls cls, Cond.declares (Bundle.initS "java/lang/RuntimeException"), Cond.declares (Bundle.initS "java/lang/Exception"), Cond.declares (Bundle.initS "java/lang/Throwable")]) (hgood : ∀ w ∈ Cond.classLink RX6 ik cls :: Cond.initialized cls :: vx_atS RX6 ic cls NMX, vx_ot w = true) (hfit : Bundle.fit cls = true)
    (d0 : decode cc pc = .ok (.new ik, 3)) (d3 : decode cc (pc + 3) = .ok (.dup, 1)) (d4 : decode cc (pc + 4) = .ok (.ldc is, 2)) (d6 : decode cc (pc + 6) = .ok (.invokespecial ic, 3)) (d9 : decode cc (pc + 9) = .ok (.athrow, 1))
    (r1 : 6 ≤ R.frames) (r2 : 82 ≤ R.locals) (r3 : cells + 1 ≤ R.cells) (r4 : slots + 6 ≤ R.slots) (r5 : cells + 1 ≤ mc0) (r6 : slots + 6 ≤ ms0) (h : px0 cls S) :
    W p l e R s m args below meth c H locs cells slots (vx_MQ below Qc (XCs z G ad px0) args s mc0 ms0 (Az z)) (F0 m pc ls []) := by
  have hst := hE.2.2.2.2.2.1 (is, text) (List.mem_of_getElem? hstr)
  refine vx_throwS (own := RX6) (cls := cls) (text := text) (names := NMX) (A := Az z) hx hb hlt hown hfit (by decide) (hts _ hk) (hts _ hini) hst ?_ hgood hE.2.2.2.1 hE.2.2.2.2.1 hS (hsz.trans hml.symm) d0 d3 d4 d6 d9 (fun x h9 => absurd h9 (fun q => htb x q)) ?_ ?_ r3 r4 hlk ?_ hS.2.2 r5 r6
  · exact vx_hat (fun w hw => hts w (hgw w hw)) hbad (vx_c (va_Nw.use rfl (hE.2.2.2.2.2.2.1 (cls, cls) (List.mem_of_getElem? hcas))) (vx_c (va_Nw.use rfl (hE.2.2.2.2.2.2.2.2.2.2.1 (Bundle.initS "java/lang/RuntimeException") (List.mem_of_getElem? (i := 1) rfl))) (vx_c (va_Nw.use rfl (hE.2.2.2.2.2.2.2.2.2.2.1 (Bundle.initS "java/lang/Exception") (List.mem_of_getElem? (i := 2) rfl))) (vx_c (va_Nw.use rfl (hE.2.2.2.2.2.2.2.2.2.2.1 (Bundle.initS "java/lang/Throwable") (List.mem_of_getElem? (i := 3) rfl))) vx_n))))
  · exact r1
  · show 0 + 82 ≤ _
    omega
  · intro t ha hsz1 hq
    refine ⟨(cls, S), h, ⟨rfl, hW.kept hq⟩, Nat.le_trans hS.1 hsz1, fun q h1 h2 => ?_⟩
    rw [hq q (Nat.lt_of_lt_of_le h1 hS.1)]
    exact hS.2.1 q h1 h2
theorem r_throwW {cls text : String} {ik is ic nL k k2 mc0 ms0 : Nat} {Qc : Array Value → State → Outcome → State → Prop} {px0 : String → St → Prop} (hx : p.tables.exec = Jvm.exec) (hb : c.code = cc) (hlt : l.stackTraces = false) (hts : ∀ w ∈ Ts, w.before args s = true) (hown : s.vm.findClass RX6 = some m.cls) (hml : c.maxLocals = nL) (hlk : meth.locks = false) (htb : ∀ x ∈ c.exceptionTable.toList, False) (hE : Ev z G s) (hW : WP z G ad S H) (hS : va_S (Az z) s.heap H locs) (hsz : ls.size = nL)
    (hk : Cond.classLink RX6 ik cls ∈ Ts) (hini : Cond.initialized cls ∈ Ts) (hgw : ∀ w ∈ (vx_atS RX6 ic cls NMX).filter goodWord, w ∈ Ts) (hstr : STR[k]? = some (is, text)) (hcas : CAS[k2]? = some (cls, cls)) (hbad : ∀ w ∈ (vx_atS RX6 ic cls NMX).filter (fun w => !goodWord w), w ∈ [Cond.castable cls cls, Cond.declares (Bundle.initS "java/lang/RuntimeException"), Cond.declares (Bundle.initS "java/lang/Exception"), Cond.declares (Bundle.initS "java/lang/Throwable")]) (hgood : ∀ w ∈ Cond.classLink RX6 ik cls :: Cond.initialized cls :: vx_atS RX6 ic cls NMX, vx_ot w = true) (hfit : Bundle.fit cls = true)
    (d0 : decode cc pc = .ok (.new ik, 3)) (d3 : decode cc (pc + 3) = .ok (.dup, 1)) (d4 : decode cc (pc + 4) = .ok (.ldc_w is, 3)) (d6 : decode cc (pc + 7) = .ok (.invokespecial ic, 3)) (d9 : decode cc (pc + 10) = .ok (.athrow, 1))
    (r1 : 6 ≤ R.frames) (r2 : 82 ≤ R.locals) (r3 : cells + 1 ≤ R.cells) (r4 : slots + 6 ≤ R.slots) (r5 : cells + 1 ≤ mc0) (r6 : slots + 6 ≤ ms0) (h : px0 cls S) :
    W p l e R s m args below meth c H locs cells slots (vx_MQ below Qc (XCs z G ad px0) args s mc0 ms0 (Az z)) (F0 m pc ls []) := by
  have hst := hE.2.2.2.2.2.1 (is, text) (List.mem_of_getElem? hstr)
  refine vx_throwSW (own := RX6) (cls := cls) (text := text) (names := NMX) (A := Az z) hx hb hlt hown hfit (by decide) (hts _ hk) (hts _ hini) hst ?_ hgood hE.2.2.2.1 hE.2.2.2.2.1 hS (hsz.trans hml.symm) d0 d3 d4 d6 d9 (fun x h9 => absurd h9 (fun q => htb x q)) ?_ ?_ r3 r4 hlk ?_ hS.2.2 r5 r6
  · exact vx_hat (fun w hw => hts w (hgw w hw)) hbad (vx_c (va_Nw.use rfl (hE.2.2.2.2.2.2.1 (cls, cls) (List.mem_of_getElem? hcas))) (vx_c (va_Nw.use rfl (hE.2.2.2.2.2.2.2.2.2.2.1 (Bundle.initS "java/lang/RuntimeException") (List.mem_of_getElem? (i := 1) rfl))) (vx_c (va_Nw.use rfl (hE.2.2.2.2.2.2.2.2.2.2.1 (Bundle.initS "java/lang/Exception") (List.mem_of_getElem? (i := 2) rfl))) (vx_c (va_Nw.use rfl (hE.2.2.2.2.2.2.2.2.2.2.1 (Bundle.initS "java/lang/Throwable") (List.mem_of_getElem? (i := 3) rfl))) vx_n))))
  · exact r1
  · show 0 + 82 ≤ _
    omega
  · intro t ha hsz1 hq
    refine ⟨(cls, S), h, ⟨rfl, hW.kept hq⟩, Nat.le_trans hS.1 hsz1, fun q h1 h2 => ?_⟩
    rw [hq q (Nat.lt_of_lt_of_le h1 hS.1)]
    exact hS.2.1 q h1 h2

theorem kA_Vi {y : MethodName} {bytes : ByteArray} {maxL nL mc ms n : Nat} {ret : Option FieldType} {ws : List Cond} {rm : Room} {b : Nat} {As st0 : List Value} {post : Int32 → St × (Nat → Nat → Nat) → Prop} (SS : CallFix p m c cc nL s args Ts own) (hE : Ev z G s) (hz : z ≤ s.heap.size) (hS : va_S (Az z) s.heap H locs) (hW : WP z G ad S H) (hM : Met l y ws rm (Pcs z G ad S (.ref b :: As)) (Qia z G post) mc ms (Az z)) (cw : CallW R s args own C index y bytes maxL ret ws rm mc ms n) (hr : ∃ cell : Cell, H[b]? = some cell ∧ cell.vm.isStatics = false ∧ s.vm.findClass C = some cell.cls) (hn : As.length = n) (hsz : ls.size = nL) (hst : st0 = As.reverse ++ .ref b :: rest) (hrm : (rest.map fun v => v.category).sum ≤ 8) (hdg : decode cc pc = .ok (.invokevirtual index, 3)) (hf : cells + mc ≤ R.cells ∧ slots + ms ≤ R.slots)
    (kk : ∀ (r : Int32) (S' : St) (ad' : Nat → Nat → Nat) (H1 : Heap) (locs1 : List Loc), post r (S', ad') → WP z G ad' S' H1 → va_S (Az z) s.heap H1 locs1 → W p l e R s m args below meth c H1 locs1 (cells + mc) (slots + ms) Q (F0 m (pc + 3) ls (.int r :: rest))) : W p l e R s m args below meth c H locs cells slots Q (F0 m pc ls st0) := by
  subst hst
  exact va_calli (va_runV (As := As) (rest := rest) SS hM cw ⟨Pcs.blind, hr, fun U hU hw => ⟨rfl, Bc.of hE hz hW hS hU hw⟩⟩ rfl hn hsz rfl (lv_room hrm) hdg hf) hS (fun _ _ h => h) (fun _ h => h) (fun r u t H1 locs1 ht _ hp hB _ _ hS1 => kk r u.1 u.2 H1 locs1 hp (by rw [← ht]; exact hB) hS1)
theorem kA_Vv {y : MethodName} {bytes : ByteArray} {maxL nL mc ms n : Nat} {ret : Option FieldType} {ws : List Cond} {rm : Room} {b : Nat} {As st0 : List Value} {post : St × (Nat → Nat → Nat) → Prop} (SS : CallFix p m c cc nL s args Ts own) (hE : Ev z G s) (hz : z ≤ s.heap.size) (hS : va_S (Az z) s.heap H locs) (hW : WP z G ad S H) (hM : Met l y ws rm (Pcs z G ad S (.ref b :: As)) (Qva z G post) mc ms (Az z)) (cw : CallW R s args own C index y bytes maxL ret ws rm mc ms n) (hr : ∃ cell : Cell, H[b]? = some cell ∧ cell.vm.isStatics = false ∧ s.vm.findClass C = some cell.cls) (hn : As.length = n) (hsz : ls.size = nL) (hst : st0 = As.reverse ++ .ref b :: rest) (hrm : (rest.map fun v => v.category).sum ≤ 8) (hdg : decode cc pc = .ok (.invokevirtual index, 3)) (hf : cells + mc ≤ R.cells ∧ slots + ms ≤ R.slots)
    (kk : ∀ (S' : St) (ad' : Nat → Nat → Nat) (H1 : Heap) (locs1 : List Loc), post (S', ad') → WP z G ad' S' H1 → va_S (Az z) s.heap H1 locs1 → W p l e R s m args below meth c H1 locs1 (cells + mc) (slots + ms) Q (F0 m (pc + 3) ls (rest))) : W p l e R s m args below meth c H locs cells slots Q (F0 m pc ls st0) := by
  subst hst
  exact va_callv (va_runV (As := As) (rest := rest) SS hM cw ⟨Pcs.blind, hr, fun U hU hw => ⟨rfl, Bc.of hE hz hW hS hU hw⟩⟩ rfl hn hsz rfl (lv_room hrm) hdg hf) hS (fun _ _ h => h) (fun _ h => h) (fun u t H1 locs1 ht _ hp hB _ _ hS1 => kk u.1 u.2 H1 locs1 hp (by rw [← ht]; exact hB) hS1)
end RM

