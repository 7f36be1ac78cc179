/-! the law's wrappers: what a call did, and what it threw. Written by wip/gen/hand12.py -/
theorem met_ofWH {l : Launch} {y : MethodName} {ws ws' : List Cond} {rm : Room} {Pc : Array Value → State → Prop} {Qc : Array Value → State → Outcome → State → Prop} {mc ms : Nat} {free : Addr → Prop} {cc : ByteArray} {maxL : Nat} {ret : Option FieldType} {hh : List (Nat × Nat × Nat × Nat)}
    (hy : plainName y.cls = true) (hw : ws = Cond.codeWith y cc maxL ret hh :: ws')
    (body : ∀ p e s m args below meth c s₁, BodyLoose p l y (headSpec ws rm) cc maxL ret e s m args below meth c s₁ → c.maxLocals = maxL → Pc args s →
      W p l e (headSpec ws rm).room s m args below meth c s.heap [] 0 0 (MQ below Qc args s mc ms free) (entryFrame m args maxL)) : Met l y ws rm Pc Qc mc ms free := by
  refine MetFree.of_bodyS (code := cc) (maxLocals := maxL) (ret := ret) hy ?_ ?_
  · intro args s m h hn
    obtain ⟨m9, meth, c, hn9, h1, h2, h3, h4, -, h5, h6, -⟩ := Cond.codeWith_spec (atoms_spec (ws := ws) h _ (by rw [hw]; exact List.mem_cons_self))
    cases hn.symm.trans hn9
    exact ⟨meth, c, h1, h2, h3, h4, h5, h6⟩
  · intro p e s m args below meth c s₁ B hml hP _
    have hh0 : s₁.heap = s.heap := by rw [B.state]; rfl
    obtain ⟨t, a1, o, b1, b2, b3⟩ := body p e s m args below meth c s₁ B hml hP s₁ hh0 (Stand.of_body B)
    exact ⟨t, o, a1, b1, b2, ⟨b3.1, b3.2⟩⟩
/-- a wrapper's end: the number k, the answer r in the out row where k is 0 -/
def LQ (z : Nat) (G : Gl) (ad : Nat → Nat → Nat) (ν : NU) (ρ : RH) (k r : Int32) (P : SG → NU → Prop) : Array Value → State → Outcome → State → Prop := Qia z G (fun k' S1 => k' = k ∧ ∃ (t : SG) (u : NU) (lo' : Int64), S1.1 = (t, u, ρ, lo') ∧ Xt ad S1.2 ν u ∧ (k = 0 → lo' = r.toInt64) ∧ P t u)
def LV (z : Nat) (G : Gl) (ad : Nat → Nat → Nat) (ν : NU) (ρ : RH) (k : Int32) (P : SG → NU → Prop) : Array Value → State → Outcome → State → Prop := Qia z G (fun k' S1 => k' = k ∧ ∃ (t : SG) (u : NU) (lo' : Int64), S1.1 = (t, u, ρ, lo') ∧ Xt ad S1.2 ν u ∧ P t u)
set_option maxHeartbeats 2000000 in
set_option maxRecDepth 100000 in
theorem mtL_pass (l : Launch) (hlt : l.stackTraces = false) (z : Nat) (G : Gl) (ad : Nat → Nat → Nat) (σ : SG) (ν : NU) (ρ : RH) (lo : Int64) (p1 : Int32) (k r : Int32) (P : SG → NU → Prop) (h : wpX6_pass σ ν p1 (fun r9 s9 => k = 0 ∧ r9 = r ∧ P s9 ν) (fun E s9 => xk9 [IAE, ISE] E k ∧ P s9 ν)) : Met l yL_pass wsL_pass ({ frames := 7, cells := 1, slots := 6, locals := 103 } : Room) (Pcs z G ad (σ, ν, ρ, lo) [.ref (ad 0 0), .int p1, .ref (ad 31 0)]) (LQ z G ad ν ρ k r P) 1 6 (Az z) := by
  refine met_ofWH (cc := cL_pass) (maxL := 4) (ret := some .int) (hh := [(0, 9, 12, 13), (0, 9, 15, 15)]) (by decide) rfl ?_
  intro p e s m args below meth c s₁ BB hml hv
  obtain ⟨rfl, hz, hW, hE⟩ := hv
  have hx := BB.exec
  have hb := BB.bytes
  have hr := BB.returns
  have hts := atoms_spec (ws := wsL_pass) BB.pre
  have hown : s.vm.findClass RL = some m.cls := findClass_of_methodNamed BB.named
  have hlocks := BB.notSynchronized
  have htb : c.exceptionTable.toList = [⟨0, 9, 12, 13⟩, ⟨0, 9, 15, 15⟩] := vx_table (x := yL_pass) BB (hts _ List.mem_cons_self)
  have hS : va_S (Az z) s.heap s.heap [] := va_S.rf
  have hl := lv_entry [.ref (ad 0 0), .int p1, .ref (ad 31 0)] (n := 4) (Nat.le_of_ble_eq_true rfl)
  rw [lg_entry_eq]
  generalize (lg_sl [.ref (ad 0 0), .int p1, .ref (ad 31 0)] ++ List.replicate (4 - (lg_sl [.ref (ad 0 0), .int p1, .ref (ad 31 0)]).length) Slot.unset).toArray = ls at hl ⊢
  have hl : lv_has ls 4 [(0, .ref (ad 0 0)), (1, .int p1), (2, .ref (ad 31 0))] := hl
  refine lv_aload_n hx hb dL_pass_0 rfl (lv_at hl 2 rfl) ?_
  refine lv_iconst (v := (0 : Int32)) hx hb dL_pass_1 (by decide) ?_
  refine lv_aload_n hx hb dL_pass_2 rfl (lv_at hl 0 rfl) ?_
  refine lv_iload_n hx hb dL_pass_3 rfl (lv_at hl 1 rfl) ?_
  have hrc := r_recv hE hW 0 0 rfl (C := RX6) (ci := 9) rfl rfl
  refine vx_calli (vx_runV (As := [.int p1]) (rest := [.int 0, .ref (ad 31 0)]) ⟨hx, hb, hml, hown, hts⟩ (mtX6_pass l hlt z G ad σ ν ρ lo p1 _ _ h) (cwV 1 hts gL_pass_X6_pass rfl rfl rfl (by decide +kernel) ⟨Nat.le_of_ble_eq_true rfl, Nat.le_of_ble_eq_true rfl⟩) ⟨Pcs.blind, hrc, fun U hU hw => ⟨rfl, Bc.of hE hz hW hS hU hw⟩⟩ rfl rfl hl.1 rfl (lv_room (Nat.le_of_ble_eq_true rfl)) dL_pass_4 ⟨Nat.le_of_ble_eq_true rfl, Nat.le_of_ble_eq_true rfl⟩) hS (fun _ _ h => h) (fun _ h => h) (fun _ _ h => h) (fun E ce q9 u9 t H1 locs1 ht _ hp hB _ _ hS1 hce hv hcl => ?_) (fun r9 u9 t H1 locs1 ht _ hp hB _ _ hS1 => ?_)
  · obtain ⟨E9, S9⟩ := u9
    obtain ⟨rfl, hB⟩ := hB
    obtain ⟨s9, rfl, hxk, hP⟩ := hp
    have hW : WP z G ad (s9, ν, ρ, lo) H1 := by rw [← ht]; exact hB
    obtain ⟨i9, hi9, hi3, rfl⟩ := hxk
    rcases (show i9 = 0 ∨ i9 = 1 ∨ i9 = 2 by omega) with rfl | rfl | rfl
    · obtain rfl : IAE = E := Option.some.inj hi9
      refine vx_catch (name := IAE) hown [] ⟨0, 9, 12, 13⟩ [⟨0, 9, 15, 15⟩] htb (fun z9 hz9 => absurd hz9 List.not_mem_nil) rfl (by decide) (hts _ (List.mem_of_getElem? (i := 1) rfl)) (va_Nw.use rfl (hE.2.2.2.2.2.2.1 (IAE, IAE) (List.mem_of_getElem? (i := 2) rfl))) hce hv hcl ?_
      refine lv_astore_n (lv' := [(3, .ref q9), (0, .ref (ad 0 0)), (1, .int p1), (2, .ref (ad 31 0))]) hx hb dL_pass_12 rfl hl (by decide) rfl (fun ls hl => ?_)
      refine lv_iconst (v := (1 : Int32)) hx hb dL_pass_13 (by decide) ?_
      exact W.iret (v := (1 : Int32)) hx hb hr (fun t ht _ => ⟨⟨_, ((s9, ν, ρ, lo), ad), rfl, ⟨by decide, s9, ν, lo, rfl, Xt.rf, fun q => absurd q (by decide), hP⟩, WP.at9 ht hW⟩, hS1.F ht⟩) hS1.2.2 dL_pass_14 (hlocks := hlocks)
    · obtain rfl : ISE = E := Option.some.inj hi9
      refine vx_catch (name := ISE) hown [⟨0, 9, 12, 13⟩] ⟨0, 9, 15, 15⟩ [] htb (fun z9 hz9 => by rw [List.mem_singleton] at hz9; subst hz9; exact Or.inr ⟨by decide, IAE, hts _ (List.mem_of_getElem? (i := 1) rfl), hE.2.2.2.2.2.2.2.1 (ISE, IAE) (List.mem_of_getElem? (i := 2) rfl)⟩) rfl (by decide) (hts _ (List.mem_of_getElem? (i := 2) rfl)) (va_Nw.use rfl (hE.2.2.2.2.2.2.1 (ISE, ISE) (List.mem_of_getElem? (i := 3) rfl))) hce hv hcl ?_
      refine lv_astore_n (lv' := [(3, .ref q9), (0, .ref (ad 0 0)), (1, .int p1), (2, .ref (ad 31 0))]) hx hb dL_pass_15 rfl hl (by decide) rfl (fun ls hl => ?_)
      refine lv_iconst (v := (2 : Int32)) hx hb dL_pass_16 (by decide) ?_
      exact W.iret (v := (2 : Int32)) hx hb hr (fun t ht _ => ⟨⟨_, ((s9, ν, ρ, lo), ad), rfl, ⟨by decide, s9, ν, lo, rfl, Xt.rf, fun q => absurd q (by decide), hP⟩, WP.at9 ht hW⟩, hS1.F ht⟩) hS1.2.2 dL_pass_17 (hlocks := hlocks)
    · cases hi9
  · obtain ⟨s9, rfl, hk, rfl, hP⟩ := hp
    have hW : WP z G ad (s9, ν, ρ, lo) H1 := by rw [← ht]; exact hB
    refine lv_i2l (v := r9.toInt64) hx hb dL_pass_7 rfl ?_
    refine r_last hx hb hE hW hS1 dL_pass_8 (fun H locs hW hS => ?_)
    refine lv_goto (tgt := 18) hx hb dL_pass_9 (by decide) ?_
    refine lv_iconst (v := (0 : Int32)) hx hb dL_pass_18 (by decide) ?_
    exact W.iret (v := (0 : Int32)) hx hb hr (fun t ht _ => ⟨⟨_, ((s9, ν, ρ, r9.toInt64), ad), rfl, ⟨hk.symm, s9, ν, r9.toInt64, rfl, Xt.rf, fun _ => rfl, hP⟩, WP.at9 ht hW⟩, hS.F ht⟩) hS.2.2 dL_pass_19 (hlocks := hlocks)

set_option maxHeartbeats 2000000 in
set_option maxRecDepth 100000 in
theorem mtL_act (l : Launch) (hlt : l.stackTraces = false) (z : Nat) (G : Gl) (ad : Nat → Nat → Nat) (σ : SG) (ν : NU) (ρ : RH) (lo : Int64) (k r : Int32) (P : SG → NU → Prop) (h : wpX6_act σ ν (fun r9 s9 => k = 0 ∧ r9 = r ∧ P s9 ν) (fun E s9 => xk9 [ISE] E k ∧ P s9 ν)) : Met l yL_act wsL_act ({ frames := 7, cells := 1, slots := 6, locals := 102 } : Room) (Pcs z G ad (σ, ν, ρ, lo) [.ref (ad 0 0), .ref (ad 31 0)]) (LQ z G ad ν ρ k r P) 1 6 (Az z) := by
  refine met_ofWH (cc := cL_act) (maxL := 3) (ret := some .int) (hh := [(0, 8, 11, 15)]) (by decide) rfl ?_
  intro p e s m args below meth c s₁ BB hml hv
  obtain ⟨rfl, hz, hW, hE⟩ := hv
  have hx := BB.exec
  have hb := BB.bytes
  have hr := BB.returns
  have hts := atoms_spec (ws := wsL_act) BB.pre
  have hown : s.vm.findClass RL = some m.cls := findClass_of_methodNamed BB.named
  have hlocks := BB.notSynchronized
  have htb : c.exceptionTable.toList = [⟨0, 8, 11, 15⟩] := vx_table (x := yL_act) BB (hts _ List.mem_cons_self)
  have hS : va_S (Az z) s.heap s.heap [] := va_S.rf
  have hl := lv_entry [.ref (ad 0 0), .ref (ad 31 0)] (n := 3) (Nat.le_of_ble_eq_true rfl)
  rw [lg_entry_eq]
  generalize (lg_sl [.ref (ad 0 0), .ref (ad 31 0)] ++ List.replicate (3 - (lg_sl [.ref (ad 0 0), .ref (ad 31 0)]).length) Slot.unset).toArray = ls at hl ⊢
  have hl : lv_has ls 3 [(0, .ref (ad 0 0)), (1, .ref (ad 31 0))] := hl
  refine lv_aload_n hx hb dL_act_0 rfl (lv_at hl 1 rfl) ?_
  refine lv_iconst (v := (0 : Int32)) hx hb dL_act_1 (by decide) ?_
  refine lv_aload_n hx hb dL_act_2 rfl (lv_at hl 0 rfl) ?_
  have hrc := r_recv hE hW 0 0 rfl (C := RX6) (ci := 9) rfl rfl
  refine vx_calli (vx_runV (As := []) (rest := [.int 0, .ref (ad 31 0)]) ⟨hx, hb, hml, hown, hts⟩ (mtX6_act l hlt z G ad σ ν ρ lo _ _ h) (cwV 0 hts gL_act_X6_act rfl rfl rfl (by decide +kernel) ⟨Nat.le_of_ble_eq_true rfl, Nat.le_of_ble_eq_true rfl⟩) ⟨Pcs.blind, hrc, fun U hU hw => ⟨rfl, Bc.of hE hz hW hS hU hw⟩⟩ rfl rfl hl.1 rfl (lv_room (Nat.le_of_ble_eq_true rfl)) dL_act_3 ⟨Nat.le_of_ble_eq_true rfl, Nat.le_of_ble_eq_true rfl⟩) hS (fun _ _ h => h) (fun _ h => h) (fun _ _ h => h) (fun E ce q9 u9 t H1 locs1 ht _ hp hB _ _ hS1 hce hv hcl => ?_) (fun r9 u9 t H1 locs1 ht _ hp hB _ _ hS1 => ?_)
  · obtain ⟨E9, S9⟩ := u9
    obtain ⟨rfl, hB⟩ := hB
    obtain ⟨s9, rfl, hxk, hP⟩ := hp
    have hW : WP z G ad (s9, ν, ρ, lo) H1 := by rw [← ht]; exact hB
    obtain ⟨i9, hi9, hi3, rfl⟩ := hxk
    rcases (show i9 = 0 ∨ i9 = 1 ∨ i9 = 2 by omega) with rfl | rfl | rfl
    · obtain rfl : ISE = E := Option.some.inj hi9
      refine vx_catch (name := ISE) hown [] ⟨0, 8, 11, 15⟩ [] htb (fun z9 hz9 => absurd hz9 List.not_mem_nil) rfl (by decide) (hts _ (List.mem_of_getElem? (i := 1) rfl)) (va_Nw.use rfl (hE.2.2.2.2.2.2.1 (ISE, ISE) (List.mem_of_getElem? (i := 3) rfl))) hce hv hcl ?_
      refine lv_astore_n (lv' := [(2, .ref q9), (0, .ref (ad 0 0)), (1, .ref (ad 31 0))]) hx hb dL_act_11 rfl hl (by decide) rfl (fun ls hl => ?_)
      refine lv_iconst (v := (1 : Int32)) hx hb dL_act_12 (by decide) ?_
      exact W.iret (v := (1 : Int32)) hx hb hr (fun t ht _ => ⟨⟨_, ((s9, ν, ρ, lo), ad), rfl, ⟨by decide, s9, ν, lo, rfl, Xt.rf, fun q => absurd q (by decide), hP⟩, WP.at9 ht hW⟩, hS1.F ht⟩) hS1.2.2 dL_act_13 (hlocks := hlocks)
    · cases hi9
    · cases hi9
  · obtain ⟨s9, rfl, hk, rfl, hP⟩ := hp
    have hW : WP z G ad (s9, ν, ρ, lo) H1 := by rw [← ht]; exact hB
    refine lv_i2l (v := r9.toInt64) hx hb dL_act_6 rfl ?_
    refine r_last hx hb hE hW hS1 dL_act_7 (fun H locs hW hS => ?_)
    refine lv_goto (tgt := 14) hx hb dL_act_8 (by decide) ?_
    refine lv_iconst (v := (0 : Int32)) hx hb dL_act_14 (by decide) ?_
    exact W.iret (v := (0 : Int32)) hx hb hr (fun t ht _ => ⟨⟨_, ((s9, ν, ρ, r9.toInt64), ad), rfl, ⟨hk.symm, s9, ν, r9.toInt64, rfl, Xt.rf, fun _ => rfl, hP⟩, WP.at9 ht hW⟩, hS.F ht⟩) hS.2.2 dL_act_15 (hlocks := hlocks)

set_option maxHeartbeats 2000000 in
set_option maxRecDepth 100000 in
theorem mtL_terms (l : Launch) (hlt : l.stackTraces = false) (z : Nat) (G : Gl) (ad : Nat → Nat → Nat) (σ : SG) (ν : NU) (ρ : RH) (lo : Int64) (p1 : Int32) (p2 : Int32) (p3 : Int32) (p4 : Int32) (k : Int32) (P : SG → NU → Prop) (h : wpX6_terms σ ν p1 p2 p3 p4 (fun s9 n9 => k = 0 ∧ P s9 n9) (fun E => xk9 [IOB, IAE] E k ∧ P σ ν)) : Met l yL_terms wsL_terms ({ frames := 8, cells := 4, slots := 22, locals := 127 } : Room) (Pcs z G ad (σ, ν, ρ, lo) [.ref (ad 0 0), .int p1, .int p2, .int p3, .int p4]) (LV z G ad ν ρ k P) 4 22 (Az z) := by
  refine met_ofWH (cc := cL_terms) (maxL := 6) (ret := some .int) (hh := [(0, 9, 12, 25), (0, 9, 16, 13)]) (by decide) rfl ?_
  intro p e s m args below meth c s₁ BB hml hv
  obtain ⟨rfl, hz, hW, hE⟩ := hv
  have hx := BB.exec
  have hb := BB.bytes
  have hr := BB.returns
  have hts := atoms_spec (ws := wsL_terms) BB.pre
  have hown : s.vm.findClass RL = some m.cls := findClass_of_methodNamed BB.named
  have hlocks := BB.notSynchronized
  have htb : c.exceptionTable.toList = [⟨0, 9, 12, 25⟩, ⟨0, 9, 16, 13⟩] := vx_table (x := yL_terms) BB (hts _ List.mem_cons_self)
  have hS : va_S (Az z) s.heap s.heap [] := va_S.rf
  have hl := lv_entry [.ref (ad 0 0), .int p1, .int p2, .int p3, .int p4] (n := 6) (Nat.le_of_ble_eq_true rfl)
  rw [lg_entry_eq]
  generalize (lg_sl [.ref (ad 0 0), .int p1, .int p2, .int p3, .int p4] ++ List.replicate (6 - (lg_sl [.ref (ad 0 0), .int p1, .int p2, .int p3, .int p4]).length) Slot.unset).toArray = ls at hl ⊢
  have hl : lv_has ls 6 [(0, .ref (ad 0 0)), (1, .int p1), (2, .int p2), (3, .int p3), (4, .int p4)] := hl
  refine lv_aload_n hx hb dL_terms_0 rfl (lv_at hl 0 rfl) ?_
  refine lv_iload_n hx hb dL_terms_1 rfl (lv_at hl 1 rfl) ?_
  refine lv_iload_n hx hb dL_terms_2 rfl (lv_at hl 2 rfl) ?_
  refine lv_iload_n hx hb dL_terms_3 rfl (lv_at hl 3 rfl) ?_
  refine lv_iload hx hb dL_terms_4 (lv_at hl 4 rfl) ?_
  have hrc := r_recv hE hW 0 0 rfl (C := RX6) (ci := 9) rfl rfl
  refine vx_callv (vx_runV (As := [.int p1, .int p2, .int p3, .int p4]) (rest := []) ⟨hx, hb, hml, hown, hts⟩ (mtX6_terms l hlt z G ad σ ν ρ lo p1 p2 p3 p4 _ _ h) (cwV 4 hts gL_terms_X6_terms rfl rfl rfl (by decide +kernel) ⟨Nat.le_of_ble_eq_true rfl, Nat.le_of_ble_eq_true rfl⟩) ⟨Pcs.blind, hrc, fun U hU hw => ⟨rfl, Bc.of hE hz hW hS hU hw⟩⟩ rfl rfl hl.1 rfl (lv_room (Nat.le_of_ble_eq_true rfl)) dL_terms_6 ⟨Nat.le_of_ble_eq_true rfl, Nat.le_of_ble_eq_true rfl⟩) hS (fun _ _ h => h) (fun _ h => h) (fun _ _ h => h) (fun E ce q9 u9 t H1 locs1 ht _ hp hB _ _ hS1 hce hv hcl => ?_) (fun u9 t H1 locs1 ht _ hp hB _ _ hS1 => ?_)
  · obtain ⟨E9, S9⟩ := u9
    obtain ⟨rfl, hB⟩ := hB
    obtain ⟨rfl, hxk, hP⟩ := hp
    have hW : WP z G ad (σ, ν, ρ, lo) H1 := by rw [← ht]; exact hB
    obtain ⟨i9, hi9, hi3, rfl⟩ := hxk
    rcases (show i9 = 0 ∨ i9 = 1 ∨ i9 = 2 by omega) with rfl | rfl | rfl
    · obtain rfl : IOB = E := Option.some.inj hi9
      refine vx_catch (name := IOB) hown [] ⟨0, 9, 12, 25⟩ [⟨0, 9, 16, 13⟩] htb (fun z9 hz9 => absurd hz9 List.not_mem_nil) rfl (by decide) (hts _ (List.mem_of_getElem? (i := 1) rfl)) (va_Nw.use rfl (hE.2.2.2.2.2.2.1 (IOB, IOB) (List.mem_of_getElem? (i := 4) rfl))) hce hv hcl ?_
      refine lv_astore (lv' := [(5, .ref q9), (0, .ref (ad 0 0)), (1, .int p1), (2, .int p2), (3, .int p3), (4, .int p4)]) hx hb dL_terms_12 hl (by decide) rfl (fun ls hl => ?_)
      refine lv_iconst (v := (1 : Int32)) hx hb dL_terms_14 (by decide) ?_
      exact W.iret (v := (1 : Int32)) hx hb hr (fun t ht _ => ⟨⟨_, ((σ, ν, ρ, lo), ad), rfl, ⟨by decide, σ, ν, lo, rfl, Xt.rf, hP⟩, WP.at9 ht hW⟩, hS1.F ht⟩) hS1.2.2 dL_terms_15 (hlocks := hlocks)
    · obtain rfl : IAE = E := Option.some.inj hi9
      refine vx_catch (name := IAE) hown [⟨0, 9, 12, 25⟩] ⟨0, 9, 16, 13⟩ [] htb (fun z9 hz9 => by rw [List.mem_singleton] at hz9; subst hz9; exact Or.inr ⟨by decide, IOB, hts _ (List.mem_of_getElem? (i := 1) rfl), hE.2.2.2.2.2.2.2.1 (IAE, IOB) (List.mem_of_getElem? (i := 1) rfl)⟩) rfl (by decide) (hts _ (List.mem_of_getElem? (i := 2) rfl)) (va_Nw.use rfl (hE.2.2.2.2.2.2.1 (IAE, IAE) (List.mem_of_getElem? (i := 2) rfl))) hce hv hcl ?_
      refine lv_astore (lv' := [(5, .ref q9), (0, .ref (ad 0 0)), (1, .int p1), (2, .int p2), (3, .int p3), (4, .int p4)]) hx hb dL_terms_16 hl (by decide) rfl (fun ls hl => ?_)
      refine lv_iconst (v := (2 : Int32)) hx hb dL_terms_18 (by decide) ?_
      exact W.iret (v := (2 : Int32)) hx hb hr (fun t ht _ => ⟨⟨_, ((σ, ν, ρ, lo), ad), rfl, ⟨by decide, σ, ν, lo, rfl, Xt.rf, hP⟩, WP.at9 ht hW⟩, hS1.F ht⟩) hS1.2.2 dL_terms_19 (hlocks := hlocks)
    · cases hi9
  · obtain ⟨S9, ad9⟩ := u9
    obtain ⟨s9, n9, e9, hXt, hk, hP⟩ := hp
    cases e9
    have hW : WP z G ad9 (s9, n9, ρ, lo) H1 := by rw [← ht]; exact hB
    refine lv_goto (tgt := 20) hx hb dL_terms_9 (by decide) ?_
    refine lv_iconst (v := (0 : Int32)) hx hb dL_terms_20 (by decide) ?_
    exact W.iret (v := (0 : Int32)) hx hb hr (fun t ht _ => ⟨⟨_, ((s9, n9, ρ, lo), ad9), rfl, ⟨hk.symm, s9, n9, lo, rfl, hXt, hP⟩, WP.at9 ht hW⟩, hS1.F ht⟩) hS1.2.2 dL_terms_21 (hlocks := hlocks)

set_option maxHeartbeats 2000000 in
set_option maxRecDepth 100000 in
theorem mtL_word (l : Launch) (hlt : l.stackTraces = false) (z : Nat) (G : Gl) (ad : Nat → Nat → Nat) (σ : SG) (ν : NU) (ρ : RH) (lo : Int64) (p1 : Int32) (p2 : Int32) (k r : Int32) (P : SG → NU → Prop) (h : wpX6_word σ ν p1 p2 (fun r9 s9 => k = 0 ∧ r9 = r ∧ P s9 ν) (fun E s9 => xk9 [IAE, ISE] E k ∧ P s9 ν)) : Met l yL_word wsL_word ({ frames := 7, cells := 1, slots := 6, locals := 105 } : Room) (Pcs z G ad (σ, ν, ρ, lo) [.ref (ad 0 0), .int p1, .int p2, .ref (ad 31 0)]) (LQ z G ad ν ρ k r P) 1 6 (Az z) := by
  refine met_ofWH (cc := cL_word) (maxL := 5) (ret := some .int) (hh := [(0, 10, 13, 13), (0, 10, 17, 15)]) (by decide) rfl ?_
  intro p e s m args below meth c s₁ BB hml hv
  obtain ⟨rfl, hz, hW, hE⟩ := hv
  have hx := BB.exec
  have hb := BB.bytes
  have hr := BB.returns
  have hts := atoms_spec (ws := wsL_word) BB.pre
  have hown : s.vm.findClass RL = some m.cls := findClass_of_methodNamed BB.named
  have hlocks := BB.notSynchronized
  have htb : c.exceptionTable.toList = [⟨0, 10, 13, 13⟩, ⟨0, 10, 17, 15⟩] := vx_table (x := yL_word) BB (hts _ List.mem_cons_self)
  have hS : va_S (Az z) s.heap s.heap [] := va_S.rf
  have hl := lv_entry [.ref (ad 0 0), .int p1, .int p2, .ref (ad 31 0)] (n := 5) (Nat.le_of_ble_eq_true rfl)
  rw [lg_entry_eq]
  generalize (lg_sl [.ref (ad 0 0), .int p1, .int p2, .ref (ad 31 0)] ++ List.replicate (5 - (lg_sl [.ref (ad 0 0), .int p1, .int p2, .ref (ad 31 0)]).length) Slot.unset).toArray = ls at hl ⊢
  have hl : lv_has ls 5 [(0, .ref (ad 0 0)), (1, .int p1), (2, .int p2), (3, .ref (ad 31 0))] := hl
  refine lv_aload_n hx hb dL_word_0 rfl (lv_at hl 3 rfl) ?_
  refine lv_iconst (v := (0 : Int32)) hx hb dL_word_1 (by decide) ?_
  refine lv_aload_n hx hb dL_word_2 rfl (lv_at hl 0 rfl) ?_
  refine lv_iload_n hx hb dL_word_3 rfl (lv_at hl 1 rfl) ?_
  refine lv_iload_n hx hb dL_word_4 rfl (lv_at hl 2 rfl) ?_
  have hrc := r_recv hE hW 0 0 rfl (C := RX6) (ci := 9) rfl rfl
  refine vx_calli (vx_runV (As := [.int p1, .int p2]) (rest := [.int 0, .ref (ad 31 0)]) ⟨hx, hb, hml, hown, hts⟩ (mtX6_word l hlt z G ad σ ν ρ lo p1 p2 _ _ h) (cwV 2 hts gL_word_X6_word rfl rfl rfl (by decide +kernel) ⟨Nat.le_of_ble_eq_true rfl, Nat.le_of_ble_eq_true rfl⟩) ⟨Pcs.blind, hrc, fun U hU hw => ⟨rfl, Bc.of hE hz hW hS hU hw⟩⟩ rfl rfl hl.1 rfl (lv_room (Nat.le_of_ble_eq_true rfl)) dL_word_5 ⟨Nat.le_of_ble_eq_true rfl, Nat.le_of_ble_eq_true rfl⟩) hS (fun _ _ h => h) (fun _ h => h) (fun _ _ h => h) (fun E ce q9 u9 t H1 locs1 ht _ hp hB _ _ hS1 hce hv hcl => ?_) (fun r9 u9 t H1 locs1 ht _ hp hB _ _ hS1 => ?_)
  · obtain ⟨E9, S9⟩ := u9
    obtain ⟨rfl, hB⟩ := hB
    obtain ⟨s9, rfl, hxk, hP⟩ := hp
    have hW : WP z G ad (s9, ν, ρ, lo) H1 := by rw [← ht]; exact hB
    obtain ⟨i9, hi9, hi3, rfl⟩ := hxk
    rcases (show i9 = 0 ∨ i9 = 1 ∨ i9 = 2 by omega) with rfl | rfl | rfl
    · obtain rfl : IAE = E := Option.some.inj hi9
      refine vx_catch (name := IAE) hown [] ⟨0, 10, 13, 13⟩ [⟨0, 10, 17, 15⟩] htb (fun z9 hz9 => absurd hz9 List.not_mem_nil) rfl (by decide) (hts _ (List.mem_of_getElem? (i := 1) rfl)) (va_Nw.use rfl (hE.2.2.2.2.2.2.1 (IAE, IAE) (List.mem_of_getElem? (i := 2) rfl))) hce hv hcl ?_
      refine lv_astore (lv' := [(4, .ref q9), (0, .ref (ad 0 0)), (1, .int p1), (2, .int p2), (3, .ref (ad 31 0))]) hx hb dL_word_13 hl (by decide) rfl (fun ls hl => ?_)
      refine lv_iconst (v := (1 : Int32)) hx hb dL_word_15 (by decide) ?_
      exact W.iret (v := (1 : Int32)) hx hb hr (fun t ht _ => ⟨⟨_, ((s9, ν, ρ, lo), ad), rfl, ⟨by decide, s9, ν, lo, rfl, Xt.rf, fun q => absurd q (by decide), hP⟩, WP.at9 ht hW⟩, hS1.F ht⟩) hS1.2.2 dL_word_16 (hlocks := hlocks)
    · obtain rfl : ISE = E := Option.some.inj hi9
      refine vx_catch (name := ISE) hown [⟨0, 10, 13, 13⟩] ⟨0, 10, 17, 15⟩ [] htb (fun z9 hz9 => by rw [List.mem_singleton] at hz9; subst hz9; exact Or.inr ⟨by decide, IAE, hts _ (List.mem_of_getElem? (i := 1) rfl), hE.2.2.2.2.2.2.2.1 (ISE, IAE) (List.mem_of_getElem? (i := 2) rfl)⟩) rfl (by decide) (hts _ (List.mem_of_getElem? (i := 2) rfl)) (va_Nw.use rfl (hE.2.2.2.2.2.2.1 (ISE, ISE) (List.mem_of_getElem? (i := 3) rfl))) hce hv hcl ?_
      refine lv_astore (lv' := [(4, .ref q9), (0, .ref (ad 0 0)), (1, .int p1), (2, .int p2), (3, .ref (ad 31 0))]) hx hb dL_word_17 hl (by decide) rfl (fun ls hl => ?_)
      refine lv_iconst (v := (2 : Int32)) hx hb dL_word_19 (by decide) ?_
      exact W.iret (v := (2 : Int32)) hx hb hr (fun t ht _ => ⟨⟨_, ((s9, ν, ρ, lo), ad), rfl, ⟨by decide, s9, ν, lo, rfl, Xt.rf, fun q => absurd q (by decide), hP⟩, WP.at9 ht hW⟩, hS1.F ht⟩) hS1.2.2 dL_word_20 (hlocks := hlocks)
    · cases hi9
  · obtain ⟨s9, rfl, hk, rfl, hP⟩ := hp
    have hW : WP z G ad (s9, ν, ρ, lo) H1 := by rw [← ht]; exact hB
    refine lv_i2l (v := r9.toInt64) hx hb dL_word_8 rfl ?_
    refine r_last hx hb hE hW hS1 dL_word_9 (fun H locs hW hS => ?_)
    refine lv_goto (tgt := 21) hx hb dL_word_10 (by decide) ?_
    refine lv_iconst (v := (0 : Int32)) hx hb dL_word_21 (by decide) ?_
    exact W.iret (v := (0 : Int32)) hx hb hr (fun t ht _ => ⟨⟨_, ((s9, ν, ρ, r9.toInt64), ad), rfl, ⟨hk.symm, s9, ν, r9.toInt64, rfl, Xt.rf, fun _ => rfl, hP⟩, WP.at9 ht hW⟩, hS.F ht⟩) hS.2.2 dL_word_22 (hlocks := hlocks)

set_option maxHeartbeats 2000000 in
set_option maxRecDepth 100000 in
theorem mtL_enact (l : Launch) (hlt : l.stackTraces = false) (z : Nat) (G : Gl) (ad : Nat → Nat → Nat) (σ : SG) (ν : NU) (ρ : RH) (lo : Int64) (p1 : Int32) (p2 : Int32) (p3 : Int32) (k r : Int32) (P : SG → NU → Prop) (h : wpX6_enact σ ν p1 p2 p3 (fun r9 s9 n9 => k = 0 ∧ r9 = r ∧ P s9 n9) (fun E => xk9 [IOB, IAE, ISE] E k ∧ P σ ν)) : Met l yL_enact wsL_enact ({ frames := 10, cells := 53, slots := 2572, locals := 244 } : Room) (Pcs z G ad (σ, ν, ρ, lo) [.ref (ad 0 0), .int p1, .int p2, .int p3, .ref (ad 31 0)]) (LQ z G ad ν ρ k r P) 53 2572 (Az z) := by
  refine met_ofWH (cc := cL_enact) (maxL := 6) (ret := some .int) (hh := [(0, 12, 15, 25), (0, 12, 19, 13), (0, 12, 23, 15)]) (by decide) rfl ?_
  intro p e s m args below meth c s₁ BB hml hv
  obtain ⟨rfl, hz, hW, hE⟩ := hv
  have hx := BB.exec
  have hb := BB.bytes
  have hr := BB.returns
  have hts := atoms_spec (ws := wsL_enact) BB.pre
  have hown : s.vm.findClass RL = some m.cls := findClass_of_methodNamed BB.named
  have hlocks := BB.notSynchronized
  have htb : c.exceptionTable.toList = [⟨0, 12, 15, 25⟩, ⟨0, 12, 19, 13⟩, ⟨0, 12, 23, 15⟩] := vx_table (x := yL_enact) BB (hts _ List.mem_cons_self)
  have hS : va_S (Az z) s.heap s.heap [] := va_S.rf
  have hl := lv_entry [.ref (ad 0 0), .int p1, .int p2, .int p3, .ref (ad 31 0)] (n := 6) (Nat.le_of_ble_eq_true rfl)
  rw [lg_entry_eq]
  generalize (lg_sl [.ref (ad 0 0), .int p1, .int p2, .int p3, .ref (ad 31 0)] ++ List.replicate (6 - (lg_sl [.ref (ad 0 0), .int p1, .int p2, .int p3, .ref (ad 31 0)]).length) Slot.unset).toArray = ls at hl ⊢
  have hl : lv_has ls 6 [(0, .ref (ad 0 0)), (1, .int p1), (2, .int p2), (3, .int p3), (4, .ref (ad 31 0))] := hl
  refine lv_aload hx hb dL_enact_0 (lv_at hl 4 rfl) ?_
  refine lv_iconst (v := (0 : Int32)) hx hb dL_enact_2 (by decide) ?_
  refine lv_aload_n hx hb dL_enact_3 rfl (lv_at hl 0 rfl) ?_
  refine lv_iload_n hx hb dL_enact_4 rfl (lv_at hl 1 rfl) ?_
  refine lv_iload_n hx hb dL_enact_5 rfl (lv_at hl 2 rfl) ?_
  refine lv_iload_n hx hb dL_enact_6 rfl (lv_at hl 3 rfl) ?_
  have hrc := r_recv hE hW 0 0 rfl (C := RX6) (ci := 9) rfl rfl
  refine vx_calli (vx_runV (As := [.int p1, .int p2, .int p3]) (rest := [.int 0, .ref (ad 31 0)]) ⟨hx, hb, hml, hown, hts⟩ (mtX6_enact l hlt z G ad σ ν ρ lo p1 p2 p3 _ _ h) (cwV 3 hts gL_enact_X6_enact rfl rfl rfl (by decide +kernel) ⟨Nat.le_of_ble_eq_true rfl, Nat.le_of_ble_eq_true rfl⟩) ⟨Pcs.blind, hrc, fun U hU hw => ⟨rfl, Bc.of hE hz hW hS hU hw⟩⟩ rfl rfl hl.1 rfl (lv_room (Nat.le_of_ble_eq_true rfl)) dL_enact_7 ⟨Nat.le_of_ble_eq_true rfl, Nat.le_of_ble_eq_true rfl⟩) hS (fun _ _ h => h) (fun _ h => h) (fun _ _ h => h) (fun E ce q9 u9 t H1 locs1 ht _ hp hB _ _ hS1 hce hv hcl => ?_) (fun r9 u9 t H1 locs1 ht _ hp hB _ _ hS1 => ?_)
  · obtain ⟨E9, S9⟩ := u9
    obtain ⟨rfl, hB⟩ := hB
    obtain ⟨rfl, hxk, hP⟩ := hp
    have hW : WP z G ad (σ, ν, ρ, lo) H1 := by rw [← ht]; exact hB
    obtain ⟨i9, hi9, hi3, rfl⟩ := hxk
    rcases (show i9 = 0 ∨ i9 = 1 ∨ i9 = 2 by omega) with rfl | rfl | rfl
    · obtain rfl : IOB = E := Option.some.inj hi9
      refine vx_catch (name := IOB) hown [] ⟨0, 12, 15, 25⟩ [⟨0, 12, 19, 13⟩, ⟨0, 12, 23, 15⟩] htb (fun z9 hz9 => absurd hz9 List.not_mem_nil) rfl (by decide) (hts _ (List.mem_of_getElem? (i := 1) rfl)) (va_Nw.use rfl (hE.2.2.2.2.2.2.1 (IOB, IOB) (List.mem_of_getElem? (i := 4) rfl))) hce hv hcl ?_
      refine lv_astore (lv' := [(5, .ref q9), (0, .ref (ad 0 0)), (1, .int p1), (2, .int p2), (3, .int p3), (4, .ref (ad 31 0))]) hx hb dL_enact_15 hl (by decide) rfl (fun ls hl => ?_)
      refine lv_iconst (v := (1 : Int32)) hx hb dL_enact_17 (by decide) ?_
      exact W.iret (v := (1 : Int32)) hx hb hr (fun t ht _ => ⟨⟨_, ((σ, ν, ρ, lo), ad), rfl, ⟨by decide, σ, ν, lo, rfl, Xt.rf, fun q => absurd q (by decide), hP⟩, WP.at9 ht hW⟩, hS1.F ht⟩) hS1.2.2 dL_enact_18 (hlocks := hlocks)
    · obtain rfl : IAE = E := Option.some.inj hi9
      refine vx_catch (name := IAE) hown [⟨0, 12, 15, 25⟩] ⟨0, 12, 19, 13⟩ [⟨0, 12, 23, 15⟩] htb (fun z9 hz9 => by rw [List.mem_singleton] at hz9; subst hz9; exact Or.inr ⟨by decide, IOB, hts _ (List.mem_of_getElem? (i := 1) rfl), hE.2.2.2.2.2.2.2.1 (IAE, IOB) (List.mem_of_getElem? (i := 1) rfl)⟩) rfl (by decide) (hts _ (List.mem_of_getElem? (i := 2) rfl)) (va_Nw.use rfl (hE.2.2.2.2.2.2.1 (IAE, IAE) (List.mem_of_getElem? (i := 2) rfl))) hce hv hcl ?_
      refine lv_astore (lv' := [(5, .ref q9), (0, .ref (ad 0 0)), (1, .int p1), (2, .int p2), (3, .int p3), (4, .ref (ad 31 0))]) hx hb dL_enact_19 hl (by decide) rfl (fun ls hl => ?_)
      refine lv_iconst (v := (2 : Int32)) hx hb dL_enact_21 (by decide) ?_
      exact W.iret (v := (2 : Int32)) hx hb hr (fun t ht _ => ⟨⟨_, ((σ, ν, ρ, lo), ad), rfl, ⟨by decide, σ, ν, lo, rfl, Xt.rf, fun q => absurd q (by decide), hP⟩, WP.at9 ht hW⟩, hS1.F ht⟩) hS1.2.2 dL_enact_22 (hlocks := hlocks)
    · obtain rfl : ISE = E := Option.some.inj hi9
      refine vx_catch (name := ISE) hown [⟨0, 12, 15, 25⟩, ⟨0, 12, 19, 13⟩] ⟨0, 12, 23, 15⟩ [] htb (fun z9 hz9 => (List.mem_cons.mp hz9).elim (fun e9 => by subst e9; exact Or.inr ⟨by decide, IOB, hts _ (List.mem_of_getElem? (i := 1) rfl), hE.2.2.2.2.2.2.2.1 (ISE, IOB) (List.mem_of_getElem? (i := 3) rfl)⟩) (fun h9 => by rw [List.mem_singleton] at h9; subst h9; exact Or.inr ⟨by decide, IAE, hts _ (List.mem_of_getElem? (i := 2) rfl), hE.2.2.2.2.2.2.2.1 (ISE, IAE) (List.mem_of_getElem? (i := 2) rfl)⟩)) rfl (by decide) (hts _ (List.mem_of_getElem? (i := 3) rfl)) (va_Nw.use rfl (hE.2.2.2.2.2.2.1 (ISE, ISE) (List.mem_of_getElem? (i := 3) rfl))) hce hv hcl ?_
      refine lv_astore (lv' := [(5, .ref q9), (0, .ref (ad 0 0)), (1, .int p1), (2, .int p2), (3, .int p3), (4, .ref (ad 31 0))]) hx hb dL_enact_23 hl (by decide) rfl (fun ls hl => ?_)
      refine lv_iconst (v := (3 : Int32)) hx hb dL_enact_25 (by decide) ?_
      exact W.iret (v := (3 : Int32)) hx hb hr (fun t ht _ => ⟨⟨_, ((σ, ν, ρ, lo), ad), rfl, ⟨by decide, σ, ν, lo, rfl, Xt.rf, fun q => absurd q (by decide), hP⟩, WP.at9 ht hW⟩, hS1.F ht⟩) hS1.2.2 dL_enact_26 (hlocks := hlocks)
  · obtain ⟨S9, ad9⟩ := u9
    obtain ⟨s9, n9, e9, hXt, hk, rfl, hP⟩ := hp
    cases e9
    have hW : WP z G ad9 (s9, n9, ρ, lo) H1 := by rw [← ht]; exact hB
    have e31 : ad9 31 0 = ad 31 0 := (hXt 31 0 (by decide) rfl).2
    rw [← e31]
    refine lv_i2l (v := r9.toInt64) hx hb dL_enact_10 rfl ?_
    refine r_last hx hb hE hW hS1 dL_enact_11 (fun H locs hW hS => ?_)
    refine lv_goto (tgt := 27) hx hb dL_enact_12 (by decide) ?_
    refine lv_iconst (v := (0 : Int32)) hx hb dL_enact_27 (by decide) ?_
    exact W.iret (v := (0 : Int32)) hx hb hr (fun t ht _ => ⟨⟨_, ((s9, n9, ρ, r9.toInt64), ad9), rfl, ⟨hk.symm, s9, n9, r9.toInt64, rfl, hXt, fun _ => rfl, hP⟩, WP.at9 ht hW⟩, hS.F ht⟩) hS.2.2 dL_enact_28 (hlocks := hlocks)

set_option maxHeartbeats 2000000 in
set_option maxRecDepth 100000 in
theorem mtL_instruct (l : Launch) (hlt : l.stackTraces = false) (z : Nat) (G : Gl) (ad : Nat → Nat → Nat) (σ : SG) (ν : NU) (ρ : RH) (lo : Int64) (p1 : Int32) (p2 : Int32) (p3 : Int32) (p4 : Int32) (k r : Int32) (P : SG → NU → Prop) (h : wpX6_instruct σ ν p1 p2 p3 p4 (fun r9 s9 n9 => k = 0 ∧ r9 = r ∧ P s9 n9) (fun E => xk9 [IOB, IAE, ISE] E k ∧ P σ ν)) : Met l yL_instruct wsL_instruct ({ frames := 10, cells := 54, slots := 2578, locals := 245 } : Room) (Pcs z G ad (σ, ν, ρ, lo) [.ref (ad 0 0), .int p1, .int p2, .int p3, .int p4, .ref (ad 31 0)]) (LQ z G ad ν ρ k r P) 54 2578 (Az z) := by
  refine met_ofWH (cc := cL_instruct) (maxL := 7) (ret := some .int) (hh := [(0, 14, 17, 25), (0, 14, 21, 13), (0, 14, 25, 15)]) (by decide) rfl ?_
  intro p e s m args below meth c s₁ BB hml hv
  obtain ⟨rfl, hz, hW, hE⟩ := hv
  have hx := BB.exec
  have hb := BB.bytes
  have hr := BB.returns
  have hts := atoms_spec (ws := wsL_instruct) BB.pre
  have hown : s.vm.findClass RL = some m.cls := findClass_of_methodNamed BB.named
  have hlocks := BB.notSynchronized
  have htb : c.exceptionTable.toList = [⟨0, 14, 17, 25⟩, ⟨0, 14, 21, 13⟩, ⟨0, 14, 25, 15⟩] := vx_table (x := yL_instruct) BB (hts _ List.mem_cons_self)
  have hS : va_S (Az z) s.heap s.heap [] := va_S.rf
  have hl := lv_entry [.ref (ad 0 0), .int p1, .int p2, .int p3, .int p4, .ref (ad 31 0)] (n := 7) (Nat.le_of_ble_eq_true rfl)
  rw [lg_entry_eq]
  generalize (lg_sl [.ref (ad 0 0), .int p1, .int p2, .int p3, .int p4, .ref (ad 31 0)] ++ List.replicate (7 - (lg_sl [.ref (ad 0 0), .int p1, .int p2, .int p3, .int p4, .ref (ad 31 0)]).length) Slot.unset).toArray = ls at hl ⊢
  have hl : lv_has ls 7 [(0, .ref (ad 0 0)), (1, .int p1), (2, .int p2), (3, .int p3), (4, .int p4), (5, .ref (ad 31 0))] := hl
  refine lv_aload hx hb dL_instruct_0 (lv_at hl 5 rfl) ?_
  refine lv_iconst (v := (0 : Int32)) hx hb dL_instruct_2 (by decide) ?_
  refine lv_aload_n hx hb dL_instruct_3 rfl (lv_at hl 0 rfl) ?_
  refine lv_iload_n hx hb dL_instruct_4 rfl (lv_at hl 1 rfl) ?_
  refine lv_iload_n hx hb dL_instruct_5 rfl (lv_at hl 2 rfl) ?_
  refine lv_iload_n hx hb dL_instruct_6 rfl (lv_at hl 3 rfl) ?_
  refine lv_iload hx hb dL_instruct_7 (lv_at hl 4 rfl) ?_
  have hrc := r_recv hE hW 0 0 rfl (C := RX6) (ci := 9) rfl rfl
  refine vx_calli (vx_runV (As := [.int p1, .int p2, .int p3, .int p4]) (rest := [.int 0, .ref (ad 31 0)]) ⟨hx, hb, hml, hown, hts⟩ (mtX6_instruct l hlt z G ad σ ν ρ lo p1 p2 p3 p4 _ _ h) (cwV 4 hts gL_instruct_X6_instruct rfl rfl rfl (by decide +kernel) ⟨Nat.le_of_ble_eq_true rfl, Nat.le_of_ble_eq_true rfl⟩) ⟨Pcs.blind, hrc, fun U hU hw => ⟨rfl, Bc.of hE hz hW hS hU hw⟩⟩ rfl rfl hl.1 rfl (lv_room (Nat.le_of_ble_eq_true rfl)) dL_instruct_9 ⟨Nat.le_of_ble_eq_true rfl, Nat.le_of_ble_eq_true rfl⟩) hS (fun _ _ h => h) (fun _ h => h) (fun _ _ h => h) (fun E ce q9 u9 t H1 locs1 ht _ hp hB _ _ hS1 hce hv hcl => ?_) (fun r9 u9 t H1 locs1 ht _ hp hB _ _ hS1 => ?_)
  · obtain ⟨E9, S9⟩ := u9
    obtain ⟨rfl, hB⟩ := hB
    obtain ⟨rfl, hxk, hP⟩ := hp
    have hW : WP z G ad (σ, ν, ρ, lo) H1 := by rw [← ht]; exact hB
    obtain ⟨i9, hi9, hi3, rfl⟩ := hxk
    rcases (show i9 = 0 ∨ i9 = 1 ∨ i9 = 2 by omega) with rfl | rfl | rfl
    · obtain rfl : IOB = E := Option.some.inj hi9
      refine vx_catch (name := IOB) hown [] ⟨0, 14, 17, 25⟩ [⟨0, 14, 21, 13⟩, ⟨0, 14, 25, 15⟩] htb (fun z9 hz9 => absurd hz9 List.not_mem_nil) rfl (by decide) (hts _ (List.mem_of_getElem? (i := 1) rfl)) (va_Nw.use rfl (hE.2.2.2.2.2.2.1 (IOB, IOB) (List.mem_of_getElem? (i := 4) rfl))) hce hv hcl ?_
      refine lv_astore (lv' := [(6, .ref q9), (0, .ref (ad 0 0)), (1, .int p1), (2, .int p2), (3, .int p3), (4, .int p4), (5, .ref (ad 31 0))]) hx hb dL_instruct_17 hl (by decide) rfl (fun ls hl => ?_)
      refine lv_iconst (v := (1 : Int32)) hx hb dL_instruct_19 (by decide) ?_
      exact W.iret (v := (1 : Int32)) hx hb hr (fun t ht _ => ⟨⟨_, ((σ, ν, ρ, lo), ad), rfl, ⟨by decide, σ, ν, lo, rfl, Xt.rf, fun q => absurd q (by decide), hP⟩, WP.at9 ht hW⟩, hS1.F ht⟩) hS1.2.2 dL_instruct_20 (hlocks := hlocks)
    · obtain rfl : IAE = E := Option.some.inj hi9
      refine vx_catch (name := IAE) hown [⟨0, 14, 17, 25⟩] ⟨0, 14, 21, 13⟩ [⟨0, 14, 25, 15⟩] htb (fun z9 hz9 => by rw [List.mem_singleton] at hz9; subst hz9; exact Or.inr ⟨by decide, IOB, hts _ (List.mem_of_getElem? (i := 1) rfl), hE.2.2.2.2.2.2.2.1 (IAE, IOB) (List.mem_of_getElem? (i := 1) rfl)⟩) rfl (by decide) (hts _ (List.mem_of_getElem? (i := 2) rfl)) (va_Nw.use rfl (hE.2.2.2.2.2.2.1 (IAE, IAE) (List.mem_of_getElem? (i := 2) rfl))) hce hv hcl ?_
      refine lv_astore (lv' := [(6, .ref q9), (0, .ref (ad 0 0)), (1, .int p1), (2, .int p2), (3, .int p3), (4, .int p4), (5, .ref (ad 31 0))]) hx hb dL_instruct_21 hl (by decide) rfl (fun ls hl => ?_)
      refine lv_iconst (v := (2 : Int32)) hx hb dL_instruct_23 (by decide) ?_
      exact W.iret (v := (2 : Int32)) hx hb hr (fun t ht _ => ⟨⟨_, ((σ, ν, ρ, lo), ad), rfl, ⟨by decide, σ, ν, lo, rfl, Xt.rf, fun q => absurd q (by decide), hP⟩, WP.at9 ht hW⟩, hS1.F ht⟩) hS1.2.2 dL_instruct_24 (hlocks := hlocks)
    · obtain rfl : ISE = E := Option.some.inj hi9
      refine vx_catch (name := ISE) hown [⟨0, 14, 17, 25⟩, ⟨0, 14, 21, 13⟩] ⟨0, 14, 25, 15⟩ [] htb (fun z9 hz9 => (List.mem_cons.mp hz9).elim (fun e9 => by subst e9; exact Or.inr ⟨by decide, IOB, hts _ (List.mem_of_getElem? (i := 1) rfl), hE.2.2.2.2.2.2.2.1 (ISE, IOB) (List.mem_of_getElem? (i := 3) rfl)⟩) (fun h9 => by rw [List.mem_singleton] at h9; subst h9; exact Or.inr ⟨by decide, IAE, hts _ (List.mem_of_getElem? (i := 2) rfl), hE.2.2.2.2.2.2.2.1 (ISE, IAE) (List.mem_of_getElem? (i := 2) rfl)⟩)) rfl (by decide) (hts _ (List.mem_of_getElem? (i := 3) rfl)) (va_Nw.use rfl (hE.2.2.2.2.2.2.1 (ISE, ISE) (List.mem_of_getElem? (i := 3) rfl))) hce hv hcl ?_
      refine lv_astore (lv' := [(6, .ref q9), (0, .ref (ad 0 0)), (1, .int p1), (2, .int p2), (3, .int p3), (4, .int p4), (5, .ref (ad 31 0))]) hx hb dL_instruct_25 hl (by decide) rfl (fun ls hl => ?_)
      refine lv_iconst (v := (3 : Int32)) hx hb dL_instruct_27 (by decide) ?_
      exact W.iret (v := (3 : Int32)) hx hb hr (fun t ht _ => ⟨⟨_, ((σ, ν, ρ, lo), ad), rfl, ⟨by decide, σ, ν, lo, rfl, Xt.rf, fun q => absurd q (by decide), hP⟩, WP.at9 ht hW⟩, hS1.F ht⟩) hS1.2.2 dL_instruct_28 (hlocks := hlocks)
  · obtain ⟨S9, ad9⟩ := u9
    obtain ⟨s9, n9, e9, hXt, hk, rfl, hP⟩ := hp
    cases e9
    have hW : WP z G ad9 (s9, n9, ρ, lo) H1 := by rw [← ht]; exact hB
    have e31 : ad9 31 0 = ad 31 0 := (hXt 31 0 (by decide) rfl).2
    rw [← e31]
    refine lv_i2l (v := r9.toInt64) hx hb dL_instruct_12 rfl ?_
    refine r_last hx hb hE hW hS1 dL_instruct_13 (fun H locs hW hS => ?_)
    refine lv_goto (tgt := 29) hx hb dL_instruct_14 (by decide) ?_
    refine lv_iconst (v := (0 : Int32)) hx hb dL_instruct_29 (by decide) ?_
    exact W.iret (v := (0 : Int32)) hx hb hr (fun t ht _ => ⟨⟨_, ((s9, n9, ρ, r9.toInt64), ad9), rfl, ⟨hk.symm, s9, n9, r9.toInt64, rfl, hXt, fun _ => rfl, hP⟩, WP.at9 ht hW⟩, hS.F ht⟩) hS.2.2 dL_instruct_30 (hlocks := hlocks)

set_option maxHeartbeats 2000000 in
set_option maxRecDepth 100000 in
theorem mtL_order (l : Launch) (hlt : l.stackTraces = false) (z : Nat) (G : Gl) (ad : Nat → Nat → Nat) (σ : SG) (ν : NU) (ρ : RH) (lo : Int64) (p1 : Int32) (p2 : Int32) (k : Int32) (P : SG → NU → Prop) (h : wpX6_order σ ν p1 p2 (fun s9 n9 => k = 0 ∧ P s9 n9) (fun E => xk9 [IOB, IAE, ISE] E k ∧ P σ ν)) : Met l yL_order wsL_order ({ frames := 10, cells := 43, slots := 2472, locals := 244 } : Room) (Pcs z G ad (σ, ν, ρ, lo) [.ref (ad 0 0), .int p1, .int p2]) (LV z G ad ν ρ k P) 43 2472 (Az z) := by
  refine met_ofWH (cc := cL_order) (maxL := 4) (ret := some .int) (hh := [(0, 6, 9, 25), (0, 6, 12, 13), (0, 6, 15, 15)]) (by decide) rfl ?_
  intro p e s m args below meth c s₁ BB hml hv
  obtain ⟨rfl, hz, hW, hE⟩ := hv
  have hx := BB.exec
  have hb := BB.bytes
  have hr := BB.returns
  have hts := atoms_spec (ws := wsL_order) BB.pre
  have hown : s.vm.findClass RL = some m.cls := findClass_of_methodNamed BB.named
  have hlocks := BB.notSynchronized
  have htb : c.exceptionTable.toList = [⟨0, 6, 9, 25⟩, ⟨0, 6, 12, 13⟩, ⟨0, 6, 15, 15⟩] := vx_table (x := yL_order) BB (hts _ List.mem_cons_self)
  have hS : va_S (Az z) s.heap s.heap [] := va_S.rf
  have hl := lv_entry [.ref (ad 0 0), .int p1, .int p2] (n := 4) (Nat.le_of_ble_eq_true rfl)
  rw [lg_entry_eq]
  generalize (lg_sl [.ref (ad 0 0), .int p1, .int p2] ++ List.replicate (4 - (lg_sl [.ref (ad 0 0), .int p1, .int p2]).length) Slot.unset).toArray = ls at hl ⊢
  have hl : lv_has ls 4 [(0, .ref (ad 0 0)), (1, .int p1), (2, .int p2)] := hl
  refine lv_aload_n hx hb dL_order_0 rfl (lv_at hl 0 rfl) ?_
  refine lv_iload_n hx hb dL_order_1 rfl (lv_at hl 1 rfl) ?_
  refine lv_iload_n hx hb dL_order_2 rfl (lv_at hl 2 rfl) ?_
  have hrc := r_recv hE hW 0 0 rfl (C := RX6) (ci := 9) rfl rfl
  refine vx_callv (vx_runV (As := [.int p1, .int p2]) (rest := []) ⟨hx, hb, hml, hown, hts⟩ (mtX6_order l hlt z G ad σ ν ρ lo p1 p2 _ _ h) (cwV 2 hts gL_order_X6_order rfl rfl rfl (by decide +kernel) ⟨Nat.le_of_ble_eq_true rfl, Nat.le_of_ble_eq_true rfl⟩) ⟨Pcs.blind, hrc, fun U hU hw => ⟨rfl, Bc.of hE hz hW hS hU hw⟩⟩ rfl rfl hl.1 rfl (lv_room (Nat.le_of_ble_eq_true rfl)) dL_order_3 ⟨Nat.le_of_ble_eq_true rfl, Nat.le_of_ble_eq_true rfl⟩) hS (fun _ _ h => h) (fun _ h => h) (fun _ _ h => h) (fun E ce q9 u9 t H1 locs1 ht _ hp hB _ _ hS1 hce hv hcl => ?_) (fun u9 t H1 locs1 ht _ hp hB _ _ hS1 => ?_)
  · obtain ⟨E9, S9⟩ := u9
    obtain ⟨rfl, hB⟩ := hB
    obtain ⟨rfl, hxk, hP⟩ := hp
    have hW : WP z G ad (σ, ν, ρ, lo) H1 := by rw [← ht]; exact hB
    obtain ⟨i9, hi9, hi3, rfl⟩ := hxk
    rcases (show i9 = 0 ∨ i9 = 1 ∨ i9 = 2 by omega) with rfl | rfl | rfl
    · obtain rfl : IOB = E := Option.some.inj hi9
      refine vx_catch (name := IOB) hown [] ⟨0, 6, 9, 25⟩ [⟨0, 6, 12, 13⟩, ⟨0, 6, 15, 15⟩] htb (fun z9 hz9 => absurd hz9 List.not_mem_nil) rfl (by decide) (hts _ (List.mem_of_getElem? (i := 1) rfl)) (va_Nw.use rfl (hE.2.2.2.2.2.2.1 (IOB, IOB) (List.mem_of_getElem? (i := 4) rfl))) hce hv hcl ?_
      refine lv_astore_n (lv' := [(3, .ref q9), (0, .ref (ad 0 0)), (1, .int p1), (2, .int p2)]) hx hb dL_order_9 rfl hl (by decide) rfl (fun ls hl => ?_)
      refine lv_iconst (v := (1 : Int32)) hx hb dL_order_10 (by decide) ?_
      exact W.iret (v := (1 : Int32)) hx hb hr (fun t ht _ => ⟨⟨_, ((σ, ν, ρ, lo), ad), rfl, ⟨by decide, σ, ν, lo, rfl, Xt.rf, hP⟩, WP.at9 ht hW⟩, hS1.F ht⟩) hS1.2.2 dL_order_11 (hlocks := hlocks)
    · obtain rfl : IAE = E := Option.some.inj hi9
      refine vx_catch (name := IAE) hown [⟨0, 6, 9, 25⟩] ⟨0, 6, 12, 13⟩ [⟨0, 6, 15, 15⟩] htb (fun z9 hz9 => by rw [List.mem_singleton] at hz9; subst hz9; exact Or.inr ⟨by decide, IOB, hts _ (List.mem_of_getElem? (i := 1) rfl), hE.2.2.2.2.2.2.2.1 (IAE, IOB) (List.mem_of_getElem? (i := 1) rfl)⟩) rfl (by decide) (hts _ (List.mem_of_getElem? (i := 2) rfl)) (va_Nw.use rfl (hE.2.2.2.2.2.2.1 (IAE, IAE) (List.mem_of_getElem? (i := 2) rfl))) hce hv hcl ?_
      refine lv_astore_n (lv' := [(3, .ref q9), (0, .ref (ad 0 0)), (1, .int p1), (2, .int p2)]) hx hb dL_order_12 rfl hl (by decide) rfl (fun ls hl => ?_)
      refine lv_iconst (v := (2 : Int32)) hx hb dL_order_13 (by decide) ?_
      exact W.iret (v := (2 : Int32)) hx hb hr (fun t ht _ => ⟨⟨_, ((σ, ν, ρ, lo), ad), rfl, ⟨by decide, σ, ν, lo, rfl, Xt.rf, hP⟩, WP.at9 ht hW⟩, hS1.F ht⟩) hS1.2.2 dL_order_14 (hlocks := hlocks)
    · obtain rfl : ISE = E := Option.some.inj hi9
      refine vx_catch (name := ISE) hown [⟨0, 6, 9, 25⟩, ⟨0, 6, 12, 13⟩] ⟨0, 6, 15, 15⟩ [] htb (fun z9 hz9 => (List.mem_cons.mp hz9).elim (fun e9 => by subst e9; exact Or.inr ⟨by decide, IOB, hts _ (List.mem_of_getElem? (i := 1) rfl), hE.2.2.2.2.2.2.2.1 (ISE, IOB) (List.mem_of_getElem? (i := 3) rfl)⟩) (fun h9 => by rw [List.mem_singleton] at h9; subst h9; exact Or.inr ⟨by decide, IAE, hts _ (List.mem_of_getElem? (i := 2) rfl), hE.2.2.2.2.2.2.2.1 (ISE, IAE) (List.mem_of_getElem? (i := 2) rfl)⟩)) rfl (by decide) (hts _ (List.mem_of_getElem? (i := 3) rfl)) (va_Nw.use rfl (hE.2.2.2.2.2.2.1 (ISE, ISE) (List.mem_of_getElem? (i := 3) rfl))) hce hv hcl ?_
      refine lv_astore_n (lv' := [(3, .ref q9), (0, .ref (ad 0 0)), (1, .int p1), (2, .int p2)]) hx hb dL_order_15 rfl hl (by decide) rfl (fun ls hl => ?_)
      refine lv_iconst (v := (3 : Int32)) hx hb dL_order_16 (by decide) ?_
      exact W.iret (v := (3 : Int32)) hx hb hr (fun t ht _ => ⟨⟨_, ((σ, ν, ρ, lo), ad), rfl, ⟨by decide, σ, ν, lo, rfl, Xt.rf, hP⟩, WP.at9 ht hW⟩, hS1.F ht⟩) hS1.2.2 dL_order_17 (hlocks := hlocks)
  · obtain ⟨S9, ad9⟩ := u9
    obtain ⟨s9, n9, e9, hXt, hk, hP⟩ := hp
    cases e9
    have hW : WP z G ad9 (s9, n9, ρ, lo) H1 := by rw [← ht]; exact hB
    refine lv_goto (tgt := 18) hx hb dL_order_6 (by decide) ?_
    refine lv_iconst (v := (0 : Int32)) hx hb dL_order_18 (by decide) ?_
    exact W.iret (v := (0 : Int32)) hx hb hr (fun t ht _ => ⟨⟨_, ((s9, n9, ρ, lo), ad9), rfl, ⟨hk.symm, s9, n9, lo, rfl, hXt, hP⟩, WP.at9 ht hW⟩, hS1.F ht⟩) hS1.2.2 dL_order_19 (hlocks := hlocks)

set_option maxHeartbeats 2000000 in
set_option maxRecDepth 100000 in
theorem mtL_strike (l : Launch) (hlt : l.stackTraces = false) (z : Nat) (G : Gl) (ad : Nat → Nat → Nat) (σ : SG) (ν : NU) (ρ : RH) (lo : Int64) (p1 : Int32) (p2 : Int32) (k : Int32) (P : SG → NU → Prop) (h : wpX6_strike σ ν p1 p2 (fun s9 n9 => k = 0 ∧ P s9 n9) (fun E => xk9 [IOB, IAE, ISE] E k ∧ P σ ν)) : Met l yL_strike wsL_strike ({ frames := 10, cells := 43, slots := 2472, locals := 244 } : Room) (Pcs z G ad (σ, ν, ρ, lo) [.ref (ad 0 0), .int p1, .int p2]) (LV z G ad ν ρ k P) 43 2472 (Az z) := by
  refine met_ofWH (cc := cL_strike) (maxL := 4) (ret := some .int) (hh := [(0, 6, 9, 25), (0, 6, 12, 13), (0, 6, 15, 15)]) (by decide) rfl ?_
  intro p e s m args below meth c s₁ BB hml hv
  obtain ⟨rfl, hz, hW, hE⟩ := hv
  have hx := BB.exec
  have hb := BB.bytes
  have hr := BB.returns
  have hts := atoms_spec (ws := wsL_strike) BB.pre
  have hown : s.vm.findClass RL = some m.cls := findClass_of_methodNamed BB.named
  have hlocks := BB.notSynchronized
  have htb : c.exceptionTable.toList = [⟨0, 6, 9, 25⟩, ⟨0, 6, 12, 13⟩, ⟨0, 6, 15, 15⟩] := vx_table (x := yL_strike) BB (hts _ List.mem_cons_self)
  have hS : va_S (Az z) s.heap s.heap [] := va_S.rf
  have hl := lv_entry [.ref (ad 0 0), .int p1, .int p2] (n := 4) (Nat.le_of_ble_eq_true rfl)
  rw [lg_entry_eq]
  generalize (lg_sl [.ref (ad 0 0), .int p1, .int p2] ++ List.replicate (4 - (lg_sl [.ref (ad 0 0), .int p1, .int p2]).length) Slot.unset).toArray = ls at hl ⊢
  have hl : lv_has ls 4 [(0, .ref (ad 0 0)), (1, .int p1), (2, .int p2)] := hl
  refine lv_aload_n hx hb dL_strike_0 rfl (lv_at hl 0 rfl) ?_
  refine lv_iload_n hx hb dL_strike_1 rfl (lv_at hl 1 rfl) ?_
  refine lv_iload_n hx hb dL_strike_2 rfl (lv_at hl 2 rfl) ?_
  have hrc := r_recv hE hW 0 0 rfl (C := RX6) (ci := 9) rfl rfl
  refine vx_callv (vx_runV (As := [.int p1, .int p2]) (rest := []) ⟨hx, hb, hml, hown, hts⟩ (mtX6_strike l hlt z G ad σ ν ρ lo p1 p2 _ _ h) (cwV 2 hts gL_strike_X6_strike rfl rfl rfl (by decide +kernel) ⟨Nat.le_of_ble_eq_true rfl, Nat.le_of_ble_eq_true rfl⟩) ⟨Pcs.blind, hrc, fun U hU hw => ⟨rfl, Bc.of hE hz hW hS hU hw⟩⟩ rfl rfl hl.1 rfl (lv_room (Nat.le_of_ble_eq_true rfl)) dL_strike_3 ⟨Nat.le_of_ble_eq_true rfl, Nat.le_of_ble_eq_true rfl⟩) hS (fun _ _ h => h) (fun _ h => h) (fun _ _ h => h) (fun E ce q9 u9 t H1 locs1 ht _ hp hB _ _ hS1 hce hv hcl => ?_) (fun u9 t H1 locs1 ht _ hp hB _ _ hS1 => ?_)
  · obtain ⟨E9, S9⟩ := u9
    obtain ⟨rfl, hB⟩ := hB
    obtain ⟨rfl, hxk, hP⟩ := hp
    have hW : WP z G ad (σ, ν, ρ, lo) H1 := by rw [← ht]; exact hB
    obtain ⟨i9, hi9, hi3, rfl⟩ := hxk
    rcases (show i9 = 0 ∨ i9 = 1 ∨ i9 = 2 by omega) with rfl | rfl | rfl
    · obtain rfl : IOB = E := Option.some.inj hi9
      refine vx_catch (name := IOB) hown [] ⟨0, 6, 9, 25⟩ [⟨0, 6, 12, 13⟩, ⟨0, 6, 15, 15⟩] htb (fun z9 hz9 => absurd hz9 List.not_mem_nil) rfl (by decide) (hts _ (List.mem_of_getElem? (i := 1) rfl)) (va_Nw.use rfl (hE.2.2.2.2.2.2.1 (IOB, IOB) (List.mem_of_getElem? (i := 4) rfl))) hce hv hcl ?_
      refine lv_astore_n (lv' := [(3, .ref q9), (0, .ref (ad 0 0)), (1, .int p1), (2, .int p2)]) hx hb dL_strike_9 rfl hl (by decide) rfl (fun ls hl => ?_)
      refine lv_iconst (v := (1 : Int32)) hx hb dL_strike_10 (by decide) ?_
      exact W.iret (v := (1 : Int32)) hx hb hr (fun t ht _ => ⟨⟨_, ((σ, ν, ρ, lo), ad), rfl, ⟨by decide, σ, ν, lo, rfl, Xt.rf, hP⟩, WP.at9 ht hW⟩, hS1.F ht⟩) hS1.2.2 dL_strike_11 (hlocks := hlocks)
    · obtain rfl : IAE = E := Option.some.inj hi9
      refine vx_catch (name := IAE) hown [⟨0, 6, 9, 25⟩] ⟨0, 6, 12, 13⟩ [⟨0, 6, 15, 15⟩] htb (fun z9 hz9 => by rw [List.mem_singleton] at hz9; subst hz9; exact Or.inr ⟨by decide, IOB, hts _ (List.mem_of_getElem? (i := 1) rfl), hE.2.2.2.2.2.2.2.1 (IAE, IOB) (List.mem_of_getElem? (i := 1) rfl)⟩) rfl (by decide) (hts _ (List.mem_of_getElem? (i := 2) rfl)) (va_Nw.use rfl (hE.2.2.2.2.2.2.1 (IAE, IAE) (List.mem_of_getElem? (i := 2) rfl))) hce hv hcl ?_
      refine lv_astore_n (lv' := [(3, .ref q9), (0, .ref (ad 0 0)), (1, .int p1), (2, .int p2)]) hx hb dL_strike_12 rfl hl (by decide) rfl (fun ls hl => ?_)
      refine lv_iconst (v := (2 : Int32)) hx hb dL_strike_13 (by decide) ?_
      exact W.iret (v := (2 : Int32)) hx hb hr (fun t ht _ => ⟨⟨_, ((σ, ν, ρ, lo), ad), rfl, ⟨by decide, σ, ν, lo, rfl, Xt.rf, hP⟩, WP.at9 ht hW⟩, hS1.F ht⟩) hS1.2.2 dL_strike_14 (hlocks := hlocks)
    · obtain rfl : ISE = E := Option.some.inj hi9
      refine vx_catch (name := ISE) hown [⟨0, 6, 9, 25⟩, ⟨0, 6, 12, 13⟩] ⟨0, 6, 15, 15⟩ [] htb (fun z9 hz9 => (List.mem_cons.mp hz9).elim (fun e9 => by subst e9; exact Or.inr ⟨by decide, IOB, hts _ (List.mem_of_getElem? (i := 1) rfl), hE.2.2.2.2.2.2.2.1 (ISE, IOB) (List.mem_of_getElem? (i := 3) rfl)⟩) (fun h9 => by rw [List.mem_singleton] at h9; subst h9; exact Or.inr ⟨by decide, IAE, hts _ (List.mem_of_getElem? (i := 2) rfl), hE.2.2.2.2.2.2.2.1 (ISE, IAE) (List.mem_of_getElem? (i := 2) rfl)⟩)) rfl (by decide) (hts _ (List.mem_of_getElem? (i := 3) rfl)) (va_Nw.use rfl (hE.2.2.2.2.2.2.1 (ISE, ISE) (List.mem_of_getElem? (i := 3) rfl))) hce hv hcl ?_
      refine lv_astore_n (lv' := [(3, .ref q9), (0, .ref (ad 0 0)), (1, .int p1), (2, .int p2)]) hx hb dL_strike_15 rfl hl (by decide) rfl (fun ls hl => ?_)
      refine lv_iconst (v := (3 : Int32)) hx hb dL_strike_16 (by decide) ?_
      exact W.iret (v := (3 : Int32)) hx hb hr (fun t ht _ => ⟨⟨_, ((σ, ν, ρ, lo), ad), rfl, ⟨by decide, σ, ν, lo, rfl, Xt.rf, hP⟩, WP.at9 ht hW⟩, hS1.F ht⟩) hS1.2.2 dL_strike_17 (hlocks := hlocks)
  · obtain ⟨S9, ad9⟩ := u9
    obtain ⟨s9, n9, e9, hXt, hk, hP⟩ := hp
    cases e9
    have hW : WP z G ad9 (s9, n9, ρ, lo) H1 := by rw [← ht]; exact hB
    refine lv_goto (tgt := 18) hx hb dL_strike_6 (by decide) ?_
    refine lv_iconst (v := (0 : Int32)) hx hb dL_strike_18 (by decide) ?_
    exact W.iret (v := (0 : Int32)) hx hb hr (fun t ht _ => ⟨⟨_, ((s9, n9, ρ, lo), ad9), rfl, ⟨hk.symm, s9, n9, lo, rfl, hXt, hP⟩, WP.at9 ht hW⟩, hS1.F ht⟩) hS1.2.2 dL_strike_19 (hlocks := hlocks)

set_option maxHeartbeats 2000000 in
set_option maxRecDepth 100000 in
theorem mtL_suspend (l : Launch) (hlt : l.stackTraces = false) (z : Nat) (G : Gl) (ad : Nat → Nat → Nat) (σ : SG) (ν : NU) (ρ : RH) (lo : Int64) (p1 : Int32) (p2 : Int32) (p3 : Int32) (k : Int32) (P : SG → NU → Prop) (h : wpX6_suspend σ ν p1 p2 p3 (fun s9 n9 => k = 0 ∧ P s9 n9) (fun E => xk9 [IOB, IAE, ISE] E k ∧ P σ ν)) : Met l yL_suspend wsL_suspend ({ frames := 10, cells := 44, slots := 2478, locals := 245 } : Room) (Pcs z G ad (σ, ν, ρ, lo) [.ref (ad 0 0), .int p1, .int p2, .int p3]) (LV z G ad ν ρ k P) 44 2478 (Az z) := by
  refine met_ofWH (cc := cL_suspend) (maxL := 5) (ret := some .int) (hh := [(0, 7, 10, 25), (0, 7, 14, 13), (0, 7, 18, 15)]) (by decide) rfl ?_
  intro p e s m args below meth c s₁ BB hml hv
  obtain ⟨rfl, hz, hW, hE⟩ := hv
  have hx := BB.exec
  have hb := BB.bytes
  have hr := BB.returns
  have hts := atoms_spec (ws := wsL_suspend) BB.pre
  have hown : s.vm.findClass RL = some m.cls := findClass_of_methodNamed BB.named
  have hlocks := BB.notSynchronized
  have htb : c.exceptionTable.toList = [⟨0, 7, 10, 25⟩, ⟨0, 7, 14, 13⟩, ⟨0, 7, 18, 15⟩] := vx_table (x := yL_suspend) BB (hts _ List.mem_cons_self)
  have hS : va_S (Az z) s.heap s.heap [] := va_S.rf
  have hl := lv_entry [.ref (ad 0 0), .int p1, .int p2, .int p3] (n := 5) (Nat.le_of_ble_eq_true rfl)
  rw [lg_entry_eq]
  generalize (lg_sl [.ref (ad 0 0), .int p1, .int p2, .int p3] ++ List.replicate (5 - (lg_sl [.ref (ad 0 0), .int p1, .int p2, .int p3]).length) Slot.unset).toArray = ls at hl ⊢
  have hl : lv_has ls 5 [(0, .ref (ad 0 0)), (1, .int p1), (2, .int p2), (3, .int p3)] := hl
  refine lv_aload_n hx hb dL_suspend_0 rfl (lv_at hl 0 rfl) ?_
  refine lv_iload_n hx hb dL_suspend_1 rfl (lv_at hl 1 rfl) ?_
  refine lv_iload_n hx hb dL_suspend_2 rfl (lv_at hl 2 rfl) ?_
  refine lv_iload_n hx hb dL_suspend_3 rfl (lv_at hl 3 rfl) ?_
  have hrc := r_recv hE hW 0 0 rfl (C := RX6) (ci := 9) rfl rfl
  refine vx_callv (vx_runV (As := [.int p1, .int p2, .int p3]) (rest := []) ⟨hx, hb, hml, hown, hts⟩ (mtX6_suspend l hlt z G ad σ ν ρ lo p1 p2 p3 _ _ h) (cwV 3 hts gL_suspend_X6_suspend rfl rfl rfl (by decide +kernel) ⟨Nat.le_of_ble_eq_true rfl, Nat.le_of_ble_eq_true rfl⟩) ⟨Pcs.blind, hrc, fun U hU hw => ⟨rfl, Bc.of hE hz hW hS hU hw⟩⟩ rfl rfl hl.1 rfl (lv_room (Nat.le_of_ble_eq_true rfl)) dL_suspend_4 ⟨Nat.le_of_ble_eq_true rfl, Nat.le_of_ble_eq_true rfl⟩) hS (fun _ _ h => h) (fun _ h => h) (fun _ _ h => h) (fun E ce q9 u9 t H1 locs1 ht _ hp hB _ _ hS1 hce hv hcl => ?_) (fun u9 t H1 locs1 ht _ hp hB _ _ hS1 => ?_)
  · obtain ⟨E9, S9⟩ := u9
    obtain ⟨rfl, hB⟩ := hB
    obtain ⟨rfl, hxk, hP⟩ := hp
    have hW : WP z G ad (σ, ν, ρ, lo) H1 := by rw [← ht]; exact hB
    obtain ⟨i9, hi9, hi3, rfl⟩ := hxk
    rcases (show i9 = 0 ∨ i9 = 1 ∨ i9 = 2 by omega) with rfl | rfl | rfl
    · obtain rfl : IOB = E := Option.some.inj hi9
      refine vx_catch (name := IOB) hown [] ⟨0, 7, 10, 25⟩ [⟨0, 7, 14, 13⟩, ⟨0, 7, 18, 15⟩] htb (fun z9 hz9 => absurd hz9 List.not_mem_nil) rfl (by decide) (hts _ (List.mem_of_getElem? (i := 1) rfl)) (va_Nw.use rfl (hE.2.2.2.2.2.2.1 (IOB, IOB) (List.mem_of_getElem? (i := 4) rfl))) hce hv hcl ?_
      refine lv_astore (lv' := [(4, .ref q9), (0, .ref (ad 0 0)), (1, .int p1), (2, .int p2), (3, .int p3)]) hx hb dL_suspend_10 hl (by decide) rfl (fun ls hl => ?_)
      refine lv_iconst (v := (1 : Int32)) hx hb dL_suspend_12 (by decide) ?_
      exact W.iret (v := (1 : Int32)) hx hb hr (fun t ht _ => ⟨⟨_, ((σ, ν, ρ, lo), ad), rfl, ⟨by decide, σ, ν, lo, rfl, Xt.rf, hP⟩, WP.at9 ht hW⟩, hS1.F ht⟩) hS1.2.2 dL_suspend_13 (hlocks := hlocks)
    · obtain rfl : IAE = E := Option.some.inj hi9
      refine vx_catch (name := IAE) hown [⟨0, 7, 10, 25⟩] ⟨0, 7, 14, 13⟩ [⟨0, 7, 18, 15⟩] htb (fun z9 hz9 => by rw [List.mem_singleton] at hz9; subst hz9; exact Or.inr ⟨by decide, IOB, hts _ (List.mem_of_getElem? (i := 1) rfl), hE.2.2.2.2.2.2.2.1 (IAE, IOB) (List.mem_of_getElem? (i := 1) rfl)⟩) rfl (by decide) (hts _ (List.mem_of_getElem? (i := 2) rfl)) (va_Nw.use rfl (hE.2.2.2.2.2.2.1 (IAE, IAE) (List.mem_of_getElem? (i := 2) rfl))) hce hv hcl ?_
      refine lv_astore (lv' := [(4, .ref q9), (0, .ref (ad 0 0)), (1, .int p1), (2, .int p2), (3, .int p3)]) hx hb dL_suspend_14 hl (by decide) rfl (fun ls hl => ?_)
      refine lv_iconst (v := (2 : Int32)) hx hb dL_suspend_16 (by decide) ?_
      exact W.iret (v := (2 : Int32)) hx hb hr (fun t ht _ => ⟨⟨_, ((σ, ν, ρ, lo), ad), rfl, ⟨by decide, σ, ν, lo, rfl, Xt.rf, hP⟩, WP.at9 ht hW⟩, hS1.F ht⟩) hS1.2.2 dL_suspend_17 (hlocks := hlocks)
    · obtain rfl : ISE = E := Option.some.inj hi9
      refine vx_catch (name := ISE) hown [⟨0, 7, 10, 25⟩, ⟨0, 7, 14, 13⟩] ⟨0, 7, 18, 15⟩ [] htb (fun z9 hz9 => (List.mem_cons.mp hz9).elim (fun e9 => by subst e9; exact Or.inr ⟨by decide, IOB, hts _ (List.mem_of_getElem? (i := 1) rfl), hE.2.2.2.2.2.2.2.1 (ISE, IOB) (List.mem_of_getElem? (i := 3) rfl)⟩) (fun h9 => by rw [List.mem_singleton] at h9; subst h9; exact Or.inr ⟨by decide, IAE, hts _ (List.mem_of_getElem? (i := 2) rfl), hE.2.2.2.2.2.2.2.1 (ISE, IAE) (List.mem_of_getElem? (i := 2) rfl)⟩)) rfl (by decide) (hts _ (List.mem_of_getElem? (i := 3) rfl)) (va_Nw.use rfl (hE.2.2.2.2.2.2.1 (ISE, ISE) (List.mem_of_getElem? (i := 3) rfl))) hce hv hcl ?_
      refine lv_astore (lv' := [(4, .ref q9), (0, .ref (ad 0 0)), (1, .int p1), (2, .int p2), (3, .int p3)]) hx hb dL_suspend_18 hl (by decide) rfl (fun ls hl => ?_)
      refine lv_iconst (v := (3 : Int32)) hx hb dL_suspend_20 (by decide) ?_
      exact W.iret (v := (3 : Int32)) hx hb hr (fun t ht _ => ⟨⟨_, ((σ, ν, ρ, lo), ad), rfl, ⟨by decide, σ, ν, lo, rfl, Xt.rf, hP⟩, WP.at9 ht hW⟩, hS1.F ht⟩) hS1.2.2 dL_suspend_21 (hlocks := hlocks)
  · obtain ⟨S9, ad9⟩ := u9
    obtain ⟨s9, n9, e9, hXt, hk, hP⟩ := hp
    cases e9
    have hW : WP z G ad9 (s9, n9, ρ, lo) H1 := by rw [← ht]; exact hB
    refine lv_goto (tgt := 22) hx hb dL_suspend_7 (by decide) ?_
    refine lv_iconst (v := (0 : Int32)) hx hb dL_suspend_22 (by decide) ?_
    exact W.iret (v := (0 : Int32)) hx hb hr (fun t ht _ => ⟨⟨_, ((s9, n9, ρ, lo), ad9), rfl, ⟨hk.symm, s9, n9, lo, rfl, hXt, hP⟩, WP.at9 ht hW⟩, hS1.F ht⟩) hS1.2.2 dL_suspend_23 (hlocks := hlocks)

set_option maxHeartbeats 2000000 in
set_option maxRecDepth 100000 in
theorem mtL_look (l : Launch) (hlt : l.stackTraces = false) (z : Nat) (G : Gl) (ad : Nat → Nat → Nat) (σ : SG) (ν : NU) (ρ : RH) (lo : Int64) (p1 : Int32) (p2 : Int32) (p3 : Int32) (k r : Int32) (P : SG → NU → Prop) (h : wpX6_look σ ν p1 p2 p3 (fun r9 s9 n9 => k = 0 ∧ r9 = r ∧ P s9 n9) (fun E => xk9 [IAE] E k ∧ P σ ν)) : Met l yL_look wsL_look ({ frames := 10, cells := 42, slots := 2466, locals := 244 } : Room) (Pcs z G ad (σ, ν, ρ, lo) [.ref (ad 0 0), .int p1, .int p2, .int p3, .ref (ad 31 0)]) (LQ z G ad ν ρ k r P) 42 2466 (Az z) := by
  refine met_ofWH (cc := cL_look) (maxL := 6) (ret := some .int) (hh := [(0, 12, 15, 13)]) (by decide) rfl ?_
  intro p e s m args below meth c s₁ BB hml hv
  obtain ⟨rfl, hz, hW, hE⟩ := hv
  have hx := BB.exec
  have hb := BB.bytes
  have hr := BB.returns
  have hts := atoms_spec (ws := wsL_look) BB.pre
  have hown : s.vm.findClass RL = some m.cls := findClass_of_methodNamed BB.named
  have hlocks := BB.notSynchronized
  have htb : c.exceptionTable.toList = [⟨0, 12, 15, 13⟩] := vx_table (x := yL_look) BB (hts _ List.mem_cons_self)
  have hS : va_S (Az z) s.heap s.heap [] := va_S.rf
  have hl := lv_entry [.ref (ad 0 0), .int p1, .int p2, .int p3, .ref (ad 31 0)] (n := 6) (Nat.le_of_ble_eq_true rfl)
  rw [lg_entry_eq]
  generalize (lg_sl [.ref (ad 0 0), .int p1, .int p2, .int p3, .ref (ad 31 0)] ++ List.replicate (6 - (lg_sl [.ref (ad 0 0), .int p1, .int p2, .int p3, .ref (ad 31 0)]).length) Slot.unset).toArray = ls at hl ⊢
  have hl : lv_has ls 6 [(0, .ref (ad 0 0)), (1, .int p1), (2, .int p2), (3, .int p3), (4, .ref (ad 31 0))] := hl
  refine lv_aload hx hb dL_look_0 (lv_at hl 4 rfl) ?_
  refine lv_iconst (v := (0 : Int32)) hx hb dL_look_2 (by decide) ?_
  refine lv_aload_n hx hb dL_look_3 rfl (lv_at hl 0 rfl) ?_
  refine lv_iload_n hx hb dL_look_4 rfl (lv_at hl 1 rfl) ?_
  refine lv_iload_n hx hb dL_look_5 rfl (lv_at hl 2 rfl) ?_
  refine lv_iload_n hx hb dL_look_6 rfl (lv_at hl 3 rfl) ?_
  have hrc := r_recv hE hW 0 0 rfl (C := RX6) (ci := 9) rfl rfl
  refine vx_calli (vx_runV (As := [.int p1, .int p2, .int p3]) (rest := [.int 0, .ref (ad 31 0)]) ⟨hx, hb, hml, hown, hts⟩ (mtX6_look l hlt z G ad σ ν ρ lo p1 p2 p3 _ _ h) (cwV 3 hts gL_look_X6_look rfl rfl rfl (by decide +kernel) ⟨Nat.le_of_ble_eq_true rfl, Nat.le_of_ble_eq_true rfl⟩) ⟨Pcs.blind, hrc, fun U hU hw => ⟨rfl, Bc.of hE hz hW hS hU hw⟩⟩ rfl rfl hl.1 rfl (lv_room (Nat.le_of_ble_eq_true rfl)) dL_look_7 ⟨Nat.le_of_ble_eq_true rfl, Nat.le_of_ble_eq_true rfl⟩) hS (fun _ _ h => h) (fun _ h => h) (fun _ _ h => h) (fun E ce q9 u9 t H1 locs1 ht _ hp hB _ _ hS1 hce hv hcl => ?_) (fun r9 u9 t H1 locs1 ht _ hp hB _ _ hS1 => ?_)
  · obtain ⟨E9, S9⟩ := u9
    obtain ⟨rfl, hB⟩ := hB
    obtain ⟨rfl, hxk, hP⟩ := hp
    have hW : WP z G ad (σ, ν, ρ, lo) H1 := by rw [← ht]; exact hB
    obtain ⟨i9, hi9, hi3, rfl⟩ := hxk
    rcases (show i9 = 0 ∨ i9 = 1 ∨ i9 = 2 by omega) with rfl | rfl | rfl
    · obtain rfl : IAE = E := Option.some.inj hi9
      refine vx_catch (name := IAE) hown [] ⟨0, 12, 15, 13⟩ [] htb (fun z9 hz9 => absurd hz9 List.not_mem_nil) rfl (by decide) (hts _ (List.mem_of_getElem? (i := 1) rfl)) (va_Nw.use rfl (hE.2.2.2.2.2.2.1 (IAE, IAE) (List.mem_of_getElem? (i := 2) rfl))) hce hv hcl ?_
      refine lv_astore (lv' := [(5, .ref q9), (0, .ref (ad 0 0)), (1, .int p1), (2, .int p2), (3, .int p3), (4, .ref (ad 31 0))]) hx hb dL_look_15 hl (by decide) rfl (fun ls hl => ?_)
      refine lv_iconst (v := (1 : Int32)) hx hb dL_look_17 (by decide) ?_
      exact W.iret (v := (1 : Int32)) hx hb hr (fun t ht _ => ⟨⟨_, ((σ, ν, ρ, lo), ad), rfl, ⟨by decide, σ, ν, lo, rfl, Xt.rf, fun q => absurd q (by decide), hP⟩, WP.at9 ht hW⟩, hS1.F ht⟩) hS1.2.2 dL_look_18 (hlocks := hlocks)
    · cases hi9
    · cases hi9
  · obtain ⟨S9, ad9⟩ := u9
    obtain ⟨s9, n9, e9, hXt, hk, rfl, hP⟩ := hp
    cases e9
    have hW : WP z G ad9 (s9, n9, ρ, lo) H1 := by rw [← ht]; exact hB
    have e31 : ad9 31 0 = ad 31 0 := (hXt 31 0 (by decide) rfl).2
    rw [← e31]
    refine lv_i2l (v := r9.toInt64) hx hb dL_look_10 rfl ?_
    refine r_last hx hb hE hW hS1 dL_look_11 (fun H locs hW hS => ?_)
    refine lv_goto (tgt := 19) hx hb dL_look_12 (by decide) ?_
    refine lv_iconst (v := (0 : Int32)) hx hb dL_look_19 (by decide) ?_
    exact W.iret (v := (0 : Int32)) hx hb hr (fun t ht _ => ⟨⟨_, ((s9, n9, ρ, r9.toInt64), ad9), rfl, ⟨hk.symm, s9, n9, r9.toInt64, rfl, hXt, fun _ => rfl, hP⟩, WP.at9 ht hW⟩, hS.F ht⟩) hS.2.2 dL_look_20 (hlocks := hlocks)

set_option maxHeartbeats 2000000 in
set_option maxRecDepth 100000 in
theorem mtL_provisionAt (l : Launch) (hlt : l.stackTraces = false) (z : Nat) (G : Gl) (ad : Nat → Nat → Nat) (σ : SG) (ν : NU) (ρ : RH) (lo : Int64) (p1 : Int32) (k r : Int32) (h : wpX6_provisionAt σ ν p1 (fun r9 => k = 0 ∧ r9 = r) (fun E => xk9 [IOB] E k)) : Met l yL_provisionAt wsL_provisionAt ({ frames := 7, cells := 1, slots := 6, locals := 103 } : Room) (Pcs z G ad (σ, ν, ρ, lo) [.ref (ad 0 0), .int p1, .ref (ad 31 0)]) (LQ z G ad ν ρ k r (fun t u => t = σ ∧ u = ν)) 1 6 (Az z) := by
  refine met_ofWH (cc := cL_provisionAt) (maxL := 4) (ret := some .int) (hh := [(0, 9, 12, 25)]) (by decide) rfl ?_
  intro p e s m args below meth c s₁ BB hml hv
  obtain ⟨rfl, hz, hW, hE⟩ := hv
  have hx := BB.exec
  have hb := BB.bytes
  have hr := BB.returns
  have hts := atoms_spec (ws := wsL_provisionAt) BB.pre
  have hown : s.vm.findClass RL = some m.cls := findClass_of_methodNamed BB.named
  have hlocks := BB.notSynchronized
  have htb : c.exceptionTable.toList = [⟨0, 9, 12, 25⟩] := vx_table (x := yL_provisionAt) BB (hts _ List.mem_cons_self)
  have hS : va_S (Az z) s.heap s.heap [] := va_S.rf
  have hl := lv_entry [.ref (ad 0 0), .int p1, .ref (ad 31 0)] (n := 4) (Nat.le_of_ble_eq_true rfl)
  rw [lg_entry_eq]
  generalize (lg_sl [.ref (ad 0 0), .int p1, .ref (ad 31 0)] ++ List.replicate (4 - (lg_sl [.ref (ad 0 0), .int p1, .ref (ad 31 0)]).length) Slot.unset).toArray = ls at hl ⊢
  have hl : lv_has ls 4 [(0, .ref (ad 0 0)), (1, .int p1), (2, .ref (ad 31 0))] := hl
  refine lv_aload_n hx hb dL_provisionAt_0 rfl (lv_at hl 2 rfl) ?_
  refine lv_iconst (v := (0 : Int32)) hx hb dL_provisionAt_1 (by decide) ?_
  refine lv_aload_n hx hb dL_provisionAt_2 rfl (lv_at hl 0 rfl) ?_
  refine lv_iload_n hx hb dL_provisionAt_3 rfl (lv_at hl 1 rfl) ?_
  have hrc := r_recv hE hW 0 0 rfl (C := RX6) (ci := 9) rfl rfl
  refine vx_calli (vx_runV (As := [.int p1]) (rest := [.int 0, .ref (ad 31 0)]) ⟨hx, hb, hml, hown, hts⟩ (mtX6_provisionAt l hlt z G ad σ ν ρ lo p1 _ _ h) (cwV 1 hts gL_provisionAt_X6_provisionAt rfl rfl rfl (by decide +kernel) ⟨Nat.le_of_ble_eq_true rfl, Nat.le_of_ble_eq_true rfl⟩) ⟨Pcs.blind, hrc, fun U hU hw => ⟨rfl, Bc.of hE hz hW hS hU hw⟩⟩ rfl rfl hl.1 rfl (lv_room (Nat.le_of_ble_eq_true rfl)) dL_provisionAt_4 ⟨Nat.le_of_ble_eq_true rfl, Nat.le_of_ble_eq_true rfl⟩) hS (fun _ _ h => h) (fun _ h => h) (fun _ _ h => h) (fun E ce q9 u9 t H1 locs1 ht _ hp hB _ _ hS1 hce hv hcl => ?_) (fun r9 u9 t H1 locs1 ht _ hp hB _ _ hS1 => ?_)
  · obtain ⟨E9, S9⟩ := u9
    obtain ⟨rfl, hB⟩ := hB
    obtain ⟨rfl, hxk⟩ := hp
    have hW : WP z G ad (σ, ν, ρ, lo) H1 := by rw [← ht]; exact hB
    obtain ⟨i9, hi9, hi3, rfl⟩ := hxk
    rcases (show i9 = 0 ∨ i9 = 1 ∨ i9 = 2 by omega) with rfl | rfl | rfl
    · obtain rfl : IOB = E := Option.some.inj hi9
      refine vx_catch (name := IOB) hown [] ⟨0, 9, 12, 25⟩ [] htb (fun z9 hz9 => absurd hz9 List.not_mem_nil) rfl (by decide) (hts _ (List.mem_of_getElem? (i := 1) rfl)) (va_Nw.use rfl (hE.2.2.2.2.2.2.1 (IOB, IOB) (List.mem_of_getElem? (i := 4) rfl))) hce hv hcl ?_
      refine lv_astore_n (lv' := [(3, .ref q9), (0, .ref (ad 0 0)), (1, .int p1), (2, .ref (ad 31 0))]) hx hb dL_provisionAt_12 rfl hl (by decide) rfl (fun ls hl => ?_)
      refine lv_iconst (v := (1 : Int32)) hx hb dL_provisionAt_13 (by decide) ?_
      exact W.iret (v := (1 : Int32)) hx hb hr (fun t ht _ => ⟨⟨_, ((σ, ν, ρ, lo), ad), rfl, ⟨by decide, σ, ν, lo, rfl, Xt.rf, fun q => absurd q (by decide), rfl, rfl⟩, WP.at9 ht hW⟩, hS1.F ht⟩) hS1.2.2 dL_provisionAt_14 (hlocks := hlocks)
    · cases hi9
    · cases hi9
  · obtain ⟨rfl, hk, rfl⟩ := hp
    have hW : WP z G ad (σ, ν, ρ, lo) H1 := by rw [← ht]; exact hB
    refine lv_i2l (v := r9.toInt64) hx hb dL_provisionAt_7 rfl ?_
    refine r_last hx hb hE hW hS1 dL_provisionAt_8 (fun H locs hW hS => ?_)
    refine lv_goto (tgt := 15) hx hb dL_provisionAt_9 (by decide) ?_
    refine lv_iconst (v := (0 : Int32)) hx hb dL_provisionAt_15 (by decide) ?_
    exact W.iret (v := (0 : Int32)) hx hb hr (fun t ht _ => ⟨⟨_, ((σ, ν, ρ, r9.toInt64), ad), rfl, ⟨hk.symm, σ, ν, r9.toInt64, rfl, Xt.rf, fun _ => rfl, rfl, rfl⟩, WP.at9 ht hW⟩, hS.F ht⟩) hS.2.2 dL_provisionAt_16 (hlocks := hlocks)

set_option maxHeartbeats 2000000 in
set_option maxRecDepth 100000 in
theorem mtL_label (l : Launch) (hlt : l.stackTraces = false) (z : Nat) (G : Gl) (ad : Nat → Nat → Nat) (σ : SG) (ν : NU) (ρ : RH) (lo : Int64) (p1 : Int32) (k r : Int32) (h : wpX6_label σ ν p1 (fun r9 => k = 0 ∧ r9 = r) (fun E => xk9 [IOB] E k)) : Met l yL_label wsL_label ({ frames := 8, cells := 1, slots := 6, locals := 124 } : Room) (Pcs z G ad (σ, ν, ρ, lo) [.ref (ad 0 0), .int p1, .ref (ad 31 0)]) (LQ z G ad ν ρ k r (fun t u => t = σ ∧ u = ν)) 1 6 (Az z) := by
  refine met_ofWH (cc := cL_label) (maxL := 4) (ret := some .int) (hh := [(0, 9, 12, 25)]) (by decide) rfl ?_
  intro p e s m args below meth c s₁ BB hml hv
  obtain ⟨rfl, hz, hW, hE⟩ := hv
  have hx := BB.exec
  have hb := BB.bytes
  have hr := BB.returns
  have hts := atoms_spec (ws := wsL_label) BB.pre
  have hown : s.vm.findClass RL = some m.cls := findClass_of_methodNamed BB.named
  have hlocks := BB.notSynchronized
  have htb : c.exceptionTable.toList = [⟨0, 9, 12, 25⟩] := vx_table (x := yL_label) BB (hts _ List.mem_cons_self)
  have hS : va_S (Az z) s.heap s.heap [] := va_S.rf
  have hl := lv_entry [.ref (ad 0 0), .int p1, .ref (ad 31 0)] (n := 4) (Nat.le_of_ble_eq_true rfl)
  rw [lg_entry_eq]
  generalize (lg_sl [.ref (ad 0 0), .int p1, .ref (ad 31 0)] ++ List.replicate (4 - (lg_sl [.ref (ad 0 0), .int p1, .ref (ad 31 0)]).length) Slot.unset).toArray = ls at hl ⊢
  have hl : lv_has ls 4 [(0, .ref (ad 0 0)), (1, .int p1), (2, .ref (ad 31 0))] := hl
  refine lv_aload_n hx hb dL_label_0 rfl (lv_at hl 2 rfl) ?_
  refine lv_iconst (v := (0 : Int32)) hx hb dL_label_1 (by decide) ?_
  refine lv_aload_n hx hb dL_label_2 rfl (lv_at hl 0 rfl) ?_
  refine lv_iload_n hx hb dL_label_3 rfl (lv_at hl 1 rfl) ?_
  have hrc := r_recv hE hW 0 0 rfl (C := RX6) (ci := 9) rfl rfl
  refine vx_calli (vx_runV (As := [.int p1]) (rest := [.int 0, .ref (ad 31 0)]) ⟨hx, hb, hml, hown, hts⟩ (mtX6_label l hlt z G ad σ ν ρ lo p1 _ _ h) (cwV 1 hts gL_label_X6_label rfl rfl rfl (by decide +kernel) ⟨Nat.le_of_ble_eq_true rfl, Nat.le_of_ble_eq_true rfl⟩) ⟨Pcs.blind, hrc, fun U hU hw => ⟨rfl, Bc.of hE hz hW hS hU hw⟩⟩ rfl rfl hl.1 rfl (lv_room (Nat.le_of_ble_eq_true rfl)) dL_label_4 ⟨Nat.le_of_ble_eq_true rfl, Nat.le_of_ble_eq_true rfl⟩) hS (fun _ _ h => h) (fun _ h => h) (fun _ _ h => h) (fun E ce q9 u9 t H1 locs1 ht _ hp hB _ _ hS1 hce hv hcl => ?_) (fun r9 u9 t H1 locs1 ht _ hp hB _ _ hS1 => ?_)
  · obtain ⟨E9, S9⟩ := u9
    obtain ⟨rfl, hB⟩ := hB
    obtain ⟨rfl, hxk⟩ := hp
    have hW : WP z G ad (σ, ν, ρ, lo) H1 := by rw [← ht]; exact hB
    obtain ⟨i9, hi9, hi3, rfl⟩ := hxk
    rcases (show i9 = 0 ∨ i9 = 1 ∨ i9 = 2 by omega) with rfl | rfl | rfl
    · obtain rfl : IOB = E := Option.some.inj hi9
      refine vx_catch (name := IOB) hown [] ⟨0, 9, 12, 25⟩ [] htb (fun z9 hz9 => absurd hz9 List.not_mem_nil) rfl (by decide) (hts _ (List.mem_of_getElem? (i := 1) rfl)) (va_Nw.use rfl (hE.2.2.2.2.2.2.1 (IOB, IOB) (List.mem_of_getElem? (i := 4) rfl))) hce hv hcl ?_
      refine lv_astore_n (lv' := [(3, .ref q9), (0, .ref (ad 0 0)), (1, .int p1), (2, .ref (ad 31 0))]) hx hb dL_label_12 rfl hl (by decide) rfl (fun ls hl => ?_)
      refine lv_iconst (v := (1 : Int32)) hx hb dL_label_13 (by decide) ?_
      exact W.iret (v := (1 : Int32)) hx hb hr (fun t ht _ => ⟨⟨_, ((σ, ν, ρ, lo), ad), rfl, ⟨by decide, σ, ν, lo, rfl, Xt.rf, fun q => absurd q (by decide), rfl, rfl⟩, WP.at9 ht hW⟩, hS1.F ht⟩) hS1.2.2 dL_label_14 (hlocks := hlocks)
    · cases hi9
    · cases hi9
  · obtain ⟨rfl, hk, rfl⟩ := hp
    have hW : WP z G ad (σ, ν, ρ, lo) H1 := by rw [← ht]; exact hB
    refine lv_i2l (v := r9.toInt64) hx hb dL_label_7 rfl ?_
    refine r_last hx hb hE hW hS1 dL_label_8 (fun H locs hW hS => ?_)
    refine lv_goto (tgt := 15) hx hb dL_label_9 (by decide) ?_
    refine lv_iconst (v := (0 : Int32)) hx hb dL_label_15 (by decide) ?_
    exact W.iret (v := (0 : Int32)) hx hb hr (fun t ht _ => ⟨⟨_, ((σ, ν, ρ, r9.toInt64), ad), rfl, ⟨hk.symm, σ, ν, r9.toInt64, rfl, Xt.rf, fun _ => rfl, rfl, rfl⟩, WP.at9 ht hW⟩, hS.F ht⟩) hS.2.2 dL_label_16 (hlocks := hlocks)

set_option maxHeartbeats 2000000 in
set_option maxRecDepth 100000 in
theorem mtL_parent (l : Launch) (hlt : l.stackTraces = false) (z : Nat) (G : Gl) (ad : Nat → Nat → Nat) (σ : SG) (ν : NU) (ρ : RH) (lo : Int64) (p1 : Int32) (k r : Int32) (h : wpX6_parent σ ν p1 (fun r9 => k = 0 ∧ r9 = r) (fun E => xk9 [IOB] E k)) : Met l yL_parent wsL_parent ({ frames := 8, cells := 1, slots := 6, locals := 124 } : Room) (Pcs z G ad (σ, ν, ρ, lo) [.ref (ad 0 0), .int p1, .ref (ad 31 0)]) (LQ z G ad ν ρ k r (fun t u => t = σ ∧ u = ν)) 1 6 (Az z) := by
  refine met_ofWH (cc := cL_parent) (maxL := 4) (ret := some .int) (hh := [(0, 9, 12, 25)]) (by decide) rfl ?_
  intro p e s m args below meth c s₁ BB hml hv
  obtain ⟨rfl, hz, hW, hE⟩ := hv
  have hx := BB.exec
  have hb := BB.bytes
  have hr := BB.returns
  have hts := atoms_spec (ws := wsL_parent) BB.pre
  have hown : s.vm.findClass RL = some m.cls := findClass_of_methodNamed BB.named
  have hlocks := BB.notSynchronized
  have htb : c.exceptionTable.toList = [⟨0, 9, 12, 25⟩] := vx_table (x := yL_parent) BB (hts _ List.mem_cons_self)
  have hS : va_S (Az z) s.heap s.heap [] := va_S.rf
  have hl := lv_entry [.ref (ad 0 0), .int p1, .ref (ad 31 0)] (n := 4) (Nat.le_of_ble_eq_true rfl)
  rw [lg_entry_eq]
  generalize (lg_sl [.ref (ad 0 0), .int p1, .ref (ad 31 0)] ++ List.replicate (4 - (lg_sl [.ref (ad 0 0), .int p1, .ref (ad 31 0)]).length) Slot.unset).toArray = ls at hl ⊢
  have hl : lv_has ls 4 [(0, .ref (ad 0 0)), (1, .int p1), (2, .ref (ad 31 0))] := hl
  refine lv_aload_n hx hb dL_parent_0 rfl (lv_at hl 2 rfl) ?_
  refine lv_iconst (v := (0 : Int32)) hx hb dL_parent_1 (by decide) ?_
  refine lv_aload_n hx hb dL_parent_2 rfl (lv_at hl 0 rfl) ?_
  refine lv_iload_n hx hb dL_parent_3 rfl (lv_at hl 1 rfl) ?_
  have hrc := r_recv hE hW 0 0 rfl (C := RX6) (ci := 9) rfl rfl
  refine vx_calli (vx_runV (As := [.int p1]) (rest := [.int 0, .ref (ad 31 0)]) ⟨hx, hb, hml, hown, hts⟩ (mtX6_parent l hlt z G ad σ ν ρ lo p1 _ _ h) (cwV 1 hts gL_parent_X6_parent rfl rfl rfl (by decide +kernel) ⟨Nat.le_of_ble_eq_true rfl, Nat.le_of_ble_eq_true rfl⟩) ⟨Pcs.blind, hrc, fun U hU hw => ⟨rfl, Bc.of hE hz hW hS hU hw⟩⟩ rfl rfl hl.1 rfl (lv_room (Nat.le_of_ble_eq_true rfl)) dL_parent_4 ⟨Nat.le_of_ble_eq_true rfl, Nat.le_of_ble_eq_true rfl⟩) hS (fun _ _ h => h) (fun _ h => h) (fun _ _ h => h) (fun E ce q9 u9 t H1 locs1 ht _ hp hB _ _ hS1 hce hv hcl => ?_) (fun r9 u9 t H1 locs1 ht _ hp hB _ _ hS1 => ?_)
  · obtain ⟨E9, S9⟩ := u9
    obtain ⟨rfl, hB⟩ := hB
    obtain ⟨rfl, hxk⟩ := hp
    have hW : WP z G ad (σ, ν, ρ, lo) H1 := by rw [← ht]; exact hB
    obtain ⟨i9, hi9, hi3, rfl⟩ := hxk
    rcases (show i9 = 0 ∨ i9 = 1 ∨ i9 = 2 by omega) with rfl | rfl | rfl
    · obtain rfl : IOB = E := Option.some.inj hi9
      refine vx_catch (name := IOB) hown [] ⟨0, 9, 12, 25⟩ [] htb (fun z9 hz9 => absurd hz9 List.not_mem_nil) rfl (by decide) (hts _ (List.mem_of_getElem? (i := 1) rfl)) (va_Nw.use rfl (hE.2.2.2.2.2.2.1 (IOB, IOB) (List.mem_of_getElem? (i := 4) rfl))) hce hv hcl ?_
      refine lv_astore_n (lv' := [(3, .ref q9), (0, .ref (ad 0 0)), (1, .int p1), (2, .ref (ad 31 0))]) hx hb dL_parent_12 rfl hl (by decide) rfl (fun ls hl => ?_)
      refine lv_iconst (v := (1 : Int32)) hx hb dL_parent_13 (by decide) ?_
      exact W.iret (v := (1 : Int32)) hx hb hr (fun t ht _ => ⟨⟨_, ((σ, ν, ρ, lo), ad), rfl, ⟨by decide, σ, ν, lo, rfl, Xt.rf, fun q => absurd q (by decide), rfl, rfl⟩, WP.at9 ht hW⟩, hS1.F ht⟩) hS1.2.2 dL_parent_14 (hlocks := hlocks)
    · cases hi9
    · cases hi9
  · obtain ⟨rfl, hk, rfl⟩ := hp
    have hW : WP z G ad (σ, ν, ρ, lo) H1 := by rw [← ht]; exact hB
    refine lv_i2l (v := r9.toInt64) hx hb dL_parent_7 rfl ?_
    refine r_last hx hb hE hW hS1 dL_parent_8 (fun H locs hW hS => ?_)
    refine lv_goto (tgt := 15) hx hb dL_parent_9 (by decide) ?_
    refine lv_iconst (v := (0 : Int32)) hx hb dL_parent_15 (by decide) ?_
    exact W.iret (v := (0 : Int32)) hx hb hr (fun t ht _ => ⟨⟨_, ((σ, ν, ρ, r9.toInt64), ad), rfl, ⟨hk.symm, σ, ν, r9.toInt64, rfl, Xt.rf, fun _ => rfl, rfl, rfl⟩, WP.at9 ht hW⟩, hS.F ht⟩) hS.2.2 dL_parent_16 (hlocks := hlocks)

set_option maxHeartbeats 2000000 in
set_option maxRecDepth 100000 in
theorem mtL_words (l : Launch) (hlt : l.stackTraces = false) (z : Nat) (G : Gl) (ad : Nat → Nat → Nat) (σ : SG) (ν : NU) (ρ : RH) (lo : Int64) (p1 : Int32) (k r : Int32) (h : wpX6_words σ ν p1 (fun r9 => k = 0 ∧ r9 = r) (fun E => xk9 [IOB] E k)) : Met l yL_words wsL_words ({ frames := 8, cells := 1, slots := 6, locals := 124 } : Room) (Pcs z G ad (σ, ν, ρ, lo) [.ref (ad 0 0), .int p1, .ref (ad 31 0)]) (LQ z G ad ν ρ k r (fun t u => t = σ ∧ u = ν)) 1 6 (Az z) := by
  refine met_ofWH (cc := cL_words) (maxL := 4) (ret := some .int) (hh := [(0, 9, 12, 25)]) (by decide) rfl ?_
  intro p e s m args below meth c s₁ BB hml hv
  obtain ⟨rfl, hz, hW, hE⟩ := hv
  have hx := BB.exec
  have hb := BB.bytes
  have hr := BB.returns
  have hts := atoms_spec (ws := wsL_words) BB.pre
  have hown : s.vm.findClass RL = some m.cls := findClass_of_methodNamed BB.named
  have hlocks := BB.notSynchronized
  have htb : c.exceptionTable.toList = [⟨0, 9, 12, 25⟩] := vx_table (x := yL_words) BB (hts _ List.mem_cons_self)
  have hS : va_S (Az z) s.heap s.heap [] := va_S.rf
  have hl := lv_entry [.ref (ad 0 0), .int p1, .ref (ad 31 0)] (n := 4) (Nat.le_of_ble_eq_true rfl)
  rw [lg_entry_eq]
  generalize (lg_sl [.ref (ad 0 0), .int p1, .ref (ad 31 0)] ++ List.replicate (4 - (lg_sl [.ref (ad 0 0), .int p1, .ref (ad 31 0)]).length) Slot.unset).toArray = ls at hl ⊢
  have hl : lv_has ls 4 [(0, .ref (ad 0 0)), (1, .int p1), (2, .ref (ad 31 0))] := hl
  refine lv_aload_n hx hb dL_words_0 rfl (lv_at hl 2 rfl) ?_
  refine lv_iconst (v := (0 : Int32)) hx hb dL_words_1 (by decide) ?_
  refine lv_aload_n hx hb dL_words_2 rfl (lv_at hl 0 rfl) ?_
  refine lv_iload_n hx hb dL_words_3 rfl (lv_at hl 1 rfl) ?_
  have hrc := r_recv hE hW 0 0 rfl (C := RX6) (ci := 9) rfl rfl
  refine vx_calli (vx_runV (As := [.int p1]) (rest := [.int 0, .ref (ad 31 0)]) ⟨hx, hb, hml, hown, hts⟩ (mtX6_words l hlt z G ad σ ν ρ lo p1 _ _ h) (cwV 1 hts gL_words_X6_words rfl rfl rfl (by decide +kernel) ⟨Nat.le_of_ble_eq_true rfl, Nat.le_of_ble_eq_true rfl⟩) ⟨Pcs.blind, hrc, fun U hU hw => ⟨rfl, Bc.of hE hz hW hS hU hw⟩⟩ rfl rfl hl.1 rfl (lv_room (Nat.le_of_ble_eq_true rfl)) dL_words_4 ⟨Nat.le_of_ble_eq_true rfl, Nat.le_of_ble_eq_true rfl⟩) hS (fun _ _ h => h) (fun _ h => h) (fun _ _ h => h) (fun E ce q9 u9 t H1 locs1 ht _ hp hB _ _ hS1 hce hv hcl => ?_) (fun r9 u9 t H1 locs1 ht _ hp hB _ _ hS1 => ?_)
  · obtain ⟨E9, S9⟩ := u9
    obtain ⟨rfl, hB⟩ := hB
    obtain ⟨rfl, hxk⟩ := hp
    have hW : WP z G ad (σ, ν, ρ, lo) H1 := by rw [← ht]; exact hB
    obtain ⟨i9, hi9, hi3, rfl⟩ := hxk
    rcases (show i9 = 0 ∨ i9 = 1 ∨ i9 = 2 by omega) with rfl | rfl | rfl
    · obtain rfl : IOB = E := Option.some.inj hi9
      refine vx_catch (name := IOB) hown [] ⟨0, 9, 12, 25⟩ [] htb (fun z9 hz9 => absurd hz9 List.not_mem_nil) rfl (by decide) (hts _ (List.mem_of_getElem? (i := 1) rfl)) (va_Nw.use rfl (hE.2.2.2.2.2.2.1 (IOB, IOB) (List.mem_of_getElem? (i := 4) rfl))) hce hv hcl ?_
      refine lv_astore_n (lv' := [(3, .ref q9), (0, .ref (ad 0 0)), (1, .int p1), (2, .ref (ad 31 0))]) hx hb dL_words_12 rfl hl (by decide) rfl (fun ls hl => ?_)
      refine lv_iconst (v := (1 : Int32)) hx hb dL_words_13 (by decide) ?_
      exact W.iret (v := (1 : Int32)) hx hb hr (fun t ht _ => ⟨⟨_, ((σ, ν, ρ, lo), ad), rfl, ⟨by decide, σ, ν, lo, rfl, Xt.rf, fun q => absurd q (by decide), rfl, rfl⟩, WP.at9 ht hW⟩, hS1.F ht⟩) hS1.2.2 dL_words_14 (hlocks := hlocks)
    · cases hi9
    · cases hi9
  · obtain ⟨rfl, hk, rfl⟩ := hp
    have hW : WP z G ad (σ, ν, ρ, lo) H1 := by rw [← ht]; exact hB
    refine lv_i2l (v := r9.toInt64) hx hb dL_words_7 rfl ?_
    refine r_last hx hb hE hW hS1 dL_words_8 (fun H locs hW hS => ?_)
    refine lv_goto (tgt := 15) hx hb dL_words_9 (by decide) ?_
    refine lv_iconst (v := (0 : Int32)) hx hb dL_words_15 (by decide) ?_
    exact W.iret (v := (0 : Int32)) hx hb hr (fun t ht _ => ⟨⟨_, ((σ, ν, ρ, r9.toInt64), ad), rfl, ⟨hk.symm, σ, ν, r9.toInt64, rfl, Xt.rf, fun _ => rfl, rfl, rfl⟩, WP.at9 ht hW⟩, hS.F ht⟩) hS.2.2 dL_words_16 (hlocks := hlocks)

set_option maxHeartbeats 2000000 in
set_option maxRecDepth 100000 in
theorem mtL_wordAt (l : Launch) (hlt : l.stackTraces = false) (z : Nat) (G : Gl) (ad : Nat → Nat → Nat) (σ : SG) (ν : NU) (ρ : RH) (lo : Int64) (p1 : Int32) (p2 : Int32) (k r : Int32) (h : wpX6_wordAt σ ν p1 p2 (fun r9 => k = 0 ∧ r9 = r) (fun E => xk9 [IOB] E k)) : Met l yL_wordAt wsL_wordAt ({ frames := 9, cells := 2, slots := 12, locals := 147 } : Room) (Pcs z G ad (σ, ν, ρ, lo) [.ref (ad 0 0), .int p1, .int p2, .ref (ad 31 0)]) (LQ z G ad ν ρ k r (fun t u => t = σ ∧ u = ν)) 2 12 (Az z) := by
  refine met_ofWH (cc := cL_wordAt) (maxL := 5) (ret := some .int) (hh := [(0, 10, 13, 25)]) (by decide) rfl ?_
  intro p e s m args below meth c s₁ BB hml hv
  obtain ⟨rfl, hz, hW, hE⟩ := hv
  have hx := BB.exec
  have hb := BB.bytes
  have hr := BB.returns
  have hts := atoms_spec (ws := wsL_wordAt) BB.pre
  have hown : s.vm.findClass RL = some m.cls := findClass_of_methodNamed BB.named
  have hlocks := BB.notSynchronized
  have htb : c.exceptionTable.toList = [⟨0, 10, 13, 25⟩] := vx_table (x := yL_wordAt) BB (hts _ List.mem_cons_self)
  have hS : va_S (Az z) s.heap s.heap [] := va_S.rf
  have hl := lv_entry [.ref (ad 0 0), .int p1, .int p2, .ref (ad 31 0)] (n := 5) (Nat.le_of_ble_eq_true rfl)
  rw [lg_entry_eq]
  generalize (lg_sl [.ref (ad 0 0), .int p1, .int p2, .ref (ad 31 0)] ++ List.replicate (5 - (lg_sl [.ref (ad 0 0), .int p1, .int p2, .ref (ad 31 0)]).length) Slot.unset).toArray = ls at hl ⊢
  have hl : lv_has ls 5 [(0, .ref (ad 0 0)), (1, .int p1), (2, .int p2), (3, .ref (ad 31 0))] := hl
  refine lv_aload_n hx hb dL_wordAt_0 rfl (lv_at hl 3 rfl) ?_
  refine lv_iconst (v := (0 : Int32)) hx hb dL_wordAt_1 (by decide) ?_
  refine lv_aload_n hx hb dL_wordAt_2 rfl (lv_at hl 0 rfl) ?_
  refine lv_iload_n hx hb dL_wordAt_3 rfl (lv_at hl 1 rfl) ?_
  refine lv_iload_n hx hb dL_wordAt_4 rfl (lv_at hl 2 rfl) ?_
  have hrc := r_recv hE hW 0 0 rfl (C := RX6) (ci := 9) rfl rfl
  refine vx_calli (vx_runV (As := [.int p1, .int p2]) (rest := [.int 0, .ref (ad 31 0)]) ⟨hx, hb, hml, hown, hts⟩ (mtX6_wordAt l hlt z G ad σ ν ρ lo p1 p2 _ _ h) (cwV 2 hts gL_wordAt_X6_wordAt rfl rfl rfl (by decide +kernel) ⟨Nat.le_of_ble_eq_true rfl, Nat.le_of_ble_eq_true rfl⟩) ⟨Pcs.blind, hrc, fun U hU hw => ⟨rfl, Bc.of hE hz hW hS hU hw⟩⟩ rfl rfl hl.1 rfl (lv_room (Nat.le_of_ble_eq_true rfl)) dL_wordAt_5 ⟨Nat.le_of_ble_eq_true rfl, Nat.le_of_ble_eq_true rfl⟩) hS (fun _ _ h => h) (fun _ h => h) (fun _ _ h => h) (fun E ce q9 u9 t H1 locs1 ht _ hp hB _ _ hS1 hce hv hcl => ?_) (fun r9 u9 t H1 locs1 ht _ hp hB _ _ hS1 => ?_)
  · obtain ⟨E9, S9⟩ := u9
    obtain ⟨rfl, hB⟩ := hB
    obtain ⟨rfl, hxk⟩ := hp
    have hW : WP z G ad (σ, ν, ρ, lo) H1 := by rw [← ht]; exact hB
    obtain ⟨i9, hi9, hi3, rfl⟩ := hxk
    rcases (show i9 = 0 ∨ i9 = 1 ∨ i9 = 2 by omega) with rfl | rfl | rfl
    · obtain rfl : IOB = E := Option.some.inj hi9
      refine vx_catch (name := IOB) hown [] ⟨0, 10, 13, 25⟩ [] htb (fun z9 hz9 => absurd hz9 List.not_mem_nil) rfl (by decide) (hts _ (List.mem_of_getElem? (i := 1) rfl)) (va_Nw.use rfl (hE.2.2.2.2.2.2.1 (IOB, IOB) (List.mem_of_getElem? (i := 4) rfl))) hce hv hcl ?_
      refine lv_astore (lv' := [(4, .ref q9), (0, .ref (ad 0 0)), (1, .int p1), (2, .int p2), (3, .ref (ad 31 0))]) hx hb dL_wordAt_13 hl (by decide) rfl (fun ls hl => ?_)
      refine lv_iconst (v := (1 : Int32)) hx hb dL_wordAt_15 (by decide) ?_
      exact W.iret (v := (1 : Int32)) hx hb hr (fun t ht _ => ⟨⟨_, ((σ, ν, ρ, lo), ad), rfl, ⟨by decide, σ, ν, lo, rfl, Xt.rf, fun q => absurd q (by decide), rfl, rfl⟩, WP.at9 ht hW⟩, hS1.F ht⟩) hS1.2.2 dL_wordAt_16 (hlocks := hlocks)
    · cases hi9
    · cases hi9
  · obtain ⟨rfl, hk, rfl⟩ := hp
    have hW : WP z G ad (σ, ν, ρ, lo) H1 := by rw [← ht]; exact hB
    refine lv_i2l (v := r9.toInt64) hx hb dL_wordAt_8 rfl ?_
    refine r_last hx hb hE hW hS1 dL_wordAt_9 (fun H locs hW hS => ?_)
    refine lv_goto (tgt := 17) hx hb dL_wordAt_10 (by decide) ?_
    refine lv_iconst (v := (0 : Int32)) hx hb dL_wordAt_17 (by decide) ?_
    exact W.iret (v := (0 : Int32)) hx hb hr (fun t ht _ => ⟨⟨_, ((σ, ν, ρ, r9.toInt64), ad), rfl, ⟨hk.symm, σ, ν, r9.toInt64, rfl, Xt.rf, fun _ => rfl, rfl, rfl⟩, WP.at9 ht hW⟩, hS.F ht⟩) hS.2.2 dL_wordAt_18 (hlocks := hlocks)

set_option maxHeartbeats 2000000 in
set_option maxRecDepth 100000 in
theorem mtL_wordAnew (l : Launch) (hlt : l.stackTraces = false) (z : Nat) (G : Gl) (ad : Nat → Nat → Nat) (σ : SG) (ν : NU) (ρ : RH) (lo : Int64) (p1 : Int32) (p2 : Int32) (k r : Int32) (P : SG → NU → Prop) (h : wpX6_wordAnew σ ν p1 p2 (fun r9 s9 => k = 0 ∧ r9 = r ∧ P s9 ν) (fun E s9 => xk9 [IOB] E k ∧ P s9 ν)) : Met l yL_wordAnew wsL_wordAnew ({ frames := 8, cells := 2, slots := 12, locals := 153 } : Room) (Pcs z G ad (σ, ν, ρ, lo) [.ref (ad 0 0), .int p1, .int p2, .ref (ad 31 0)]) (LQ z G ad ν ρ k r P) 2 12 (Az z) := by
  refine met_ofWH (cc := cL_wordAnew) (maxL := 5) (ret := some .int) (hh := [(0, 10, 13, 25)]) (by decide) rfl ?_
  intro p e s m args below meth c s₁ BB hml hv
  obtain ⟨rfl, hz, hW, hE⟩ := hv
  have hx := BB.exec
  have hb := BB.bytes
  have hr := BB.returns
  have hts := atoms_spec (ws := wsL_wordAnew) BB.pre
  have hown : s.vm.findClass RL = some m.cls := findClass_of_methodNamed BB.named
  have hlocks := BB.notSynchronized
  have htb : c.exceptionTable.toList = [⟨0, 10, 13, 25⟩] := vx_table (x := yL_wordAnew) BB (hts _ List.mem_cons_self)
  have hS : va_S (Az z) s.heap s.heap [] := va_S.rf
  have hl := lv_entry [.ref (ad 0 0), .int p1, .int p2, .ref (ad 31 0)] (n := 5) (Nat.le_of_ble_eq_true rfl)
  rw [lg_entry_eq]
  generalize (lg_sl [.ref (ad 0 0), .int p1, .int p2, .ref (ad 31 0)] ++ List.replicate (5 - (lg_sl [.ref (ad 0 0), .int p1, .int p2, .ref (ad 31 0)]).length) Slot.unset).toArray = ls at hl ⊢
  have hl : lv_has ls 5 [(0, .ref (ad 0 0)), (1, .int p1), (2, .int p2), (3, .ref (ad 31 0))] := hl
  refine lv_aload_n hx hb dL_wordAnew_0 rfl (lv_at hl 3 rfl) ?_
  refine lv_iconst (v := (0 : Int32)) hx hb dL_wordAnew_1 (by decide) ?_
  refine lv_aload_n hx hb dL_wordAnew_2 rfl (lv_at hl 0 rfl) ?_
  refine lv_iload_n hx hb dL_wordAnew_3 rfl (lv_at hl 1 rfl) ?_
  refine lv_iload_n hx hb dL_wordAnew_4 rfl (lv_at hl 2 rfl) ?_
  have hrc := r_recv hE hW 0 0 rfl (C := RX6) (ci := 9) rfl rfl
  refine vx_calli (vx_runV (As := [.int p1, .int p2]) (rest := [.int 0, .ref (ad 31 0)]) ⟨hx, hb, hml, hown, hts⟩ (mtX6_wordAnew l hlt z G ad σ ν ρ lo p1 p2 _ _ h) (cwV 2 hts gL_wordAnew_X6_wordAnew rfl rfl rfl (by decide +kernel) ⟨Nat.le_of_ble_eq_true rfl, Nat.le_of_ble_eq_true rfl⟩) ⟨Pcs.blind, hrc, fun U hU hw => ⟨rfl, Bc.of hE hz hW hS hU hw⟩⟩ rfl rfl hl.1 rfl (lv_room (Nat.le_of_ble_eq_true rfl)) dL_wordAnew_5 ⟨Nat.le_of_ble_eq_true rfl, Nat.le_of_ble_eq_true rfl⟩) hS (fun _ _ h => h) (fun _ h => h) (fun _ _ h => h) (fun E ce q9 u9 t H1 locs1 ht _ hp hB _ _ hS1 hce hv hcl => ?_) (fun r9 u9 t H1 locs1 ht _ hp hB _ _ hS1 => ?_)
  · obtain ⟨E9, S9⟩ := u9
    obtain ⟨rfl, hB⟩ := hB
    obtain ⟨s9, rfl, hxk, hP⟩ := hp
    have hW : WP z G ad (s9, ν, ρ, lo) H1 := by rw [← ht]; exact hB
    obtain ⟨i9, hi9, hi3, rfl⟩ := hxk
    rcases (show i9 = 0 ∨ i9 = 1 ∨ i9 = 2 by omega) with rfl | rfl | rfl
    · obtain rfl : IOB = E := Option.some.inj hi9
      refine vx_catch (name := IOB) hown [] ⟨0, 10, 13, 25⟩ [] htb (fun z9 hz9 => absurd hz9 List.not_mem_nil) rfl (by decide) (hts _ (List.mem_of_getElem? (i := 1) rfl)) (va_Nw.use rfl (hE.2.2.2.2.2.2.1 (IOB, IOB) (List.mem_of_getElem? (i := 4) rfl))) hce hv hcl ?_
      refine lv_astore (lv' := [(4, .ref q9), (0, .ref (ad 0 0)), (1, .int p1), (2, .int p2), (3, .ref (ad 31 0))]) hx hb dL_wordAnew_13 hl (by decide) rfl (fun ls hl => ?_)
      refine lv_iconst (v := (1 : Int32)) hx hb dL_wordAnew_15 (by decide) ?_
      exact W.iret (v := (1 : Int32)) hx hb hr (fun t ht _ => ⟨⟨_, ((s9, ν, ρ, lo), ad), rfl, ⟨by decide, s9, ν, lo, rfl, Xt.rf, fun q => absurd q (by decide), hP⟩, WP.at9 ht hW⟩, hS1.F ht⟩) hS1.2.2 dL_wordAnew_16 (hlocks := hlocks)
    · cases hi9
    · cases hi9
  · obtain ⟨s9, rfl, hk, rfl, hP⟩ := hp
    have hW : WP z G ad (s9, ν, ρ, lo) H1 := by rw [← ht]; exact hB
    refine lv_i2l (v := r9.toInt64) hx hb dL_wordAnew_8 rfl ?_
    refine r_last hx hb hE hW hS1 dL_wordAnew_9 (fun H locs hW hS => ?_)
    refine lv_goto (tgt := 17) hx hb dL_wordAnew_10 (by decide) ?_
    refine lv_iconst (v := (0 : Int32)) hx hb dL_wordAnew_17 (by decide) ?_
    exact W.iret (v := (0 : Int32)) hx hb hr (fun t ht _ => ⟨⟨_, ((s9, ν, ρ, r9.toInt64), ad), rfl, ⟨hk.symm, s9, ν, r9.toInt64, rfl, Xt.rf, fun _ => rfl, hP⟩, WP.at9 ht hW⟩, hS.F ht⟩) hS.2.2 dL_wordAnew_18 (hlocks := hlocks)

set_option maxHeartbeats 2000000 in
set_option maxRecDepth 100000 in
theorem mtL_origin (l : Launch) (hlt : l.stackTraces = false) (z : Nat) (G : Gl) (ad : Nat → Nat → Nat) (σ : SG) (ν : NU) (ρ : RH) (lo : Int64) (p1 : Int32) (p2 : Int32) (k r : Int32) (h : wpX6_origin σ ν p1 p2 (fun r9 => k = 0 ∧ r9 = r) (fun E => xk9 [IOB] E k)) : Met l yL_origin wsL_origin ({ frames := 9, cells := 2, slots := 12, locals := 147 } : Room) (Pcs z G ad (σ, ν, ρ, lo) [.ref (ad 0 0), .int p1, .int p2, .ref (ad 31 0)]) (LQ z G ad ν ρ k r (fun t u => t = σ ∧ u = ν)) 2 12 (Az z) := by
  refine met_ofWH (cc := cL_origin) (maxL := 5) (ret := some .int) (hh := [(0, 10, 13, 25)]) (by decide) rfl ?_
  intro p e s m args below meth c s₁ BB hml hv
  obtain ⟨rfl, hz, hW, hE⟩ := hv
  have hx := BB.exec
  have hb := BB.bytes
  have hr := BB.returns
  have hts := atoms_spec (ws := wsL_origin) BB.pre
  have hown : s.vm.findClass RL = some m.cls := findClass_of_methodNamed BB.named
  have hlocks := BB.notSynchronized
  have htb : c.exceptionTable.toList = [⟨0, 10, 13, 25⟩] := vx_table (x := yL_origin) BB (hts _ List.mem_cons_self)
  have hS : va_S (Az z) s.heap s.heap [] := va_S.rf
  have hl := lv_entry [.ref (ad 0 0), .int p1, .int p2, .ref (ad 31 0)] (n := 5) (Nat.le_of_ble_eq_true rfl)
  rw [lg_entry_eq]
  generalize (lg_sl [.ref (ad 0 0), .int p1, .int p2, .ref (ad 31 0)] ++ List.replicate (5 - (lg_sl [.ref (ad 0 0), .int p1, .int p2, .ref (ad 31 0)]).length) Slot.unset).toArray = ls at hl ⊢
  have hl : lv_has ls 5 [(0, .ref (ad 0 0)), (1, .int p1), (2, .int p2), (3, .ref (ad 31 0))] := hl
  refine lv_aload_n hx hb dL_origin_0 rfl (lv_at hl 3 rfl) ?_
  refine lv_iconst (v := (0 : Int32)) hx hb dL_origin_1 (by decide) ?_
  refine lv_aload_n hx hb dL_origin_2 rfl (lv_at hl 0 rfl) ?_
  refine lv_iload_n hx hb dL_origin_3 rfl (lv_at hl 1 rfl) ?_
  refine lv_iload_n hx hb dL_origin_4 rfl (lv_at hl 2 rfl) ?_
  have hrc := r_recv hE hW 0 0 rfl (C := RX6) (ci := 9) rfl rfl
  refine vx_calli (vx_runV (As := [.int p1, .int p2]) (rest := [.int 0, .ref (ad 31 0)]) ⟨hx, hb, hml, hown, hts⟩ (mtX6_origin l hlt z G ad σ ν ρ lo p1 p2 _ _ h) (cwV 2 hts gL_origin_X6_origin rfl rfl rfl (by decide +kernel) ⟨Nat.le_of_ble_eq_true rfl, Nat.le_of_ble_eq_true rfl⟩) ⟨Pcs.blind, hrc, fun U hU hw => ⟨rfl, Bc.of hE hz hW hS hU hw⟩⟩ rfl rfl hl.1 rfl (lv_room (Nat.le_of_ble_eq_true rfl)) dL_origin_5 ⟨Nat.le_of_ble_eq_true rfl, Nat.le_of_ble_eq_true rfl⟩) hS (fun _ _ h => h) (fun _ h => h) (fun _ _ h => h) (fun E ce q9 u9 t H1 locs1 ht _ hp hB _ _ hS1 hce hv hcl => ?_) (fun r9 u9 t H1 locs1 ht _ hp hB _ _ hS1 => ?_)
  · obtain ⟨E9, S9⟩ := u9
    obtain ⟨rfl, hB⟩ := hB
    obtain ⟨rfl, hxk⟩ := hp
    have hW : WP z G ad (σ, ν, ρ, lo) H1 := by rw [← ht]; exact hB
    obtain ⟨i9, hi9, hi3, rfl⟩ := hxk
    rcases (show i9 = 0 ∨ i9 = 1 ∨ i9 = 2 by omega) with rfl | rfl | rfl
    · obtain rfl : IOB = E := Option.some.inj hi9
      refine vx_catch (name := IOB) hown [] ⟨0, 10, 13, 25⟩ [] htb (fun z9 hz9 => absurd hz9 List.not_mem_nil) rfl (by decide) (hts _ (List.mem_of_getElem? (i := 1) rfl)) (va_Nw.use rfl (hE.2.2.2.2.2.2.1 (IOB, IOB) (List.mem_of_getElem? (i := 4) rfl))) hce hv hcl ?_
      refine lv_astore (lv' := [(4, .ref q9), (0, .ref (ad 0 0)), (1, .int p1), (2, .int p2), (3, .ref (ad 31 0))]) hx hb dL_origin_13 hl (by decide) rfl (fun ls hl => ?_)
      refine lv_iconst (v := (1 : Int32)) hx hb dL_origin_15 (by decide) ?_
      exact W.iret (v := (1 : Int32)) hx hb hr (fun t ht _ => ⟨⟨_, ((σ, ν, ρ, lo), ad), rfl, ⟨by decide, σ, ν, lo, rfl, Xt.rf, fun q => absurd q (by decide), rfl, rfl⟩, WP.at9 ht hW⟩, hS1.F ht⟩) hS1.2.2 dL_origin_16 (hlocks := hlocks)
    · cases hi9
    · cases hi9
  · obtain ⟨rfl, hk, rfl⟩ := hp
    have hW : WP z G ad (σ, ν, ρ, lo) H1 := by rw [← ht]; exact hB
    refine lv_i2l (v := r9.toInt64) hx hb dL_origin_8 rfl ?_
    refine r_last hx hb hE hW hS1 dL_origin_9 (fun H locs hW hS => ?_)
    refine lv_goto (tgt := 17) hx hb dL_origin_10 (by decide) ?_
    refine lv_iconst (v := (0 : Int32)) hx hb dL_origin_17 (by decide) ?_
    exact W.iret (v := (0 : Int32)) hx hb hr (fun t ht _ => ⟨⟨_, ((σ, ν, ρ, r9.toInt64), ad), rfl, ⟨hk.symm, σ, ν, r9.toInt64, rfl, Xt.rf, fun _ => rfl, rfl, rfl⟩, WP.at9 ht hW⟩, hS.F ht⟩) hS.2.2 dL_origin_18 (hlocks := hlocks)

set_option maxHeartbeats 2000000 in
set_option maxRecDepth 100000 in
theorem mtL_refers (l : Launch) (hlt : l.stackTraces = false) (z : Nat) (G : Gl) (ad : Nat → Nat → Nat) (σ : SG) (ν : NU) (ρ : RH) (lo : Int64) (p1 : Int32) (p2 : Int32) (k r : Int32) (P : SG → NU → Prop) (h : wpX6_refers σ ν p1 p2 (fun r9 s9 n9 => k = 0 ∧ r9 = r ∧ P s9 n9) (fun E => xk9 [IOB] E k ∧ P σ ν)) : Met l yL_refers wsL_refers ({ frames := 10, cells := 43, slots := 2472, locals := 245 } : Room) (Pcs z G ad (σ, ν, ρ, lo) [.ref (ad 0 0), .int p1, .int p2, .ref (ad 31 0)]) (LQ z G ad ν ρ k r P) 43 2472 (Az z) := by
  refine met_ofWH (cc := cL_refers) (maxL := 5) (ret := some .int) (hh := [(0, 10, 13, 25)]) (by decide) rfl ?_
  intro p e s m args below meth c s₁ BB hml hv
  obtain ⟨rfl, hz, hW, hE⟩ := hv
  have hx := BB.exec
  have hb := BB.bytes
  have hr := BB.returns
  have hts := atoms_spec (ws := wsL_refers) BB.pre
  have hown : s.vm.findClass RL = some m.cls := findClass_of_methodNamed BB.named
  have hlocks := BB.notSynchronized
  have htb : c.exceptionTable.toList = [⟨0, 10, 13, 25⟩] := vx_table (x := yL_refers) BB (hts _ List.mem_cons_self)
  have hS : va_S (Az z) s.heap s.heap [] := va_S.rf
  have hl := lv_entry [.ref (ad 0 0), .int p1, .int p2, .ref (ad 31 0)] (n := 5) (Nat.le_of_ble_eq_true rfl)
  rw [lg_entry_eq]
  generalize (lg_sl [.ref (ad 0 0), .int p1, .int p2, .ref (ad 31 0)] ++ List.replicate (5 - (lg_sl [.ref (ad 0 0), .int p1, .int p2, .ref (ad 31 0)]).length) Slot.unset).toArray = ls at hl ⊢
  have hl : lv_has ls 5 [(0, .ref (ad 0 0)), (1, .int p1), (2, .int p2), (3, .ref (ad 31 0))] := hl
  refine lv_aload_n hx hb dL_refers_0 rfl (lv_at hl 3 rfl) ?_
  refine lv_iconst (v := (0 : Int32)) hx hb dL_refers_1 (by decide) ?_
  refine lv_aload_n hx hb dL_refers_2 rfl (lv_at hl 0 rfl) ?_
  refine lv_iload_n hx hb dL_refers_3 rfl (lv_at hl 1 rfl) ?_
  refine lv_iload_n hx hb dL_refers_4 rfl (lv_at hl 2 rfl) ?_
  have hrc := r_recv hE hW 0 0 rfl (C := RX6) (ci := 9) rfl rfl
  refine vx_calli (vx_runV (As := [.int p1, .int p2]) (rest := [.int 0, .ref (ad 31 0)]) ⟨hx, hb, hml, hown, hts⟩ (mtX6_refers l hlt z G ad σ ν ρ lo p1 p2 _ _ h) (cwV 2 hts gL_refers_X6_refers rfl rfl rfl (by decide +kernel) ⟨Nat.le_of_ble_eq_true rfl, Nat.le_of_ble_eq_true rfl⟩) ⟨Pcs.blind, hrc, fun U hU hw => ⟨rfl, Bc.of hE hz hW hS hU hw⟩⟩ rfl rfl hl.1 rfl (lv_room (Nat.le_of_ble_eq_true rfl)) dL_refers_5 ⟨Nat.le_of_ble_eq_true rfl, Nat.le_of_ble_eq_true rfl⟩) hS (fun _ _ h => h) (fun _ h => h) (fun _ _ h => h) (fun E ce q9 u9 t H1 locs1 ht _ hp hB _ _ hS1 hce hv hcl => ?_) (fun r9 u9 t H1 locs1 ht _ hp hB _ _ hS1 => ?_)
  · obtain ⟨E9, S9⟩ := u9
    obtain ⟨rfl, hB⟩ := hB
    obtain ⟨rfl, hxk, hP⟩ := hp
    have hW : WP z G ad (σ, ν, ρ, lo) H1 := by rw [← ht]; exact hB
    obtain ⟨i9, hi9, hi3, rfl⟩ := hxk
    rcases (show i9 = 0 ∨ i9 = 1 ∨ i9 = 2 by omega) with rfl | rfl | rfl
    · obtain rfl : IOB = E := Option.some.inj hi9
      refine vx_catch (name := IOB) hown [] ⟨0, 10, 13, 25⟩ [] htb (fun z9 hz9 => absurd hz9 List.not_mem_nil) rfl (by decide) (hts _ (List.mem_of_getElem? (i := 1) rfl)) (va_Nw.use rfl (hE.2.2.2.2.2.2.1 (IOB, IOB) (List.mem_of_getElem? (i := 4) rfl))) hce hv hcl ?_
      refine lv_astore (lv' := [(4, .ref q9), (0, .ref (ad 0 0)), (1, .int p1), (2, .int p2), (3, .ref (ad 31 0))]) hx hb dL_refers_13 hl (by decide) rfl (fun ls hl => ?_)
      refine lv_iconst (v := (1 : Int32)) hx hb dL_refers_15 (by decide) ?_
      exact W.iret (v := (1 : Int32)) hx hb hr (fun t ht _ => ⟨⟨_, ((σ, ν, ρ, lo), ad), rfl, ⟨by decide, σ, ν, lo, rfl, Xt.rf, fun q => absurd q (by decide), hP⟩, WP.at9 ht hW⟩, hS1.F ht⟩) hS1.2.2 dL_refers_16 (hlocks := hlocks)
    · cases hi9
    · cases hi9
  · obtain ⟨S9, ad9⟩ := u9
    obtain ⟨s9, n9, e9, hXt, hk, rfl, hP⟩ := hp
    cases e9
    have hW : WP z G ad9 (s9, n9, ρ, lo) H1 := by rw [← ht]; exact hB
    have e31 : ad9 31 0 = ad 31 0 := (hXt 31 0 (by decide) rfl).2
    rw [← e31]
    refine lv_i2l (v := r9.toInt64) hx hb dL_refers_8 rfl ?_
    refine r_last hx hb hE hW hS1 dL_refers_9 (fun H locs hW hS => ?_)
    refine lv_goto (tgt := 17) hx hb dL_refers_10 (by decide) ?_
    refine lv_iconst (v := (0 : Int32)) hx hb dL_refers_17 (by decide) ?_
    exact W.iret (v := (0 : Int32)) hx hb hr (fun t ht _ => ⟨⟨_, ((s9, n9, ρ, r9.toInt64), ad9), rfl, ⟨hk.symm, s9, n9, r9.toInt64, rfl, hXt, fun _ => rfl, hP⟩, WP.at9 ht hW⟩, hS.F ht⟩) hS.2.2 dL_refers_18 (hlocks := hlocks)

set_option maxHeartbeats 2000000 in
set_option maxRecDepth 100000 in
theorem mtL_state (l : Launch) (hlt : l.stackTraces = false) (z : Nat) (G : Gl) (ad : Nat → Nat → Nat) (σ : SG) (ν : NU) (ρ : RH) (lo : Int64) (p1 : Int32) (k r : Int32) (h : wpX6_state σ ν p1 (fun r9 => k = 0 ∧ r9 = r) (fun E => xk9 [IOB] E k)) : Met l yL_state wsL_state ({ frames := 8, cells := 1, slots := 6, locals := 124 } : Room) (Pcs z G ad (σ, ν, ρ, lo) [.ref (ad 0 0), .int p1, .ref (ad 31 0)]) (LQ z G ad ν ρ k r (fun t u => t = σ ∧ u = ν)) 1 6 (Az z) := by
  refine met_ofWH (cc := cL_state) (maxL := 4) (ret := some .int) (hh := [(0, 9, 12, 25)]) (by decide) rfl ?_
  intro p e s m args below meth c s₁ BB hml hv
  obtain ⟨rfl, hz, hW, hE⟩ := hv
  have hx := BB.exec
  have hb := BB.bytes
  have hr := BB.returns
  have hts := atoms_spec (ws := wsL_state) BB.pre
  have hown : s.vm.findClass RL = some m.cls := findClass_of_methodNamed BB.named
  have hlocks := BB.notSynchronized
  have htb : c.exceptionTable.toList = [⟨0, 9, 12, 25⟩] := vx_table (x := yL_state) BB (hts _ List.mem_cons_self)
  have hS : va_S (Az z) s.heap s.heap [] := va_S.rf
  have hl := lv_entry [.ref (ad 0 0), .int p1, .ref (ad 31 0)] (n := 4) (Nat.le_of_ble_eq_true rfl)
  rw [lg_entry_eq]
  generalize (lg_sl [.ref (ad 0 0), .int p1, .ref (ad 31 0)] ++ List.replicate (4 - (lg_sl [.ref (ad 0 0), .int p1, .ref (ad 31 0)]).length) Slot.unset).toArray = ls at hl ⊢
  have hl : lv_has ls 4 [(0, .ref (ad 0 0)), (1, .int p1), (2, .ref (ad 31 0))] := hl
  refine lv_aload_n hx hb dL_state_0 rfl (lv_at hl 2 rfl) ?_
  refine lv_iconst (v := (0 : Int32)) hx hb dL_state_1 (by decide) ?_
  refine lv_aload_n hx hb dL_state_2 rfl (lv_at hl 0 rfl) ?_
  refine lv_iload_n hx hb dL_state_3 rfl (lv_at hl 1 rfl) ?_
  have hrc := r_recv hE hW 0 0 rfl (C := RX6) (ci := 9) rfl rfl
  refine vx_calli (vx_runV (As := [.int p1]) (rest := [.int 0, .ref (ad 31 0)]) ⟨hx, hb, hml, hown, hts⟩ (mtX6_state l hlt z G ad σ ν ρ lo p1 _ _ h) (cwV 1 hts gL_state_X6_state rfl rfl rfl (by decide +kernel) ⟨Nat.le_of_ble_eq_true rfl, Nat.le_of_ble_eq_true rfl⟩) ⟨Pcs.blind, hrc, fun U hU hw => ⟨rfl, Bc.of hE hz hW hS hU hw⟩⟩ rfl rfl hl.1 rfl (lv_room (Nat.le_of_ble_eq_true rfl)) dL_state_4 ⟨Nat.le_of_ble_eq_true rfl, Nat.le_of_ble_eq_true rfl⟩) hS (fun _ _ h => h) (fun _ h => h) (fun _ _ h => h) (fun E ce q9 u9 t H1 locs1 ht _ hp hB _ _ hS1 hce hv hcl => ?_) (fun r9 u9 t H1 locs1 ht _ hp hB _ _ hS1 => ?_)
  · obtain ⟨E9, S9⟩ := u9
    obtain ⟨rfl, hB⟩ := hB
    obtain ⟨rfl, hxk⟩ := hp
    have hW : WP z G ad (σ, ν, ρ, lo) H1 := by rw [← ht]; exact hB
    obtain ⟨i9, hi9, hi3, rfl⟩ := hxk
    rcases (show i9 = 0 ∨ i9 = 1 ∨ i9 = 2 by omega) with rfl | rfl | rfl
    · obtain rfl : IOB = E := Option.some.inj hi9
      refine vx_catch (name := IOB) hown [] ⟨0, 9, 12, 25⟩ [] htb (fun z9 hz9 => absurd hz9 List.not_mem_nil) rfl (by decide) (hts _ (List.mem_of_getElem? (i := 1) rfl)) (va_Nw.use rfl (hE.2.2.2.2.2.2.1 (IOB, IOB) (List.mem_of_getElem? (i := 4) rfl))) hce hv hcl ?_
      refine lv_astore_n (lv' := [(3, .ref q9), (0, .ref (ad 0 0)), (1, .int p1), (2, .ref (ad 31 0))]) hx hb dL_state_12 rfl hl (by decide) rfl (fun ls hl => ?_)
      refine lv_iconst (v := (1 : Int32)) hx hb dL_state_13 (by decide) ?_
      exact W.iret (v := (1 : Int32)) hx hb hr (fun t ht _ => ⟨⟨_, ((σ, ν, ρ, lo), ad), rfl, ⟨by decide, σ, ν, lo, rfl, Xt.rf, fun q => absurd q (by decide), rfl, rfl⟩, WP.at9 ht hW⟩, hS1.F ht⟩) hS1.2.2 dL_state_14 (hlocks := hlocks)
    · cases hi9
    · cases hi9
  · obtain ⟨rfl, hk, rfl⟩ := hp
    have hW : WP z G ad (σ, ν, ρ, lo) H1 := by rw [← ht]; exact hB
    refine lv_i2l (v := r9.toInt64) hx hb dL_state_7 rfl ?_
    refine r_last hx hb hE hW hS1 dL_state_8 (fun H locs hW hS => ?_)
    refine lv_goto (tgt := 15) hx hb dL_state_9 (by decide) ?_
    refine lv_iconst (v := (0 : Int32)) hx hb dL_state_15 (by decide) ?_
    exact W.iret (v := (0 : Int32)) hx hb hr (fun t ht _ => ⟨⟨_, ((σ, ν, ρ, r9.toInt64), ad), rfl, ⟨hk.symm, σ, ν, r9.toInt64, rfl, Xt.rf, fun _ => rfl, rfl, rfl⟩, WP.at9 ht hW⟩, hS.F ht⟩) hS.2.2 dL_state_16 (hlocks := hlocks)

set_option maxHeartbeats 2000000 in
set_option maxRecDepth 100000 in
theorem mtL_commences (l : Launch) (hlt : l.stackTraces = false) (z : Nat) (G : Gl) (ad : Nat → Nat → Nat) (σ : SG) (ν : NU) (ρ : RH) (lo : Int64) (p1 : Int32) (k r : Int32) (h : wpX6_commences σ ν p1 (fun r9 => k = 0 ∧ r9 = r) (fun E => xk9 [IOB] E k)) : Met l yL_commences wsL_commences ({ frames := 8, cells := 1, slots := 6, locals := 124 } : Room) (Pcs z G ad (σ, ν, ρ, lo) [.ref (ad 0 0), .int p1, .ref (ad 31 0)]) (LQ z G ad ν ρ k r (fun t u => t = σ ∧ u = ν)) 1 6 (Az z) := by
  refine met_ofWH (cc := cL_commences) (maxL := 4) (ret := some .int) (hh := [(0, 9, 12, 25)]) (by decide) rfl ?_
  intro p e s m args below meth c s₁ BB hml hv
  obtain ⟨rfl, hz, hW, hE⟩ := hv
  have hx := BB.exec
  have hb := BB.bytes
  have hr := BB.returns
  have hts := atoms_spec (ws := wsL_commences) BB.pre
  have hown : s.vm.findClass RL = some m.cls := findClass_of_methodNamed BB.named
  have hlocks := BB.notSynchronized
  have htb : c.exceptionTable.toList = [⟨0, 9, 12, 25⟩] := vx_table (x := yL_commences) BB (hts _ List.mem_cons_self)
  have hS : va_S (Az z) s.heap s.heap [] := va_S.rf
  have hl := lv_entry [.ref (ad 0 0), .int p1, .ref (ad 31 0)] (n := 4) (Nat.le_of_ble_eq_true rfl)
  rw [lg_entry_eq]
  generalize (lg_sl [.ref (ad 0 0), .int p1, .ref (ad 31 0)] ++ List.replicate (4 - (lg_sl [.ref (ad 0 0), .int p1, .ref (ad 31 0)]).length) Slot.unset).toArray = ls at hl ⊢
  have hl : lv_has ls 4 [(0, .ref (ad 0 0)), (1, .int p1), (2, .ref (ad 31 0))] := hl
  refine lv_aload_n hx hb dL_commences_0 rfl (lv_at hl 2 rfl) ?_
  refine lv_iconst (v := (0 : Int32)) hx hb dL_commences_1 (by decide) ?_
  refine lv_aload_n hx hb dL_commences_2 rfl (lv_at hl 0 rfl) ?_
  refine lv_iload_n hx hb dL_commences_3 rfl (lv_at hl 1 rfl) ?_
  have hrc := r_recv hE hW 0 0 rfl (C := RX6) (ci := 9) rfl rfl
  refine vx_calli (vx_runV (As := [.int p1]) (rest := [.int 0, .ref (ad 31 0)]) ⟨hx, hb, hml, hown, hts⟩ (mtX6_commences l hlt z G ad σ ν ρ lo p1 _ _ h) (cwV 1 hts gL_commences_X6_commences rfl rfl rfl (by decide +kernel) ⟨Nat.le_of_ble_eq_true rfl, Nat.le_of_ble_eq_true rfl⟩) ⟨Pcs.blind, hrc, fun U hU hw => ⟨rfl, Bc.of hE hz hW hS hU hw⟩⟩ rfl rfl hl.1 rfl (lv_room (Nat.le_of_ble_eq_true rfl)) dL_commences_4 ⟨Nat.le_of_ble_eq_true rfl, Nat.le_of_ble_eq_true rfl⟩) hS (fun _ _ h => h) (fun _ h => h) (fun _ _ h => h) (fun E ce q9 u9 t H1 locs1 ht _ hp hB _ _ hS1 hce hv hcl => ?_) (fun r9 u9 t H1 locs1 ht _ hp hB _ _ hS1 => ?_)
  · obtain ⟨E9, S9⟩ := u9
    obtain ⟨rfl, hB⟩ := hB
    obtain ⟨rfl, hxk⟩ := hp
    have hW : WP z G ad (σ, ν, ρ, lo) H1 := by rw [← ht]; exact hB
    obtain ⟨i9, hi9, hi3, rfl⟩ := hxk
    rcases (show i9 = 0 ∨ i9 = 1 ∨ i9 = 2 by omega) with rfl | rfl | rfl
    · obtain rfl : IOB = E := Option.some.inj hi9
      refine vx_catch (name := IOB) hown [] ⟨0, 9, 12, 25⟩ [] htb (fun z9 hz9 => absurd hz9 List.not_mem_nil) rfl (by decide) (hts _ (List.mem_of_getElem? (i := 1) rfl)) (va_Nw.use rfl (hE.2.2.2.2.2.2.1 (IOB, IOB) (List.mem_of_getElem? (i := 4) rfl))) hce hv hcl ?_
      refine lv_astore_n (lv' := [(3, .ref q9), (0, .ref (ad 0 0)), (1, .int p1), (2, .ref (ad 31 0))]) hx hb dL_commences_12 rfl hl (by decide) rfl (fun ls hl => ?_)
      refine lv_iconst (v := (1 : Int32)) hx hb dL_commences_13 (by decide) ?_
      exact W.iret (v := (1 : Int32)) hx hb hr (fun t ht _ => ⟨⟨_, ((σ, ν, ρ, lo), ad), rfl, ⟨by decide, σ, ν, lo, rfl, Xt.rf, fun q => absurd q (by decide), rfl, rfl⟩, WP.at9 ht hW⟩, hS1.F ht⟩) hS1.2.2 dL_commences_14 (hlocks := hlocks)
    · cases hi9
    · cases hi9
  · obtain ⟨rfl, hk, rfl⟩ := hp
    have hW : WP z G ad (σ, ν, ρ, lo) H1 := by rw [← ht]; exact hB
    refine lv_i2l (v := r9.toInt64) hx hb dL_commences_7 rfl ?_
    refine r_last hx hb hE hW hS1 dL_commences_8 (fun H locs hW hS => ?_)
    refine lv_goto (tgt := 15) hx hb dL_commences_9 (by decide) ?_
    refine lv_iconst (v := (0 : Int32)) hx hb dL_commences_15 (by decide) ?_
    exact W.iret (v := (0 : Int32)) hx hb hr (fun t ht _ => ⟨⟨_, ((σ, ν, ρ, r9.toInt64), ad), rfl, ⟨hk.symm, σ, ν, r9.toInt64, rfl, Xt.rf, fun _ => rfl, rfl, rfl⟩, WP.at9 ht hW⟩, hS.F ht⟩) hS.2.2 dL_commences_16 (hlocks := hlocks)

