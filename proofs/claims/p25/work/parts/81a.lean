/-! the law method by method: its walk. Written by wip/gen25/genlaw.py -/
set_option maxHeartbeats 4000000 in
set_option maxRecDepth 100000 in
theorem mtL_does_0 (l : Launch) (hlt : l.stackTraces = false) (z : Nat) (G : Gl) (ad : Nat → Nat → Nat) (σ : SG) (ν : NU) (ρ : RH) (lo : Int64) (p2 : Int32) (p3 : Int32) (p4 : Int32) (p5 : Int32) (post : Int32 → SG → Prop) (h : wpL_does_0 σ ν ρ p2 p3 p4 p5 post) : Met l yL_does wsL_does ({ frames := 7, cells := 1, slots := 6, locals := 103 } : Room) (Pcs z G ad (σ, ν, ρ, lo) [.ref (ad 0 0), .int ((0 : Int32)), .int p2, .int p3, .int p4, .int p5]) (Qis z G ad (fun r S1 => ∃ t : SG, S1 = (t, ν, ρ, lo) ∧ post r t)) 1 6 (Az z) := by
  refine met_ofWH (cc := cL_does) (maxL := 7) (ret := (some .int)) (hh := [(0, 232, 233, 65), (0, 232, 239, 67), (0, 232, 245, 69)]) (by decide) rfl ?_
  intro p e s m args below meth c s₁ B hml hv
  obtain ⟨rfl, hz, hW, hE⟩ := hv
  have hx := B.exec
  have hb := B.bytes
  have hr := B.returns
  have hts := atoms_spec (ws := wsL_does) B.pre
  have hown : s.vm.findClass RL = some m.cls := findClass_of_methodNamed B.named
  have hlocks := B.notSynchronized
  have htb : c.exceptionTable.toList = [⟨0, 232, 233, 65⟩, ⟨0, 232, 239, 67⟩, ⟨0, 232, 245, 69⟩] := vx_table (x := yL_does) B (hts _ List.mem_cons_self)
  have hS : va_S (Az z) s.heap s.heap [] := va_S.rf
  have hl := lv_entry [.ref (ad 0 0), .int ((0 : Int32)), .int p2, .int p3, .int p4, .int p5] (n := 7) (Nat.le_of_ble_eq_true rfl)
  rw [lg_entry_eq]
  generalize (lg_sl [.ref (ad 0 0), .int ((0 : Int32)), .int p2, .int p3, .int p4, .int p5] ++ List.replicate (7 - (lg_sl [.ref (ad 0 0), .int ((0 : Int32)), .int p2, .int p3, .int p4, .int p5]).length) Slot.unset).toArray = ls at hl ⊢
  have hl : lv_has ls 7 [(0, .ref (ad 0 0)), (1, .int ((0 : Int32))), (2, .int p2), (3, .int p3), (4, .int p4), (5, .int p5)] := hl
  unfold wpL_does_0 at h
  refine lv_iload_n hx hb dL_does_0 rfl (lv_at hl 1 rfl) ?_
  refine r_if_ne hx hb (show (0 : Int32).toInt = 0 by decide) (tgt := 12) dL_does_1 (by decide) (fun c1 => absurd (by decide) c1) (fun c1 => ?_)
  refine lv_aload_n hx hb dL_does_4 rfl (lv_at hl 0 rfl) ?_
  refine lv_iload_n hx hb dL_does_5 rfl (lv_at hl 2 rfl) ?_
  refine vx_calli (vx_runV (As := [.int p2]) (rest := []) ⟨hx, hb, hml, hown, hts⟩ (mtX6_pass l hlt z G ad σ ν ρ lo p2 _ _ h) (cwV 1 hts gL_does_X6_pass rfl rfl rfl (by decide +kernel) ⟨Nat.le_of_ble_eq_true rfl, Nat.le_of_ble_eq_true rfl⟩) ⟨Pcs.blind, (r_recv hE hW 0 0 rfl (ci := 9) rfl rfl), fun U hU hw => ⟨rfl, Bc.of hE hz hW hS hU hw⟩⟩ rfl rfl hl.1 rfl (lv_room (Nat.le_of_ble_eq_true rfl)) dL_does_6 ⟨by show _ ≤ 1; omega, by show _ ≤ 6; omega⟩) hS (fun _ _ h => h) (fun _ h => h) (fun _ _ h => h) (fun E ce q9 u9 t H1 locs1 ht _ hp hB _ _ hS1 hce hv hcl => ?_) (fun r2 u9 t H locs ht _ hp hB _ _ hS => ?_)
  · obtain ⟨E9, S9⟩ := u9
    obtain ⟨rfl, hB⟩ := hB
    obtain ⟨t9, rfl, hxk⟩ := hp
    have hW : WP z G ad (t9, ν, ρ, lo) H1 := by rw [← ht]; exact hB
    rcases hxk with ⟨rfl, h⟩ | ⟨rfl, h⟩ | ⟨rfl, h⟩
    · refine vx_catch (name := IOB) hown [] ⟨0, 232, 233, 65⟩ [⟨0, 232, 239, 67⟩, ⟨0, 232, 245, 69⟩] htb (fun z9 hz9 => absurd hz9 List.not_mem_nil) rfl (by decide) (hts _ (List.mem_of_getElem? (i := 1) rfl)) (va_Nw.use rfl (hE.2.2.2.2.2.2.1 (IOB, IOB) (List.mem_of_getElem? (i := 4) rfl))) hce hv hcl ?_
      refine lv_astore (lv' := [(6, .ref q9), (0, .ref (ad 0 0)), (1, .int ((0 : Int32))), (2, .int p2), (3, .int p3), (4, .int p4), (5, .int p5)]) hx hb dL_does_233 hl (by decide) rfl (fun ls hl => ?_)
      refine lv_sipush (v := (-1381 : Int32)) hx hb dL_does_235 (by decide) ?_
      refine W.widen (k := 1) (n := 6) (by omega) (by omega) ?_
      exact W.iret (v := (-1381 : Int32)) hx hb hr (fun t ht _ => ⟨⟨_, (t9, ν, ρ, lo), rfl, ⟨_, rfl, h⟩, WP.at9 ht hW⟩, hS1.F ht⟩) hS1.2.2 dL_does_238 (hlocks := hlocks)
    · refine vx_catch (name := IAE) hown [⟨0, 232, 233, 65⟩] ⟨0, 232, 239, 67⟩ [⟨0, 232, 245, 69⟩] htb (fun z9 hz9 => by rw [List.mem_singleton] at hz9; subst hz9; exact Or.inr ⟨by decide, IOB, hts _ (List.mem_of_getElem? (i := 1) rfl), hE.2.2.2.2.2.2.2.1 (IAE, IOB) (List.mem_of_getElem? (i := 1) rfl)⟩) rfl (by decide) (hts _ (List.mem_of_getElem? (i := 2) rfl)) (va_Nw.use rfl (hE.2.2.2.2.2.2.1 (IAE, IAE) (List.mem_of_getElem? (i := 2) rfl))) hce hv hcl ?_
      refine lv_astore (lv' := [(6, .ref q9), (0, .ref (ad 0 0)), (1, .int ((0 : Int32))), (2, .int p2), (3, .int p3), (4, .int p4), (5, .int p5)]) hx hb dL_does_239 hl (by decide) rfl (fun ls hl => ?_)
      refine lv_sipush (v := (-1382 : Int32)) hx hb dL_does_241 (by decide) ?_
      refine W.widen (k := 1) (n := 6) (by omega) (by omega) ?_
      exact W.iret (v := (-1382 : Int32)) hx hb hr (fun t ht _ => ⟨⟨_, (t9, ν, ρ, lo), rfl, ⟨_, rfl, h⟩, WP.at9 ht hW⟩, hS1.F ht⟩) hS1.2.2 dL_does_244 (hlocks := hlocks)
    · refine vx_catch (name := ISE) hown [⟨0, 232, 233, 65⟩, ⟨0, 232, 239, 67⟩] ⟨0, 232, 245, 69⟩ [] htb (fun z9 hz9 => (List.mem_cons.mp hz9).elim (fun e9 => by subst e9; exact Or.inr ⟨by decide, IOB, hts _ (List.mem_of_getElem? (i := 1) rfl), hE.2.2.2.2.2.2.2.1 (ISE, IOB) (List.mem_of_getElem? (i := 3) rfl)⟩) (fun h9 => by rw [List.mem_singleton] at h9; subst h9; exact Or.inr ⟨by decide, IAE, hts _ (List.mem_of_getElem? (i := 2) rfl), hE.2.2.2.2.2.2.2.1 (ISE, IAE) (List.mem_of_getElem? (i := 2) rfl)⟩)) rfl (by decide) (hts _ (List.mem_of_getElem? (i := 3) rfl)) (va_Nw.use rfl (hE.2.2.2.2.2.2.1 (ISE, ISE) (List.mem_of_getElem? (i := 3) rfl))) hce hv hcl ?_
      refine lv_astore (lv' := [(6, .ref q9), (0, .ref (ad 0 0)), (1, .int ((0 : Int32))), (2, .int p2), (3, .int p3), (4, .int p4), (5, .int p5)]) hx hb dL_does_245 hl (by decide) rfl (fun ls hl => ?_)
      refine lv_sipush (v := (-1383 : Int32)) hx hb dL_does_247 (by decide) ?_
      refine W.widen (k := 1) (n := 6) (by omega) (by omega) ?_
      exact W.iret (v := (-1383 : Int32)) hx hb hr (fun t ht _ => ⟨⟨_, (t9, ν, ρ, lo), rfl, ⟨_, rfl, h⟩, WP.at9 ht hW⟩, hS1.F ht⟩) hS1.2.2 dL_does_250 (hlocks := hlocks)
  · obtain ⟨t3, rfl, h⟩ := hp
    have hW : WP z G ad (t3, ν, ρ, lo) H := by rw [← ht]; exact hB
    refine lv_goto (tgt := 232) hx hb dL_does_9 (by decide) ?_
    refine W.widen (k := 1) (n := 6) (by omega) (by omega) ?_
    exact W.iret (v := r2) hx hb hr (fun t ht _ => ⟨⟨_, (t3, ν, ρ, lo), rfl, ⟨_, rfl, h⟩, WP.at9 ht hW⟩, hS.F ht⟩) hS.2.2 dL_does_232 (hlocks := hlocks)
set_option maxHeartbeats 4000000 in
set_option maxRecDepth 100000 in
theorem mtL_does_1 (l : Launch) (hlt : l.stackTraces = false) (z : Nat) (G : Gl) (ad : Nat → Nat → Nat) (σ : SG) (ν : NU) (ρ : RH) (lo : Int64) (p2 : Int32) (p3 : Int32) (p4 : Int32) (p5 : Int32) (post : Int32 → SG → Prop) (h : wpL_does_1 σ ν ρ p2 p3 p4 p5 post) : Met l yL_does wsL_does ({ frames := 7, cells := 1, slots := 6, locals := 102 } : Room) (Pcs z G ad (σ, ν, ρ, lo) [.ref (ad 0 0), .int ((1 : Int32)), .int p2, .int p3, .int p4, .int p5]) (Qis z G ad (fun r S1 => ∃ t : SG, S1 = (t, ν, ρ, lo) ∧ post r t)) 1 6 (Az z) := by
  refine met_ofWH (cc := cL_does) (maxL := 7) (ret := (some .int)) (hh := [(0, 232, 233, 65), (0, 232, 239, 67), (0, 232, 245, 69)]) (by decide) rfl ?_
  intro p e s m args below meth c s₁ B hml hv
  obtain ⟨rfl, hz, hW, hE⟩ := hv
  have hx := B.exec
  have hb := B.bytes
  have hr := B.returns
  have hts := atoms_spec (ws := wsL_does) B.pre
  have hown : s.vm.findClass RL = some m.cls := findClass_of_methodNamed B.named
  have hlocks := B.notSynchronized
  have htb : c.exceptionTable.toList = [⟨0, 232, 233, 65⟩, ⟨0, 232, 239, 67⟩, ⟨0, 232, 245, 69⟩] := vx_table (x := yL_does) B (hts _ List.mem_cons_self)
  have hS : va_S (Az z) s.heap s.heap [] := va_S.rf
  have hl := lv_entry [.ref (ad 0 0), .int ((1 : Int32)), .int p2, .int p3, .int p4, .int p5] (n := 7) (Nat.le_of_ble_eq_true rfl)
  rw [lg_entry_eq]
  generalize (lg_sl [.ref (ad 0 0), .int ((1 : Int32)), .int p2, .int p3, .int p4, .int p5] ++ List.replicate (7 - (lg_sl [.ref (ad 0 0), .int ((1 : Int32)), .int p2, .int p3, .int p4, .int p5]).length) Slot.unset).toArray = ls at hl ⊢
  have hl : lv_has ls 7 [(0, .ref (ad 0 0)), (1, .int ((1 : Int32))), (2, .int p2), (3, .int p3), (4, .int p4), (5, .int p5)] := hl
  unfold wpL_does_1 at h
  refine lv_iload_n hx hb dL_does_0 rfl (lv_at hl 1 rfl) ?_
  refine r_if_ne hx hb (show (1 : Int32).toInt = 1 by decide) (tgt := 12) dL_does_1 (by decide) (fun c1 => ?_) (fun c1 => absurd c1 (by decide))
  refine lv_iload_n hx hb dL_does_12 rfl (lv_at hl 1 rfl) ?_
  refine lv_iconst (v := (1 : Int32)) hx hb dL_does_13 (by decide) ?_
  refine r_icmp_ne hx hb (show (1 : Int32).toInt = 1 by decide) (show (1 : Int32).toInt = 1 by decide) (tgt := 24) dL_does_14 (by decide) (fun c2 => absurd (by decide) c2) (fun c2 => ?_)
  refine lv_aload_n hx hb dL_does_17 rfl (lv_at hl 0 rfl) ?_
  refine vx_calli (vx_runV (As := []) (rest := []) ⟨hx, hb, hml, hown, hts⟩ (mtX6_act l hlt z G ad σ ν ρ lo  _ _ h) (cwV 0 hts gL_does_X6_act rfl rfl rfl (by decide +kernel) ⟨Nat.le_of_ble_eq_true rfl, Nat.le_of_ble_eq_true rfl⟩) ⟨Pcs.blind, (r_recv hE hW 0 0 rfl (ci := 9) rfl rfl), fun U hU hw => ⟨rfl, Bc.of hE hz hW hS hU hw⟩⟩ rfl rfl hl.1 rfl (lv_room (Nat.le_of_ble_eq_true rfl)) dL_does_18 ⟨by show _ ≤ 1; omega, by show _ ≤ 6; omega⟩) hS (fun _ _ h => h) (fun _ h => h) (fun _ _ h => h) (fun E ce q9 u9 t H1 locs1 ht _ hp hB _ _ hS1 hce hv hcl => ?_) (fun r3 u9 t H locs ht _ hp hB _ _ hS => ?_)
  · obtain ⟨E9, S9⟩ := u9
    obtain ⟨rfl, hB⟩ := hB
    obtain ⟨t9, rfl, hxk⟩ := hp
    have hW : WP z G ad (t9, ν, ρ, lo) H1 := by rw [← ht]; exact hB
    rcases hxk with ⟨rfl, h⟩ | ⟨rfl, h⟩ | ⟨rfl, h⟩
    · refine vx_catch (name := IOB) hown [] ⟨0, 232, 233, 65⟩ [⟨0, 232, 239, 67⟩, ⟨0, 232, 245, 69⟩] htb (fun z9 hz9 => absurd hz9 List.not_mem_nil) rfl (by decide) (hts _ (List.mem_of_getElem? (i := 1) rfl)) (va_Nw.use rfl (hE.2.2.2.2.2.2.1 (IOB, IOB) (List.mem_of_getElem? (i := 4) rfl))) hce hv hcl ?_
      refine lv_astore (lv' := [(6, .ref q9), (0, .ref (ad 0 0)), (1, .int ((1 : Int32))), (2, .int p2), (3, .int p3), (4, .int p4), (5, .int p5)]) hx hb dL_does_233 hl (by decide) rfl (fun ls hl => ?_)
      refine lv_sipush (v := (-1381 : Int32)) hx hb dL_does_235 (by decide) ?_
      refine W.widen (k := 1) (n := 6) (by omega) (by omega) ?_
      exact W.iret (v := (-1381 : Int32)) hx hb hr (fun t ht _ => ⟨⟨_, (t9, ν, ρ, lo), rfl, ⟨_, rfl, h⟩, WP.at9 ht hW⟩, hS1.F ht⟩) hS1.2.2 dL_does_238 (hlocks := hlocks)
    · refine vx_catch (name := IAE) hown [⟨0, 232, 233, 65⟩] ⟨0, 232, 239, 67⟩ [⟨0, 232, 245, 69⟩] htb (fun z9 hz9 => by rw [List.mem_singleton] at hz9; subst hz9; exact Or.inr ⟨by decide, IOB, hts _ (List.mem_of_getElem? (i := 1) rfl), hE.2.2.2.2.2.2.2.1 (IAE, IOB) (List.mem_of_getElem? (i := 1) rfl)⟩) rfl (by decide) (hts _ (List.mem_of_getElem? (i := 2) rfl)) (va_Nw.use rfl (hE.2.2.2.2.2.2.1 (IAE, IAE) (List.mem_of_getElem? (i := 2) rfl))) hce hv hcl ?_
      refine lv_astore (lv' := [(6, .ref q9), (0, .ref (ad 0 0)), (1, .int ((1 : Int32))), (2, .int p2), (3, .int p3), (4, .int p4), (5, .int p5)]) hx hb dL_does_239 hl (by decide) rfl (fun ls hl => ?_)
      refine lv_sipush (v := (-1382 : Int32)) hx hb dL_does_241 (by decide) ?_
      refine W.widen (k := 1) (n := 6) (by omega) (by omega) ?_
      exact W.iret (v := (-1382 : Int32)) hx hb hr (fun t ht _ => ⟨⟨_, (t9, ν, ρ, lo), rfl, ⟨_, rfl, h⟩, WP.at9 ht hW⟩, hS1.F ht⟩) hS1.2.2 dL_does_244 (hlocks := hlocks)
    · refine vx_catch (name := ISE) hown [⟨0, 232, 233, 65⟩, ⟨0, 232, 239, 67⟩] ⟨0, 232, 245, 69⟩ [] htb (fun z9 hz9 => (List.mem_cons.mp hz9).elim (fun e9 => by subst e9; exact Or.inr ⟨by decide, IOB, hts _ (List.mem_of_getElem? (i := 1) rfl), hE.2.2.2.2.2.2.2.1 (ISE, IOB) (List.mem_of_getElem? (i := 3) rfl)⟩) (fun h9 => by rw [List.mem_singleton] at h9; subst h9; exact Or.inr ⟨by decide, IAE, hts _ (List.mem_of_getElem? (i := 2) rfl), hE.2.2.2.2.2.2.2.1 (ISE, IAE) (List.mem_of_getElem? (i := 2) rfl)⟩)) rfl (by decide) (hts _ (List.mem_of_getElem? (i := 3) rfl)) (va_Nw.use rfl (hE.2.2.2.2.2.2.1 (ISE, ISE) (List.mem_of_getElem? (i := 3) rfl))) hce hv hcl ?_
      refine lv_astore (lv' := [(6, .ref q9), (0, .ref (ad 0 0)), (1, .int ((1 : Int32))), (2, .int p2), (3, .int p3), (4, .int p4), (5, .int p5)]) hx hb dL_does_245 hl (by decide) rfl (fun ls hl => ?_)
      refine lv_sipush (v := (-1383 : Int32)) hx hb dL_does_247 (by decide) ?_
      refine W.widen (k := 1) (n := 6) (by omega) (by omega) ?_
      exact W.iret (v := (-1383 : Int32)) hx hb hr (fun t ht _ => ⟨⟨_, (t9, ν, ρ, lo), rfl, ⟨_, rfl, h⟩, WP.at9 ht hW⟩, hS1.F ht⟩) hS1.2.2 dL_does_250 (hlocks := hlocks)
  · obtain ⟨t4, rfl, h⟩ := hp
    have hW : WP z G ad (t4, ν, ρ, lo) H := by rw [← ht]; exact hB
    refine lv_goto (tgt := 232) hx hb dL_does_21 (by decide) ?_
    refine W.widen (k := 1) (n := 6) (by omega) (by omega) ?_
    exact W.iret (v := r3) hx hb hr (fun t ht _ => ⟨⟨_, (t4, ν, ρ, lo), rfl, ⟨_, rfl, h⟩, WP.at9 ht hW⟩, hS.F ht⟩) hS.2.2 dL_does_232 (hlocks := hlocks)
set_option maxHeartbeats 4000000 in
set_option maxRecDepth 100000 in
theorem mtL_does_2 (l : Launch) (hlt : l.stackTraces = false) (z : Nat) (G : Gl) (ad : Nat → Nat → Nat) (σ : SG) (ν : NU) (ρ : RH) (lo : Int64) (p2 : Int32) (p3 : Int32) (p4 : Int32) (p5 : Int32) (post : Int32 → SG → Prop) (h : wpL_does_2 σ ν ρ p2 p3 p4 p5 post) : Met l yL_does wsL_does ({ frames := 7, cells := 1, slots := 6, locals := 105 } : Room) (Pcs z G ad (σ, ν, ρ, lo) [.ref (ad 0 0), .int ((2 : Int32)), .int p2, .int p3, .int p4, .int p5]) (Qis z G ad (fun r S1 => ∃ t : SG, S1 = (t, ν, ρ, lo) ∧ post r t)) 1 6 (Az z) := by
  refine met_ofWH (cc := cL_does) (maxL := 7) (ret := (some .int)) (hh := [(0, 232, 233, 65), (0, 232, 239, 67), (0, 232, 245, 69)]) (by decide) rfl ?_
  intro p e s m args below meth c s₁ B hml hv
  obtain ⟨rfl, hz, hW, hE⟩ := hv
  have hx := B.exec
  have hb := B.bytes
  have hr := B.returns
  have hts := atoms_spec (ws := wsL_does) B.pre
  have hown : s.vm.findClass RL = some m.cls := findClass_of_methodNamed B.named
  have hlocks := B.notSynchronized
  have htb : c.exceptionTable.toList = [⟨0, 232, 233, 65⟩, ⟨0, 232, 239, 67⟩, ⟨0, 232, 245, 69⟩] := vx_table (x := yL_does) B (hts _ List.mem_cons_self)
  have hS : va_S (Az z) s.heap s.heap [] := va_S.rf
  have hl := lv_entry [.ref (ad 0 0), .int ((2 : Int32)), .int p2, .int p3, .int p4, .int p5] (n := 7) (Nat.le_of_ble_eq_true rfl)
  rw [lg_entry_eq]
  generalize (lg_sl [.ref (ad 0 0), .int ((2 : Int32)), .int p2, .int p3, .int p4, .int p5] ++ List.replicate (7 - (lg_sl [.ref (ad 0 0), .int ((2 : Int32)), .int p2, .int p3, .int p4, .int p5]).length) Slot.unset).toArray = ls at hl ⊢
  have hl : lv_has ls 7 [(0, .ref (ad 0 0)), (1, .int ((2 : Int32))), (2, .int p2), (3, .int p3), (4, .int p4), (5, .int p5)] := hl
  unfold wpL_does_2 at h
  refine lv_iload_n hx hb dL_does_0 rfl (lv_at hl 1 rfl) ?_
  refine r_if_ne hx hb (show (2 : Int32).toInt = 2 by decide) (tgt := 12) dL_does_1 (by decide) (fun c1 => ?_) (fun c1 => absurd c1 (by decide))
  refine lv_iload_n hx hb dL_does_12 rfl (lv_at hl 1 rfl) ?_
  refine lv_iconst (v := (1 : Int32)) hx hb dL_does_13 (by decide) ?_
  refine r_icmp_ne hx hb (show (2 : Int32).toInt = 2 by decide) (show (1 : Int32).toInt = 1 by decide) (tgt := 24) dL_does_14 (by decide) (fun c2 => ?_) (fun c2 => absurd c2 (by decide))
  refine lv_iload_n hx hb dL_does_24 rfl (lv_at hl 1 rfl) ?_
  refine lv_iconst (v := (2 : Int32)) hx hb dL_does_25 (by decide) ?_
  refine r_icmp_ne hx hb (show (2 : Int32).toInt = 2 by decide) (show (2 : Int32).toInt = 2 by decide) (tgt := 47) dL_does_26 (by decide) (fun c3 => absurd (by decide) c3) (fun c3 => ?_)
  refine lv_aload_n hx hb dL_does_29 rfl (lv_at hl 0 rfl) ?_
  refine lv_iload_n hx hb dL_does_30 rfl (lv_at hl 2 rfl) ?_
  refine lv_iload_n hx hb dL_does_31 rfl (lv_at hl 3 rfl) ?_
  refine lv_iconst (v := (1 : Int32)) hx hb dL_does_32 (by decide) ?_
  refine r_icmp_ne hx hb rfl (show (1 : Int32).toInt = 1 by decide) (tgt := 40) dL_does_33 (by decide) (fun c4 => ?_) (fun c4 => ?_)
  · have h := ite_f c4 h
    refine lv_iconst (v := (0 : Int32)) hx hb dL_does_40 (by decide) ?_
    refine vx_calli (vx_runV (As := [.int p2, .int ((0 : Int32))]) (rest := []) ⟨hx, hb, hml, hown, hts⟩ (mtX6_word l hlt z G ad σ ν ρ lo p2 ((0 : Int32)) _ _ h) (cwV 2 hts gL_does_X6_word rfl rfl rfl (by decide +kernel) ⟨Nat.le_of_ble_eq_true rfl, Nat.le_of_ble_eq_true rfl⟩) ⟨Pcs.blind, (r_recv hE hW 0 0 rfl (ci := 9) rfl rfl), fun U hU hw => ⟨rfl, Bc.of hE hz hW hS hU hw⟩⟩ rfl rfl hl.1 rfl (lv_room (Nat.le_of_ble_eq_true rfl)) dL_does_41 ⟨by show _ ≤ 1; omega, by show _ ≤ 6; omega⟩) hS (fun _ _ h => h) (fun _ h => h) (fun _ _ h => h) (fun E ce q9 u9 t H1 locs1 ht _ hp hB _ _ hS1 hce hv hcl => ?_) (fun r5 u9 t H locs ht _ hp hB _ _ hS => ?_)
    · obtain ⟨E9, S9⟩ := u9
      obtain ⟨rfl, hB⟩ := hB
      obtain ⟨t9, rfl, hxk⟩ := hp
      have hW : WP z G ad (t9, ν, ρ, lo) H1 := by rw [← ht]; exact hB
      rcases hxk with ⟨rfl, h⟩ | ⟨rfl, h⟩ | ⟨rfl, h⟩
      · refine vx_catch (name := IOB) hown [] ⟨0, 232, 233, 65⟩ [⟨0, 232, 239, 67⟩, ⟨0, 232, 245, 69⟩] htb (fun z9 hz9 => absurd hz9 List.not_mem_nil) rfl (by decide) (hts _ (List.mem_of_getElem? (i := 1) rfl)) (va_Nw.use rfl (hE.2.2.2.2.2.2.1 (IOB, IOB) (List.mem_of_getElem? (i := 4) rfl))) hce hv hcl ?_
        refine lv_astore (lv' := [(6, .ref q9), (0, .ref (ad 0 0)), (1, .int ((2 : Int32))), (2, .int p2), (3, .int p3), (4, .int p4), (5, .int p5)]) hx hb dL_does_233 hl (by decide) rfl (fun ls hl => ?_)
        refine lv_sipush (v := (-1381 : Int32)) hx hb dL_does_235 (by decide) ?_
        refine W.widen (k := 1) (n := 6) (by omega) (by omega) ?_
        exact W.iret (v := (-1381 : Int32)) hx hb hr (fun t ht _ => ⟨⟨_, (t9, ν, ρ, lo), rfl, ⟨_, rfl, h⟩, WP.at9 ht hW⟩, hS1.F ht⟩) hS1.2.2 dL_does_238 (hlocks := hlocks)
      · refine vx_catch (name := IAE) hown [⟨0, 232, 233, 65⟩] ⟨0, 232, 239, 67⟩ [⟨0, 232, 245, 69⟩] htb (fun z9 hz9 => by rw [List.mem_singleton] at hz9; subst hz9; exact Or.inr ⟨by decide, IOB, hts _ (List.mem_of_getElem? (i := 1) rfl), hE.2.2.2.2.2.2.2.1 (IAE, IOB) (List.mem_of_getElem? (i := 1) rfl)⟩) rfl (by decide) (hts _ (List.mem_of_getElem? (i := 2) rfl)) (va_Nw.use rfl (hE.2.2.2.2.2.2.1 (IAE, IAE) (List.mem_of_getElem? (i := 2) rfl))) hce hv hcl ?_
        refine lv_astore (lv' := [(6, .ref q9), (0, .ref (ad 0 0)), (1, .int ((2 : Int32))), (2, .int p2), (3, .int p3), (4, .int p4), (5, .int p5)]) hx hb dL_does_239 hl (by decide) rfl (fun ls hl => ?_)
        refine lv_sipush (v := (-1382 : Int32)) hx hb dL_does_241 (by decide) ?_
        refine W.widen (k := 1) (n := 6) (by omega) (by omega) ?_
        exact W.iret (v := (-1382 : Int32)) hx hb hr (fun t ht _ => ⟨⟨_, (t9, ν, ρ, lo), rfl, ⟨_, rfl, h⟩, WP.at9 ht hW⟩, hS1.F ht⟩) hS1.2.2 dL_does_244 (hlocks := hlocks)
      · refine vx_catch (name := ISE) hown [⟨0, 232, 233, 65⟩, ⟨0, 232, 239, 67⟩] ⟨0, 232, 245, 69⟩ [] htb (fun z9 hz9 => (List.mem_cons.mp hz9).elim (fun e9 => by subst e9; exact Or.inr ⟨by decide, IOB, hts _ (List.mem_of_getElem? (i := 1) rfl), hE.2.2.2.2.2.2.2.1 (ISE, IOB) (List.mem_of_getElem? (i := 3) rfl)⟩) (fun h9 => by rw [List.mem_singleton] at h9; subst h9; exact Or.inr ⟨by decide, IAE, hts _ (List.mem_of_getElem? (i := 2) rfl), hE.2.2.2.2.2.2.2.1 (ISE, IAE) (List.mem_of_getElem? (i := 2) rfl)⟩)) rfl (by decide) (hts _ (List.mem_of_getElem? (i := 3) rfl)) (va_Nw.use rfl (hE.2.2.2.2.2.2.1 (ISE, ISE) (List.mem_of_getElem? (i := 3) rfl))) hce hv hcl ?_
        refine lv_astore (lv' := [(6, .ref q9), (0, .ref (ad 0 0)), (1, .int ((2 : Int32))), (2, .int p2), (3, .int p3), (4, .int p4), (5, .int p5)]) hx hb dL_does_245 hl (by decide) rfl (fun ls hl => ?_)
        refine lv_sipush (v := (-1383 : Int32)) hx hb dL_does_247 (by decide) ?_
        refine W.widen (k := 1) (n := 6) (by omega) (by omega) ?_
        exact W.iret (v := (-1383 : Int32)) hx hb hr (fun t ht _ => ⟨⟨_, (t9, ν, ρ, lo), rfl, ⟨_, rfl, h⟩, WP.at9 ht hW⟩, hS1.F ht⟩) hS1.2.2 dL_does_250 (hlocks := hlocks)
    · obtain ⟨t6, rfl, h⟩ := hp
      have hW : WP z G ad (t6, ν, ρ, lo) H := by rw [← ht]; exact hB
      refine lv_goto (tgt := 232) hx hb dL_does_44 (by decide) ?_
      refine W.widen (k := 1) (n := 6) (by omega) (by omega) ?_
      exact W.iret (v := r5) hx hb hr (fun t ht _ => ⟨⟨_, (t6, ν, ρ, lo), rfl, ⟨_, rfl, h⟩, WP.at9 ht hW⟩, hS.F ht⟩) hS.2.2 dL_does_232 (hlocks := hlocks)
  · have h := ite_t c4 h
    refine lv_iconst (v := (1 : Int32)) hx hb dL_does_36 (by decide) ?_
    refine lv_goto (tgt := 41) hx hb dL_does_37 (by decide) ?_
    refine vx_calli (vx_runV (As := [.int p2, .int ((1 : Int32))]) (rest := []) ⟨hx, hb, hml, hown, hts⟩ (mtX6_word l hlt z G ad σ ν ρ lo p2 ((1 : Int32)) _ _ h) (cwV 2 hts gL_does_X6_word rfl rfl rfl (by decide +kernel) ⟨Nat.le_of_ble_eq_true rfl, Nat.le_of_ble_eq_true rfl⟩) ⟨Pcs.blind, (r_recv hE hW 0 0 rfl (ci := 9) rfl rfl), fun U hU hw => ⟨rfl, Bc.of hE hz hW hS hU hw⟩⟩ rfl rfl hl.1 rfl (lv_room (Nat.le_of_ble_eq_true rfl)) dL_does_41 ⟨by show _ ≤ 1; omega, by show _ ≤ 6; omega⟩) hS (fun _ _ h => h) (fun _ h => h) (fun _ _ h => h) (fun E ce q9 u9 t H1 locs1 ht _ hp hB _ _ hS1 hce hv hcl => ?_) (fun r7 u9 t H locs ht _ hp hB _ _ hS => ?_)
    · obtain ⟨E9, S9⟩ := u9
      obtain ⟨rfl, hB⟩ := hB
      obtain ⟨t9, rfl, hxk⟩ := hp
      have hW : WP z G ad (t9, ν, ρ, lo) H1 := by rw [← ht]; exact hB
      rcases hxk with ⟨rfl, h⟩ | ⟨rfl, h⟩ | ⟨rfl, h⟩
      · refine vx_catch (name := IOB) hown [] ⟨0, 232, 233, 65⟩ [⟨0, 232, 239, 67⟩, ⟨0, 232, 245, 69⟩] htb (fun z9 hz9 => absurd hz9 List.not_mem_nil) rfl (by decide) (hts _ (List.mem_of_getElem? (i := 1) rfl)) (va_Nw.use rfl (hE.2.2.2.2.2.2.1 (IOB, IOB) (List.mem_of_getElem? (i := 4) rfl))) hce hv hcl ?_
        refine lv_astore (lv' := [(6, .ref q9), (0, .ref (ad 0 0)), (1, .int ((2 : Int32))), (2, .int p2), (3, .int p3), (4, .int p4), (5, .int p5)]) hx hb dL_does_233 hl (by decide) rfl (fun ls hl => ?_)
        refine lv_sipush (v := (-1381 : Int32)) hx hb dL_does_235 (by decide) ?_
        refine W.widen (k := 1) (n := 6) (by omega) (by omega) ?_
        exact W.iret (v := (-1381 : Int32)) hx hb hr (fun t ht _ => ⟨⟨_, (t9, ν, ρ, lo), rfl, ⟨_, rfl, h⟩, WP.at9 ht hW⟩, hS1.F ht⟩) hS1.2.2 dL_does_238 (hlocks := hlocks)
      · refine vx_catch (name := IAE) hown [⟨0, 232, 233, 65⟩] ⟨0, 232, 239, 67⟩ [⟨0, 232, 245, 69⟩] htb (fun z9 hz9 => by rw [List.mem_singleton] at hz9; subst hz9; exact Or.inr ⟨by decide, IOB, hts _ (List.mem_of_getElem? (i := 1) rfl), hE.2.2.2.2.2.2.2.1 (IAE, IOB) (List.mem_of_getElem? (i := 1) rfl)⟩) rfl (by decide) (hts _ (List.mem_of_getElem? (i := 2) rfl)) (va_Nw.use rfl (hE.2.2.2.2.2.2.1 (IAE, IAE) (List.mem_of_getElem? (i := 2) rfl))) hce hv hcl ?_
        refine lv_astore (lv' := [(6, .ref q9), (0, .ref (ad 0 0)), (1, .int ((2 : Int32))), (2, .int p2), (3, .int p3), (4, .int p4), (5, .int p5)]) hx hb dL_does_239 hl (by decide) rfl (fun ls hl => ?_)
        refine lv_sipush (v := (-1382 : Int32)) hx hb dL_does_241 (by decide) ?_
        refine W.widen (k := 1) (n := 6) (by omega) (by omega) ?_
        exact W.iret (v := (-1382 : Int32)) hx hb hr (fun t ht _ => ⟨⟨_, (t9, ν, ρ, lo), rfl, ⟨_, rfl, h⟩, WP.at9 ht hW⟩, hS1.F ht⟩) hS1.2.2 dL_does_244 (hlocks := hlocks)
      · refine vx_catch (name := ISE) hown [⟨0, 232, 233, 65⟩, ⟨0, 232, 239, 67⟩] ⟨0, 232, 245, 69⟩ [] htb (fun z9 hz9 => (List.mem_cons.mp hz9).elim (fun e9 => by subst e9; exact Or.inr ⟨by decide, IOB, hts _ (List.mem_of_getElem? (i := 1) rfl), hE.2.2.2.2.2.2.2.1 (ISE, IOB) (List.mem_of_getElem? (i := 3) rfl)⟩) (fun h9 => by rw [List.mem_singleton] at h9; subst h9; exact Or.inr ⟨by decide, IAE, hts _ (List.mem_of_getElem? (i := 2) rfl), hE.2.2.2.2.2.2.2.1 (ISE, IAE) (List.mem_of_getElem? (i := 2) rfl)⟩)) rfl (by decide) (hts _ (List.mem_of_getElem? (i := 3) rfl)) (va_Nw.use rfl (hE.2.2.2.2.2.2.1 (ISE, ISE) (List.mem_of_getElem? (i := 3) rfl))) hce hv hcl ?_
        refine lv_astore (lv' := [(6, .ref q9), (0, .ref (ad 0 0)), (1, .int ((2 : Int32))), (2, .int p2), (3, .int p3), (4, .int p4), (5, .int p5)]) hx hb dL_does_245 hl (by decide) rfl (fun ls hl => ?_)
        refine lv_sipush (v := (-1383 : Int32)) hx hb dL_does_247 (by decide) ?_
        refine W.widen (k := 1) (n := 6) (by omega) (by omega) ?_
        exact W.iret (v := (-1383 : Int32)) hx hb hr (fun t ht _ => ⟨⟨_, (t9, ν, ρ, lo), rfl, ⟨_, rfl, h⟩, WP.at9 ht hW⟩, hS1.F ht⟩) hS1.2.2 dL_does_250 (hlocks := hlocks)
    · obtain ⟨t8, rfl, h⟩ := hp
      have hW : WP z G ad (t8, ν, ρ, lo) H := by rw [← ht]; exact hB
      refine lv_goto (tgt := 232) hx hb dL_does_44 (by decide) ?_
      refine W.widen (k := 1) (n := 6) (by omega) (by omega) ?_
      exact W.iret (v := r7) hx hb hr (fun t ht _ => ⟨⟨_, (t8, ν, ρ, lo), rfl, ⟨_, rfl, h⟩, WP.at9 ht hW⟩, hS.F ht⟩) hS.2.2 dL_does_232 (hlocks := hlocks)
set_option maxHeartbeats 4000000 in
set_option maxRecDepth 100000 in
theorem mtL_does_3 (l : Launch) (hlt : l.stackTraces = false) (z : Nat) (G : Gl) (ad : Nat → Nat → Nat) (σ : SG) (ν : NU) (ρ : RH) (lo : Int64) (p2 : Int32) (p3 : Int32) (p4 : Int32) (p5 : Int32) (post : Int32 → SG → NU → Prop) (h : wpL_does_3 σ ν ρ p2 p3 p4 p5 post) : Met l yL_does wsL_does ({ frames := 10, cells := 20, slots := 269, locals := 244 } : Room) (Pcs z G ad (σ, ν, ρ, lo) [.ref (ad 0 0), .int ((3 : Int32)), .int p2, .int p3, .int p4, .int p5]) (Qia z G (fun r S1 => ∃ (t : SG) (u : NU), S1.1 = (t, u, ρ, lo) ∧ Xt ad S1.2 ν u ∧ post r t u)) 20 269 (Az z) := by
  refine met_ofWH (cc := cL_does) (maxL := 7) (ret := (some .int)) (hh := [(0, 232, 233, 65), (0, 232, 239, 67), (0, 232, 245, 69)]) (by decide) rfl ?_
  intro p e s m args below meth c s₁ B hml hv
  obtain ⟨rfl, hz, hW, hE⟩ := hv
  have hx := B.exec
  have hb := B.bytes
  have hr := B.returns
  have hts := atoms_spec (ws := wsL_does) B.pre
  have hown : s.vm.findClass RL = some m.cls := findClass_of_methodNamed B.named
  have hlocks := B.notSynchronized
  have htb : c.exceptionTable.toList = [⟨0, 232, 233, 65⟩, ⟨0, 232, 239, 67⟩, ⟨0, 232, 245, 69⟩] := vx_table (x := yL_does) B (hts _ List.mem_cons_self)
  have hS : va_S (Az z) s.heap s.heap [] := va_S.rf
  have hl := lv_entry [.ref (ad 0 0), .int ((3 : Int32)), .int p2, .int p3, .int p4, .int p5] (n := 7) (Nat.le_of_ble_eq_true rfl)
  rw [lg_entry_eq]
  generalize (lg_sl [.ref (ad 0 0), .int ((3 : Int32)), .int p2, .int p3, .int p4, .int p5] ++ List.replicate (7 - (lg_sl [.ref (ad 0 0), .int ((3 : Int32)), .int p2, .int p3, .int p4, .int p5]).length) Slot.unset).toArray = ls at hl ⊢
  have hl : lv_has ls 7 [(0, .ref (ad 0 0)), (1, .int ((3 : Int32))), (2, .int p2), (3, .int p3), (4, .int p4), (5, .int p5)] := hl
  unfold wpL_does_3 at h
  refine lv_iload_n hx hb dL_does_0 rfl (lv_at hl 1 rfl) ?_
  refine r_if_ne hx hb (show (3 : Int32).toInt = 3 by decide) (tgt := 12) dL_does_1 (by decide) (fun c1 => ?_) (fun c1 => absurd c1 (by decide))
  refine lv_iload_n hx hb dL_does_12 rfl (lv_at hl 1 rfl) ?_
  refine lv_iconst (v := (1 : Int32)) hx hb dL_does_13 (by decide) ?_
  refine r_icmp_ne hx hb (show (3 : Int32).toInt = 3 by decide) (show (1 : Int32).toInt = 1 by decide) (tgt := 24) dL_does_14 (by decide) (fun c2 => ?_) (fun c2 => absurd c2 (by decide))
  refine lv_iload_n hx hb dL_does_24 rfl (lv_at hl 1 rfl) ?_
  refine lv_iconst (v := (2 : Int32)) hx hb dL_does_25 (by decide) ?_
  refine r_icmp_ne hx hb (show (3 : Int32).toInt = 3 by decide) (show (2 : Int32).toInt = 2 by decide) (tgt := 47) dL_does_26 (by decide) (fun c3 => ?_) (fun c3 => absurd c3 (by decide))
  refine lv_iload_n hx hb dL_does_47 rfl (lv_at hl 1 rfl) ?_
  refine lv_iconst (v := (3 : Int32)) hx hb dL_does_48 (by decide) ?_
  refine r_icmp_ne hx hb (show (3 : Int32).toInt = 3 by decide) (show (3 : Int32).toInt = 3 by decide) (tgt := 63) dL_does_49 (by decide) (fun c4 => absurd (by decide) c4) (fun c4 => ?_)
  refine lv_aload_n hx hb dL_does_52 rfl (lv_at hl 0 rfl) ?_
  refine lv_iload_n hx hb dL_does_53 rfl (lv_at hl 2 rfl) ?_
  refine lv_iload_n hx hb dL_does_54 rfl (lv_at hl 3 rfl) ?_
  refine lv_iload hx hb dL_does_55 (lv_at hl 4 rfl) ?_
  refine vx_calli (vx_runV (As := [.int p2, .int p3, .int p4]) (rest := []) ⟨hx, hb, hml, hown, hts⟩ (mtX6_enact l hlt z G ad σ ν ρ lo p2 p3 p4 _ _ h) (cwV 3 hts gL_does_X6_enact rfl rfl rfl (by decide +kernel) ⟨Nat.le_of_ble_eq_true rfl, Nat.le_of_ble_eq_true rfl⟩) ⟨Pcs.blind, (r_recv hE hW 0 0 rfl (ci := 9) rfl rfl), fun U hU hw => ⟨rfl, Bc.of hE hz hW hS hU hw⟩⟩ rfl rfl hl.1 rfl (lv_room (Nat.le_of_ble_eq_true rfl)) dL_does_57 ⟨by show _ ≤ 20; omega, by show _ ≤ 269; omega⟩) hS (fun _ _ h => h) (fun _ h => h) (fun _ _ h => h) (fun E ce q9 u9 t H1 locs1 ht _ hp hB _ _ hS1 hce hv hcl => ?_) (fun r5 u9 t H locs ht _ hp hB _ _ hS => ?_)
  · obtain ⟨E9, S9⟩ := u9
    obtain ⟨rfl, hB⟩ := hB
    obtain ⟨rfl, hxk⟩ := hp
    have hW : WP z G ad (σ, ν, ρ, lo) H1 := by rw [← ht]; exact hB
    rcases hxk with ⟨rfl, h⟩ | ⟨rfl, h⟩ | ⟨rfl, h⟩
    · refine vx_catch (name := IOB) hown [] ⟨0, 232, 233, 65⟩ [⟨0, 232, 239, 67⟩, ⟨0, 232, 245, 69⟩] htb (fun z9 hz9 => absurd hz9 List.not_mem_nil) rfl (by decide) (hts _ (List.mem_of_getElem? (i := 1) rfl)) (va_Nw.use rfl (hE.2.2.2.2.2.2.1 (IOB, IOB) (List.mem_of_getElem? (i := 4) rfl))) hce hv hcl ?_
      refine lv_astore (lv' := [(6, .ref q9), (0, .ref (ad 0 0)), (1, .int ((3 : Int32))), (2, .int p2), (3, .int p3), (4, .int p4), (5, .int p5)]) hx hb dL_does_233 hl (by decide) rfl (fun ls hl => ?_)
      refine lv_sipush (v := (-1381 : Int32)) hx hb dL_does_235 (by decide) ?_
      refine W.widen (k := 20) (n := 269) (by omega) (by omega) ?_
      exact W.iret (v := (-1381 : Int32)) hx hb hr (fun t ht _ => ⟨⟨_, ((σ, ν, ρ, lo), ad), rfl, ⟨_, _, rfl, Xt.rf, h⟩, WP.at9 ht hW⟩, hS1.F ht⟩) hS1.2.2 dL_does_238 (hlocks := hlocks)
    · refine vx_catch (name := IAE) hown [⟨0, 232, 233, 65⟩] ⟨0, 232, 239, 67⟩ [⟨0, 232, 245, 69⟩] htb (fun z9 hz9 => by rw [List.mem_singleton] at hz9; subst hz9; exact Or.inr ⟨by decide, IOB, hts _ (List.mem_of_getElem? (i := 1) rfl), hE.2.2.2.2.2.2.2.1 (IAE, IOB) (List.mem_of_getElem? (i := 1) rfl)⟩) rfl (by decide) (hts _ (List.mem_of_getElem? (i := 2) rfl)) (va_Nw.use rfl (hE.2.2.2.2.2.2.1 (IAE, IAE) (List.mem_of_getElem? (i := 2) rfl))) hce hv hcl ?_
      refine lv_astore (lv' := [(6, .ref q9), (0, .ref (ad 0 0)), (1, .int ((3 : Int32))), (2, .int p2), (3, .int p3), (4, .int p4), (5, .int p5)]) hx hb dL_does_239 hl (by decide) rfl (fun ls hl => ?_)
      refine lv_sipush (v := (-1382 : Int32)) hx hb dL_does_241 (by decide) ?_
      refine W.widen (k := 20) (n := 269) (by omega) (by omega) ?_
      exact W.iret (v := (-1382 : Int32)) hx hb hr (fun t ht _ => ⟨⟨_, ((σ, ν, ρ, lo), ad), rfl, ⟨_, _, rfl, Xt.rf, h⟩, WP.at9 ht hW⟩, hS1.F ht⟩) hS1.2.2 dL_does_244 (hlocks := hlocks)
    · refine vx_catch (name := ISE) hown [⟨0, 232, 233, 65⟩, ⟨0, 232, 239, 67⟩] ⟨0, 232, 245, 69⟩ [] htb (fun z9 hz9 => (List.mem_cons.mp hz9).elim (fun e9 => by subst e9; exact Or.inr ⟨by decide, IOB, hts _ (List.mem_of_getElem? (i := 1) rfl), hE.2.2.2.2.2.2.2.1 (ISE, IOB) (List.mem_of_getElem? (i := 3) rfl)⟩) (fun h9 => by rw [List.mem_singleton] at h9; subst h9; exact Or.inr ⟨by decide, IAE, hts _ (List.mem_of_getElem? (i := 2) rfl), hE.2.2.2.2.2.2.2.1 (ISE, IAE) (List.mem_of_getElem? (i := 2) rfl)⟩)) rfl (by decide) (hts _ (List.mem_of_getElem? (i := 3) rfl)) (va_Nw.use rfl (hE.2.2.2.2.2.2.1 (ISE, ISE) (List.mem_of_getElem? (i := 3) rfl))) hce hv hcl ?_
      refine lv_astore (lv' := [(6, .ref q9), (0, .ref (ad 0 0)), (1, .int ((3 : Int32))), (2, .int p2), (3, .int p3), (4, .int p4), (5, .int p5)]) hx hb dL_does_245 hl (by decide) rfl (fun ls hl => ?_)
      refine lv_sipush (v := (-1383 : Int32)) hx hb dL_does_247 (by decide) ?_
      refine W.widen (k := 20) (n := 269) (by omega) (by omega) ?_
      exact W.iret (v := (-1383 : Int32)) hx hb hr (fun t ht _ => ⟨⟨_, ((σ, ν, ρ, lo), ad), rfl, ⟨_, _, rfl, Xt.rf, h⟩, WP.at9 ht hW⟩, hS1.F ht⟩) hS1.2.2 dL_does_250 (hlocks := hlocks)
  · obtain ⟨S9, ad8⟩ := u9
    obtain ⟨t6, vv7, e9, q9, h⟩ := hp
    cases e9
    have hW : WP z G ad8 (t6, vv7, ρ, lo) H := by rw [← ht]; exact hB
    have z10 : ad8 0 0 = ad 0 0 := (q9 0 0 (by decide) rfl).2
    have hl : lv_has ls 7 [(0, .ref (ad8 0 0)), (1, .int ((3 : Int32))), (2, .int p2), (3, .int p3), (4, .int p4), (5, .int p5)] := by rw [z10]; exact hl
    refine lv_goto (tgt := 232) hx hb dL_does_60 (by decide) ?_
    refine W.widen (k := 20) (n := 269) (by omega) (by omega) ?_
    exact W.iret (v := r5) hx hb hr (fun t ht _ => ⟨⟨_, ((t6, vv7, ρ, lo), ad8), rfl, ⟨_, _, rfl, (Xt.tr Xt.rf q9), h⟩, WP.at9 ht hW⟩, hS.F ht⟩) hS.2.2 dL_does_232 (hlocks := hlocks)
set_option maxHeartbeats 4000000 in
set_option maxRecDepth 100000 in
theorem mtL_does_4 (l : Launch) (hlt : l.stackTraces = false) (z : Nat) (G : Gl) (ad : Nat → Nat → Nat) (σ : SG) (ν : NU) (ρ : RH) (lo : Int64) (p2 : Int32) (p3 : Int32) (p4 : Int32) (p5 : Int32) (post : Int32 → SG → NU → Prop) (h : wpL_does_4 σ ν ρ p2 p3 p4 p5 post) : Met l yL_does wsL_does ({ frames := 10, cells := 21, slots := 275, locals := 245 } : Room) (Pcs z G ad (σ, ν, ρ, lo) [.ref (ad 0 0), .int ((4 : Int32)), .int p2, .int p3, .int p4, .int p5]) (Qia z G (fun r S1 => ∃ (t : SG) (u : NU), S1.1 = (t, u, ρ, lo) ∧ Xt ad S1.2 ν u ∧ post r t u)) 21 275 (Az z) := by
  refine met_ofWH (cc := cL_does) (maxL := 7) (ret := (some .int)) (hh := [(0, 232, 233, 65), (0, 232, 239, 67), (0, 232, 245, 69)]) (by decide) rfl ?_
  intro p e s m args below meth c s₁ B hml hv
  obtain ⟨rfl, hz, hW, hE⟩ := hv
  have hx := B.exec
  have hb := B.bytes
  have hr := B.returns
  have hts := atoms_spec (ws := wsL_does) B.pre
  have hown : s.vm.findClass RL = some m.cls := findClass_of_methodNamed B.named
  have hlocks := B.notSynchronized
  have htb : c.exceptionTable.toList = [⟨0, 232, 233, 65⟩, ⟨0, 232, 239, 67⟩, ⟨0, 232, 245, 69⟩] := vx_table (x := yL_does) B (hts _ List.mem_cons_self)
  have hS : va_S (Az z) s.heap s.heap [] := va_S.rf
  have hl := lv_entry [.ref (ad 0 0), .int ((4 : Int32)), .int p2, .int p3, .int p4, .int p5] (n := 7) (Nat.le_of_ble_eq_true rfl)
  rw [lg_entry_eq]
  generalize (lg_sl [.ref (ad 0 0), .int ((4 : Int32)), .int p2, .int p3, .int p4, .int p5] ++ List.replicate (7 - (lg_sl [.ref (ad 0 0), .int ((4 : Int32)), .int p2, .int p3, .int p4, .int p5]).length) Slot.unset).toArray = ls at hl ⊢
  have hl : lv_has ls 7 [(0, .ref (ad 0 0)), (1, .int ((4 : Int32))), (2, .int p2), (3, .int p3), (4, .int p4), (5, .int p5)] := hl
  unfold wpL_does_4 at h
  refine lv_iload_n hx hb dL_does_0 rfl (lv_at hl 1 rfl) ?_
  refine r_if_ne hx hb (show (4 : Int32).toInt = 4 by decide) (tgt := 12) dL_does_1 (by decide) (fun c1 => ?_) (fun c1 => absurd c1 (by decide))
  refine lv_iload_n hx hb dL_does_12 rfl (lv_at hl 1 rfl) ?_
  refine lv_iconst (v := (1 : Int32)) hx hb dL_does_13 (by decide) ?_
  refine r_icmp_ne hx hb (show (4 : Int32).toInt = 4 by decide) (show (1 : Int32).toInt = 1 by decide) (tgt := 24) dL_does_14 (by decide) (fun c2 => ?_) (fun c2 => absurd c2 (by decide))
  refine lv_iload_n hx hb dL_does_24 rfl (lv_at hl 1 rfl) ?_
  refine lv_iconst (v := (2 : Int32)) hx hb dL_does_25 (by decide) ?_
  refine r_icmp_ne hx hb (show (4 : Int32).toInt = 4 by decide) (show (2 : Int32).toInt = 2 by decide) (tgt := 47) dL_does_26 (by decide) (fun c3 => ?_) (fun c3 => absurd c3 (by decide))
  refine lv_iload_n hx hb dL_does_47 rfl (lv_at hl 1 rfl) ?_
  refine lv_iconst (v := (3 : Int32)) hx hb dL_does_48 (by decide) ?_
  refine r_icmp_ne hx hb (show (4 : Int32).toInt = 4 by decide) (show (3 : Int32).toInt = 3 by decide) (tgt := 63) dL_does_49 (by decide) (fun c4 => ?_) (fun c4 => absurd c4 (by decide))
  refine lv_iload_n hx hb dL_does_63 rfl (lv_at hl 1 rfl) ?_
  refine lv_iconst (v := (4 : Int32)) hx hb dL_does_64 (by decide) ?_
  refine r_icmp_ne hx hb (show (4 : Int32).toInt = 4 by decide) (show (4 : Int32).toInt = 4 by decide) (tgt := 81) dL_does_65 (by decide) (fun c5 => absurd (by decide) c5) (fun c5 => ?_)
  refine lv_aload_n hx hb dL_does_68 rfl (lv_at hl 0 rfl) ?_
  refine lv_iload_n hx hb dL_does_69 rfl (lv_at hl 2 rfl) ?_
  refine lv_iload_n hx hb dL_does_70 rfl (lv_at hl 3 rfl) ?_
  refine lv_iload hx hb dL_does_71 (lv_at hl 4 rfl) ?_
  refine lv_iload hx hb dL_does_73 (lv_at hl 5 rfl) ?_
  refine vx_calli (vx_runV (As := [.int p2, .int p3, .int p4, .int p5]) (rest := []) ⟨hx, hb, hml, hown, hts⟩ (mtX6_instruct l hlt z G ad σ ν ρ lo p2 p3 p4 p5 _ _ h) (cwV 4 hts gL_does_X6_instruct rfl rfl rfl (by decide +kernel) ⟨Nat.le_of_ble_eq_true rfl, Nat.le_of_ble_eq_true rfl⟩) ⟨Pcs.blind, (r_recv hE hW 0 0 rfl (ci := 9) rfl rfl), fun U hU hw => ⟨rfl, Bc.of hE hz hW hS hU hw⟩⟩ rfl rfl hl.1 rfl (lv_room (Nat.le_of_ble_eq_true rfl)) dL_does_75 ⟨by show _ ≤ 21; omega, by show _ ≤ 275; omega⟩) hS (fun _ _ h => h) (fun _ h => h) (fun _ _ h => h) (fun E ce q9 u9 t H1 locs1 ht _ hp hB _ _ hS1 hce hv hcl => ?_) (fun r6 u9 t H locs ht _ hp hB _ _ hS => ?_)
  · obtain ⟨E9, S9⟩ := u9
    obtain ⟨rfl, hB⟩ := hB
    obtain ⟨rfl, hxk⟩ := hp
    have hW : WP z G ad (σ, ν, ρ, lo) H1 := by rw [← ht]; exact hB
    rcases hxk with ⟨rfl, h⟩ | ⟨rfl, h⟩ | ⟨rfl, h⟩
    · refine vx_catch (name := IOB) hown [] ⟨0, 232, 233, 65⟩ [⟨0, 232, 239, 67⟩, ⟨0, 232, 245, 69⟩] htb (fun z9 hz9 => absurd hz9 List.not_mem_nil) rfl (by decide) (hts _ (List.mem_of_getElem? (i := 1) rfl)) (va_Nw.use rfl (hE.2.2.2.2.2.2.1 (IOB, IOB) (List.mem_of_getElem? (i := 4) rfl))) hce hv hcl ?_
      refine lv_astore (lv' := [(6, .ref q9), (0, .ref (ad 0 0)), (1, .int ((4 : Int32))), (2, .int p2), (3, .int p3), (4, .int p4), (5, .int p5)]) hx hb dL_does_233 hl (by decide) rfl (fun ls hl => ?_)
      refine lv_sipush (v := (-1381 : Int32)) hx hb dL_does_235 (by decide) ?_
      refine W.widen (k := 21) (n := 275) (by omega) (by omega) ?_
      exact W.iret (v := (-1381 : Int32)) hx hb hr (fun t ht _ => ⟨⟨_, ((σ, ν, ρ, lo), ad), rfl, ⟨_, _, rfl, Xt.rf, h⟩, WP.at9 ht hW⟩, hS1.F ht⟩) hS1.2.2 dL_does_238 (hlocks := hlocks)
    · refine vx_catch (name := IAE) hown [⟨0, 232, 233, 65⟩] ⟨0, 232, 239, 67⟩ [⟨0, 232, 245, 69⟩] htb (fun z9 hz9 => by rw [List.mem_singleton] at hz9; subst hz9; exact Or.inr ⟨by decide, IOB, hts _ (List.mem_of_getElem? (i := 1) rfl), hE.2.2.2.2.2.2.2.1 (IAE, IOB) (List.mem_of_getElem? (i := 1) rfl)⟩) rfl (by decide) (hts _ (List.mem_of_getElem? (i := 2) rfl)) (va_Nw.use rfl (hE.2.2.2.2.2.2.1 (IAE, IAE) (List.mem_of_getElem? (i := 2) rfl))) hce hv hcl ?_
      refine lv_astore (lv' := [(6, .ref q9), (0, .ref (ad 0 0)), (1, .int ((4 : Int32))), (2, .int p2), (3, .int p3), (4, .int p4), (5, .int p5)]) hx hb dL_does_239 hl (by decide) rfl (fun ls hl => ?_)
      refine lv_sipush (v := (-1382 : Int32)) hx hb dL_does_241 (by decide) ?_
      refine W.widen (k := 21) (n := 275) (by omega) (by omega) ?_
      exact W.iret (v := (-1382 : Int32)) hx hb hr (fun t ht _ => ⟨⟨_, ((σ, ν, ρ, lo), ad), rfl, ⟨_, _, rfl, Xt.rf, h⟩, WP.at9 ht hW⟩, hS1.F ht⟩) hS1.2.2 dL_does_244 (hlocks := hlocks)
    · refine vx_catch (name := ISE) hown [⟨0, 232, 233, 65⟩, ⟨0, 232, 239, 67⟩] ⟨0, 232, 245, 69⟩ [] htb (fun z9 hz9 => (List.mem_cons.mp hz9).elim (fun e9 => by subst e9; exact Or.inr ⟨by decide, IOB, hts _ (List.mem_of_getElem? (i := 1) rfl), hE.2.2.2.2.2.2.2.1 (ISE, IOB) (List.mem_of_getElem? (i := 3) rfl)⟩) (fun h9 => by rw [List.mem_singleton] at h9; subst h9; exact Or.inr ⟨by decide, IAE, hts _ (List.mem_of_getElem? (i := 2) rfl), hE.2.2.2.2.2.2.2.1 (ISE, IAE) (List.mem_of_getElem? (i := 2) rfl)⟩)) rfl (by decide) (hts _ (List.mem_of_getElem? (i := 3) rfl)) (va_Nw.use rfl (hE.2.2.2.2.2.2.1 (ISE, ISE) (List.mem_of_getElem? (i := 3) rfl))) hce hv hcl ?_
      refine lv_astore (lv' := [(6, .ref q9), (0, .ref (ad 0 0)), (1, .int ((4 : Int32))), (2, .int p2), (3, .int p3), (4, .int p4), (5, .int p5)]) hx hb dL_does_245 hl (by decide) rfl (fun ls hl => ?_)
      refine lv_sipush (v := (-1383 : Int32)) hx hb dL_does_247 (by decide) ?_
      refine W.widen (k := 21) (n := 275) (by omega) (by omega) ?_
      exact W.iret (v := (-1383 : Int32)) hx hb hr (fun t ht _ => ⟨⟨_, ((σ, ν, ρ, lo), ad), rfl, ⟨_, _, rfl, Xt.rf, h⟩, WP.at9 ht hW⟩, hS1.F ht⟩) hS1.2.2 dL_does_250 (hlocks := hlocks)
  · obtain ⟨S9, ad9⟩ := u9
    obtain ⟨t7, vv8, e9, q10, h⟩ := hp
    cases e9
    have hW : WP z G ad9 (t7, vv8, ρ, lo) H := by rw [← ht]; exact hB
    have z11 : ad9 0 0 = ad 0 0 := (q10 0 0 (by decide) rfl).2
    have hl : lv_has ls 7 [(0, .ref (ad9 0 0)), (1, .int ((4 : Int32))), (2, .int p2), (3, .int p3), (4, .int p4), (5, .int p5)] := by rw [z11]; exact hl
    refine lv_goto (tgt := 232) hx hb dL_does_78 (by decide) ?_
    refine W.widen (k := 21) (n := 275) (by omega) (by omega) ?_
    exact W.iret (v := r6) hx hb hr (fun t ht _ => ⟨⟨_, ((t7, vv8, ρ, lo), ad9), rfl, ⟨_, _, rfl, (Xt.tr Xt.rf q10), h⟩, WP.at9 ht hW⟩, hS.F ht⟩) hS.2.2 dL_does_232 (hlocks := hlocks)
set_option maxHeartbeats 4000000 in
set_option maxRecDepth 100000 in
theorem mtL_does_5 (l : Launch) (hlt : l.stackTraces = false) (z : Nat) (G : Gl) (ad : Nat → Nat → Nat) (σ : SG) (ν : NU) (ρ : RH) (lo : Int64) (p2 : Int32) (p3 : Int32) (p4 : Int32) (p5 : Int32) (post : Int32 → SG → NU → Prop) (h : wpL_does_5 σ ν ρ p2 p3 p4 p5 post) : Met l yL_does wsL_does ({ frames := 10, cells := 9, slots := 163, locals := 244 } : Room) (Pcs z G ad (σ, ν, ρ, lo) [.ref (ad 0 0), .int ((5 : Int32)), .int p2, .int p3, .int p4, .int p5]) (Qia z G (fun r S1 => ∃ (t : SG) (u : NU), S1.1 = (t, u, ρ, lo) ∧ Xt ad S1.2 ν u ∧ post r t u)) 9 163 (Az z) := by
  refine met_ofWH (cc := cL_does) (maxL := 7) (ret := (some .int)) (hh := [(0, 232, 233, 65), (0, 232, 239, 67), (0, 232, 245, 69)]) (by decide) rfl ?_
  intro p e s m args below meth c s₁ B hml hv
  obtain ⟨rfl, hz, hW, hE⟩ := hv
  have hx := B.exec
  have hb := B.bytes
  have hr := B.returns
  have hts := atoms_spec (ws := wsL_does) B.pre
  have hown : s.vm.findClass RL = some m.cls := findClass_of_methodNamed B.named
  have hlocks := B.notSynchronized
  have htb : c.exceptionTable.toList = [⟨0, 232, 233, 65⟩, ⟨0, 232, 239, 67⟩, ⟨0, 232, 245, 69⟩] := vx_table (x := yL_does) B (hts _ List.mem_cons_self)
  have hS : va_S (Az z) s.heap s.heap [] := va_S.rf
  have hl := lv_entry [.ref (ad 0 0), .int ((5 : Int32)), .int p2, .int p3, .int p4, .int p5] (n := 7) (Nat.le_of_ble_eq_true rfl)
  rw [lg_entry_eq]
  generalize (lg_sl [.ref (ad 0 0), .int ((5 : Int32)), .int p2, .int p3, .int p4, .int p5] ++ List.replicate (7 - (lg_sl [.ref (ad 0 0), .int ((5 : Int32)), .int p2, .int p3, .int p4, .int p5]).length) Slot.unset).toArray = ls at hl ⊢
  have hl : lv_has ls 7 [(0, .ref (ad 0 0)), (1, .int ((5 : Int32))), (2, .int p2), (3, .int p3), (4, .int p4), (5, .int p5)] := hl
  unfold wpL_does_5 at h
  refine lv_iload_n hx hb dL_does_0 rfl (lv_at hl 1 rfl) ?_
  refine r_if_ne hx hb (show (5 : Int32).toInt = 5 by decide) (tgt := 12) dL_does_1 (by decide) (fun c1 => ?_) (fun c1 => absurd c1 (by decide))
  refine lv_iload_n hx hb dL_does_12 rfl (lv_at hl 1 rfl) ?_
  refine lv_iconst (v := (1 : Int32)) hx hb dL_does_13 (by decide) ?_
  refine r_icmp_ne hx hb (show (5 : Int32).toInt = 5 by decide) (show (1 : Int32).toInt = 1 by decide) (tgt := 24) dL_does_14 (by decide) (fun c2 => ?_) (fun c2 => absurd c2 (by decide))
  refine lv_iload_n hx hb dL_does_24 rfl (lv_at hl 1 rfl) ?_
  refine lv_iconst (v := (2 : Int32)) hx hb dL_does_25 (by decide) ?_
  refine r_icmp_ne hx hb (show (5 : Int32).toInt = 5 by decide) (show (2 : Int32).toInt = 2 by decide) (tgt := 47) dL_does_26 (by decide) (fun c3 => ?_) (fun c3 => absurd c3 (by decide))
  refine lv_iload_n hx hb dL_does_47 rfl (lv_at hl 1 rfl) ?_
  refine lv_iconst (v := (3 : Int32)) hx hb dL_does_48 (by decide) ?_
  refine r_icmp_ne hx hb (show (5 : Int32).toInt = 5 by decide) (show (3 : Int32).toInt = 3 by decide) (tgt := 63) dL_does_49 (by decide) (fun c4 => ?_) (fun c4 => absurd c4 (by decide))
  refine lv_iload_n hx hb dL_does_63 rfl (lv_at hl 1 rfl) ?_
  refine lv_iconst (v := (4 : Int32)) hx hb dL_does_64 (by decide) ?_
  refine r_icmp_ne hx hb (show (5 : Int32).toInt = 5 by decide) (show (4 : Int32).toInt = 4 by decide) (tgt := 81) dL_does_65 (by decide) (fun c5 => ?_) (fun c5 => absurd c5 (by decide))
  refine lv_iload_n hx hb dL_does_81 rfl (lv_at hl 1 rfl) ?_
  refine lv_iconst (v := (5 : Int32)) hx hb dL_does_82 (by decide) ?_
  refine r_icmp_ne hx hb (show (5 : Int32).toInt = 5 by decide) (show (5 : Int32).toInt = 5 by decide) (tgt := 97) dL_does_83 (by decide) (fun c6 => absurd (by decide) c6) (fun c6 => ?_)
  refine lv_aload_n hx hb dL_does_86 rfl (lv_at hl 0 rfl) ?_
  refine lv_iload_n hx hb dL_does_87 rfl (lv_at hl 2 rfl) ?_
  refine lv_iload_n hx hb dL_does_88 rfl (lv_at hl 3 rfl) ?_
  refine lv_iload hx hb dL_does_89 (lv_at hl 4 rfl) ?_
  refine vx_calli (vx_runV (As := [.int p2, .int p3, .int p4]) (rest := []) ⟨hx, hb, hml, hown, hts⟩ (mtX6_look l hlt z G ad σ ν ρ lo p2 p3 p4 _ _ h) (cwV 3 hts gL_does_X6_look rfl rfl rfl (by decide +kernel) ⟨Nat.le_of_ble_eq_true rfl, Nat.le_of_ble_eq_true rfl⟩) ⟨Pcs.blind, (r_recv hE hW 0 0 rfl (ci := 9) rfl rfl), fun U hU hw => ⟨rfl, Bc.of hE hz hW hS hU hw⟩⟩ rfl rfl hl.1 rfl (lv_room (Nat.le_of_ble_eq_true rfl)) dL_does_91 ⟨by show _ ≤ 9; omega, by show _ ≤ 163; omega⟩) hS (fun _ _ h => h) (fun _ h => h) (fun _ _ h => h) (fun E ce q9 u9 t H1 locs1 ht _ hp hB _ _ hS1 hce hv hcl => ?_) (fun r7 u9 t H locs ht _ hp hB _ _ hS => ?_)
  · obtain ⟨E9, S9⟩ := u9
    obtain ⟨rfl, hB⟩ := hB
    obtain ⟨rfl, hxk⟩ := hp
    have hW : WP z G ad (σ, ν, ρ, lo) H1 := by rw [← ht]; exact hB
    rcases hxk with ⟨rfl, h⟩ | ⟨rfl, h⟩ | ⟨rfl, h⟩
    · refine vx_catch (name := IOB) hown [] ⟨0, 232, 233, 65⟩ [⟨0, 232, 239, 67⟩, ⟨0, 232, 245, 69⟩] htb (fun z9 hz9 => absurd hz9 List.not_mem_nil) rfl (by decide) (hts _ (List.mem_of_getElem? (i := 1) rfl)) (va_Nw.use rfl (hE.2.2.2.2.2.2.1 (IOB, IOB) (List.mem_of_getElem? (i := 4) rfl))) hce hv hcl ?_
      refine lv_astore (lv' := [(6, .ref q9), (0, .ref (ad 0 0)), (1, .int ((5 : Int32))), (2, .int p2), (3, .int p3), (4, .int p4), (5, .int p5)]) hx hb dL_does_233 hl (by decide) rfl (fun ls hl => ?_)
      refine lv_sipush (v := (-1381 : Int32)) hx hb dL_does_235 (by decide) ?_
      refine W.widen (k := 9) (n := 163) (by omega) (by omega) ?_
      exact W.iret (v := (-1381 : Int32)) hx hb hr (fun t ht _ => ⟨⟨_, ((σ, ν, ρ, lo), ad), rfl, ⟨_, _, rfl, Xt.rf, h⟩, WP.at9 ht hW⟩, hS1.F ht⟩) hS1.2.2 dL_does_238 (hlocks := hlocks)
    · refine vx_catch (name := IAE) hown [⟨0, 232, 233, 65⟩] ⟨0, 232, 239, 67⟩ [⟨0, 232, 245, 69⟩] htb (fun z9 hz9 => by rw [List.mem_singleton] at hz9; subst hz9; exact Or.inr ⟨by decide, IOB, hts _ (List.mem_of_getElem? (i := 1) rfl), hE.2.2.2.2.2.2.2.1 (IAE, IOB) (List.mem_of_getElem? (i := 1) rfl)⟩) rfl (by decide) (hts _ (List.mem_of_getElem? (i := 2) rfl)) (va_Nw.use rfl (hE.2.2.2.2.2.2.1 (IAE, IAE) (List.mem_of_getElem? (i := 2) rfl))) hce hv hcl ?_
      refine lv_astore (lv' := [(6, .ref q9), (0, .ref (ad 0 0)), (1, .int ((5 : Int32))), (2, .int p2), (3, .int p3), (4, .int p4), (5, .int p5)]) hx hb dL_does_239 hl (by decide) rfl (fun ls hl => ?_)
      refine lv_sipush (v := (-1382 : Int32)) hx hb dL_does_241 (by decide) ?_
      refine W.widen (k := 9) (n := 163) (by omega) (by omega) ?_
      exact W.iret (v := (-1382 : Int32)) hx hb hr (fun t ht _ => ⟨⟨_, ((σ, ν, ρ, lo), ad), rfl, ⟨_, _, rfl, Xt.rf, h⟩, WP.at9 ht hW⟩, hS1.F ht⟩) hS1.2.2 dL_does_244 (hlocks := hlocks)
    · refine vx_catch (name := ISE) hown [⟨0, 232, 233, 65⟩, ⟨0, 232, 239, 67⟩] ⟨0, 232, 245, 69⟩ [] htb (fun z9 hz9 => (List.mem_cons.mp hz9).elim (fun e9 => by subst e9; exact Or.inr ⟨by decide, IOB, hts _ (List.mem_of_getElem? (i := 1) rfl), hE.2.2.2.2.2.2.2.1 (ISE, IOB) (List.mem_of_getElem? (i := 3) rfl)⟩) (fun h9 => by rw [List.mem_singleton] at h9; subst h9; exact Or.inr ⟨by decide, IAE, hts _ (List.mem_of_getElem? (i := 2) rfl), hE.2.2.2.2.2.2.2.1 (ISE, IAE) (List.mem_of_getElem? (i := 2) rfl)⟩)) rfl (by decide) (hts _ (List.mem_of_getElem? (i := 3) rfl)) (va_Nw.use rfl (hE.2.2.2.2.2.2.1 (ISE, ISE) (List.mem_of_getElem? (i := 3) rfl))) hce hv hcl ?_
      refine lv_astore (lv' := [(6, .ref q9), (0, .ref (ad 0 0)), (1, .int ((5 : Int32))), (2, .int p2), (3, .int p3), (4, .int p4), (5, .int p5)]) hx hb dL_does_245 hl (by decide) rfl (fun ls hl => ?_)
      refine lv_sipush (v := (-1383 : Int32)) hx hb dL_does_247 (by decide) ?_
      refine W.widen (k := 9) (n := 163) (by omega) (by omega) ?_
      exact W.iret (v := (-1383 : Int32)) hx hb hr (fun t ht _ => ⟨⟨_, ((σ, ν, ρ, lo), ad), rfl, ⟨_, _, rfl, Xt.rf, h⟩, WP.at9 ht hW⟩, hS1.F ht⟩) hS1.2.2 dL_does_250 (hlocks := hlocks)
  · obtain ⟨S9, ad10⟩ := u9
    obtain ⟨t8, vv9, e9, q11, h⟩ := hp
    cases e9
    have hW : WP z G ad10 (t8, vv9, ρ, lo) H := by rw [← ht]; exact hB
    have z12 : ad10 0 0 = ad 0 0 := (q11 0 0 (by decide) rfl).2
    have hl : lv_has ls 7 [(0, .ref (ad10 0 0)), (1, .int ((5 : Int32))), (2, .int p2), (3, .int p3), (4, .int p4), (5, .int p5)] := by rw [z12]; exact hl
    refine lv_goto (tgt := 232) hx hb dL_does_94 (by decide) ?_
    refine W.widen (k := 9) (n := 163) (by omega) (by omega) ?_
    exact W.iret (v := r7) hx hb hr (fun t ht _ => ⟨⟨_, ((t8, vv9, ρ, lo), ad10), rfl, ⟨_, _, rfl, (Xt.tr Xt.rf q11), h⟩, WP.at9 ht hW⟩, hS.F ht⟩) hS.2.2 dL_does_232 (hlocks := hlocks)
set_option maxHeartbeats 4000000 in
set_option maxRecDepth 100000 in
theorem mtL_does_6 (l : Launch) (hlt : l.stackTraces = false) (z : Nat) (G : Gl) (ad : Nat → Nat → Nat) (σ : SG) (ν : NU) (ρ : RH) (lo : Int64) (p2 : Int32) (p3 : Int32) (p4 : Int32) (p5 : Int32) (post : Int32 → Prop) (h : wpL_does_6 σ ν ρ p2 p3 p4 p5 post) : Met l yL_does wsL_does ({ frames := 7, cells := 1, slots := 6, locals := 103 } : Room) (Pcs z G ad (σ, ν, ρ, lo) [.ref (ad 0 0), .int ((6 : Int32)), .int p2, .int p3, .int p4, .int p5]) (Qis z G ad (fun r S1 => S1 = (σ, ν, ρ, lo) ∧ post r)) 1 6 (Az z) := by
  refine met_ofWH (cc := cL_does) (maxL := 7) (ret := (some .int)) (hh := [(0, 232, 233, 65), (0, 232, 239, 67), (0, 232, 245, 69)]) (by decide) rfl ?_
  intro p e s m args below meth c s₁ B hml hv
  obtain ⟨rfl, hz, hW, hE⟩ := hv
  have hx := B.exec
  have hb := B.bytes
  have hr := B.returns
  have hts := atoms_spec (ws := wsL_does) B.pre
  have hown : s.vm.findClass RL = some m.cls := findClass_of_methodNamed B.named
  have hlocks := B.notSynchronized
  have htb : c.exceptionTable.toList = [⟨0, 232, 233, 65⟩, ⟨0, 232, 239, 67⟩, ⟨0, 232, 245, 69⟩] := vx_table (x := yL_does) B (hts _ List.mem_cons_self)
  have hS : va_S (Az z) s.heap s.heap [] := va_S.rf
  have hl := lv_entry [.ref (ad 0 0), .int ((6 : Int32)), .int p2, .int p3, .int p4, .int p5] (n := 7) (Nat.le_of_ble_eq_true rfl)
  rw [lg_entry_eq]
  generalize (lg_sl [.ref (ad 0 0), .int ((6 : Int32)), .int p2, .int p3, .int p4, .int p5] ++ List.replicate (7 - (lg_sl [.ref (ad 0 0), .int ((6 : Int32)), .int p2, .int p3, .int p4, .int p5]).length) Slot.unset).toArray = ls at hl ⊢
  have hl : lv_has ls 7 [(0, .ref (ad 0 0)), (1, .int ((6 : Int32))), (2, .int p2), (3, .int p3), (4, .int p4), (5, .int p5)] := hl
  unfold wpL_does_6 at h
  refine lv_iload_n hx hb dL_does_0 rfl (lv_at hl 1 rfl) ?_
  refine r_if_ne hx hb (show (6 : Int32).toInt = 6 by decide) (tgt := 12) dL_does_1 (by decide) (fun c1 => ?_) (fun c1 => absurd c1 (by decide))
  refine lv_iload_n hx hb dL_does_12 rfl (lv_at hl 1 rfl) ?_
  refine lv_iconst (v := (1 : Int32)) hx hb dL_does_13 (by decide) ?_
  refine r_icmp_ne hx hb (show (6 : Int32).toInt = 6 by decide) (show (1 : Int32).toInt = 1 by decide) (tgt := 24) dL_does_14 (by decide) (fun c2 => ?_) (fun c2 => absurd c2 (by decide))
  refine lv_iload_n hx hb dL_does_24 rfl (lv_at hl 1 rfl) ?_
  refine lv_iconst (v := (2 : Int32)) hx hb dL_does_25 (by decide) ?_
  refine r_icmp_ne hx hb (show (6 : Int32).toInt = 6 by decide) (show (2 : Int32).toInt = 2 by decide) (tgt := 47) dL_does_26 (by decide) (fun c3 => ?_) (fun c3 => absurd c3 (by decide))
  refine lv_iload_n hx hb dL_does_47 rfl (lv_at hl 1 rfl) ?_
  refine lv_iconst (v := (3 : Int32)) hx hb dL_does_48 (by decide) ?_
  refine r_icmp_ne hx hb (show (6 : Int32).toInt = 6 by decide) (show (3 : Int32).toInt = 3 by decide) (tgt := 63) dL_does_49 (by decide) (fun c4 => ?_) (fun c4 => absurd c4 (by decide))
  refine lv_iload_n hx hb dL_does_63 rfl (lv_at hl 1 rfl) ?_
  refine lv_iconst (v := (4 : Int32)) hx hb dL_does_64 (by decide) ?_
  refine r_icmp_ne hx hb (show (6 : Int32).toInt = 6 by decide) (show (4 : Int32).toInt = 4 by decide) (tgt := 81) dL_does_65 (by decide) (fun c5 => ?_) (fun c5 => absurd c5 (by decide))
  refine lv_iload_n hx hb dL_does_81 rfl (lv_at hl 1 rfl) ?_
  refine lv_iconst (v := (5 : Int32)) hx hb dL_does_82 (by decide) ?_
  refine r_icmp_ne hx hb (show (6 : Int32).toInt = 6 by decide) (show (5 : Int32).toInt = 5 by decide) (tgt := 97) dL_does_83 (by decide) (fun c6 => ?_) (fun c6 => absurd c6 (by decide))
  refine lv_iload_n hx hb dL_does_97 rfl (lv_at hl 1 rfl) ?_
  refine lv_bipush (v := (6 : Int32)) hx hb dL_does_98 (by decide) ?_
  refine r_icmp_ne hx hb (show (6 : Int32).toInt = 6 by decide) (show (6 : Int32).toInt = 6 by decide) (tgt := 111) dL_does_100 (by decide) (fun c7 => absurd (by decide) c7) (fun c7 => ?_)
  refine lv_aload_n hx hb dL_does_103 rfl (lv_at hl 0 rfl) ?_
  refine lv_iload_n hx hb dL_does_104 rfl (lv_at hl 2 rfl) ?_
  refine vx_calli (vx_runV (As := [.int p2]) (rest := []) ⟨hx, hb, hml, hown, hts⟩ (mtX6_provisionAt l hlt z G ad σ ν ρ lo p2 _ _ h) (cwV 1 hts gL_does_X6_provisionAt rfl rfl rfl (by decide +kernel) ⟨Nat.le_of_ble_eq_true rfl, Nat.le_of_ble_eq_true rfl⟩) ⟨Pcs.blind, (r_recv hE hW 0 0 rfl (ci := 9) rfl rfl), fun U hU hw => ⟨rfl, Bc.of hE hz hW hS hU hw⟩⟩ rfl rfl hl.1 rfl (lv_room (Nat.le_of_ble_eq_true rfl)) dL_does_105 ⟨by show _ ≤ 1; omega, by show _ ≤ 6; omega⟩) hS (fun _ _ h => h) (fun _ h => h) (fun _ _ h => h) (fun E ce q9 u9 t H1 locs1 ht _ hp hB _ _ hS1 hce hv hcl => ?_) (fun r8 u9 t H locs ht _ hp hB _ _ hS => ?_)
  · obtain ⟨E9, S9⟩ := u9
    obtain ⟨rfl, hB⟩ := hB
    obtain ⟨rfl, hxk⟩ := hp
    have hW : WP z G ad (σ, ν, ρ, lo) H1 := by rw [← ht]; exact hB
    rcases hxk with ⟨rfl, h⟩ | ⟨rfl, h⟩ | ⟨rfl, h⟩
    · refine vx_catch (name := IOB) hown [] ⟨0, 232, 233, 65⟩ [⟨0, 232, 239, 67⟩, ⟨0, 232, 245, 69⟩] htb (fun z9 hz9 => absurd hz9 List.not_mem_nil) rfl (by decide) (hts _ (List.mem_of_getElem? (i := 1) rfl)) (va_Nw.use rfl (hE.2.2.2.2.2.2.1 (IOB, IOB) (List.mem_of_getElem? (i := 4) rfl))) hce hv hcl ?_
      refine lv_astore (lv' := [(6, .ref q9), (0, .ref (ad 0 0)), (1, .int ((6 : Int32))), (2, .int p2), (3, .int p3), (4, .int p4), (5, .int p5)]) hx hb dL_does_233 hl (by decide) rfl (fun ls hl => ?_)
      refine lv_sipush (v := (-1381 : Int32)) hx hb dL_does_235 (by decide) ?_
      refine W.widen (k := 1) (n := 6) (by omega) (by omega) ?_
      exact W.iret (v := (-1381 : Int32)) hx hb hr (fun t ht _ => ⟨⟨_, (σ, ν, ρ, lo), rfl, ⟨rfl, h⟩, WP.at9 ht hW⟩, hS1.F ht⟩) hS1.2.2 dL_does_238 (hlocks := hlocks)
    · refine vx_catch (name := IAE) hown [⟨0, 232, 233, 65⟩] ⟨0, 232, 239, 67⟩ [⟨0, 232, 245, 69⟩] htb (fun z9 hz9 => by rw [List.mem_singleton] at hz9; subst hz9; exact Or.inr ⟨by decide, IOB, hts _ (List.mem_of_getElem? (i := 1) rfl), hE.2.2.2.2.2.2.2.1 (IAE, IOB) (List.mem_of_getElem? (i := 1) rfl)⟩) rfl (by decide) (hts _ (List.mem_of_getElem? (i := 2) rfl)) (va_Nw.use rfl (hE.2.2.2.2.2.2.1 (IAE, IAE) (List.mem_of_getElem? (i := 2) rfl))) hce hv hcl ?_
      refine lv_astore (lv' := [(6, .ref q9), (0, .ref (ad 0 0)), (1, .int ((6 : Int32))), (2, .int p2), (3, .int p3), (4, .int p4), (5, .int p5)]) hx hb dL_does_239 hl (by decide) rfl (fun ls hl => ?_)
      refine lv_sipush (v := (-1382 : Int32)) hx hb dL_does_241 (by decide) ?_
      refine W.widen (k := 1) (n := 6) (by omega) (by omega) ?_
      exact W.iret (v := (-1382 : Int32)) hx hb hr (fun t ht _ => ⟨⟨_, (σ, ν, ρ, lo), rfl, ⟨rfl, h⟩, WP.at9 ht hW⟩, hS1.F ht⟩) hS1.2.2 dL_does_244 (hlocks := hlocks)
    · refine vx_catch (name := ISE) hown [⟨0, 232, 233, 65⟩, ⟨0, 232, 239, 67⟩] ⟨0, 232, 245, 69⟩ [] htb (fun z9 hz9 => (List.mem_cons.mp hz9).elim (fun e9 => by subst e9; exact Or.inr ⟨by decide, IOB, hts _ (List.mem_of_getElem? (i := 1) rfl), hE.2.2.2.2.2.2.2.1 (ISE, IOB) (List.mem_of_getElem? (i := 3) rfl)⟩) (fun h9 => by rw [List.mem_singleton] at h9; subst h9; exact Or.inr ⟨by decide, IAE, hts _ (List.mem_of_getElem? (i := 2) rfl), hE.2.2.2.2.2.2.2.1 (ISE, IAE) (List.mem_of_getElem? (i := 2) rfl)⟩)) rfl (by decide) (hts _ (List.mem_of_getElem? (i := 3) rfl)) (va_Nw.use rfl (hE.2.2.2.2.2.2.1 (ISE, ISE) (List.mem_of_getElem? (i := 3) rfl))) hce hv hcl ?_
      refine lv_astore (lv' := [(6, .ref q9), (0, .ref (ad 0 0)), (1, .int ((6 : Int32))), (2, .int p2), (3, .int p3), (4, .int p4), (5, .int p5)]) hx hb dL_does_245 hl (by decide) rfl (fun ls hl => ?_)
      refine lv_sipush (v := (-1383 : Int32)) hx hb dL_does_247 (by decide) ?_
      refine W.widen (k := 1) (n := 6) (by omega) (by omega) ?_
      exact W.iret (v := (-1383 : Int32)) hx hb hr (fun t ht _ => ⟨⟨_, (σ, ν, ρ, lo), rfl, ⟨rfl, h⟩, WP.at9 ht hW⟩, hS1.F ht⟩) hS1.2.2 dL_does_250 (hlocks := hlocks)
  · obtain ⟨rfl, h⟩ := hp
    have hW : WP z G ad (σ, ν, ρ, lo) H := by rw [← ht]; exact hB
    refine lv_goto (tgt := 232) hx hb dL_does_108 (by decide) ?_
    refine W.widen (k := 1) (n := 6) (by omega) (by omega) ?_
    exact W.iret (v := r8) hx hb hr (fun t ht _ => ⟨⟨_, (σ, ν, ρ, lo), rfl, ⟨rfl, h⟩, WP.at9 ht hW⟩, hS.F ht⟩) hS.2.2 dL_does_232 (hlocks := hlocks)
set_option maxHeartbeats 4000000 in
set_option maxRecDepth 100000 in
theorem mtL_does_7 (l : Launch) (hlt : l.stackTraces = false) (z : Nat) (G : Gl) (ad : Nat → Nat → Nat) (σ : SG) (ν : NU) (ρ : RH) (lo : Int64) (p2 : Int32) (p3 : Int32) (p4 : Int32) (p5 : Int32) (post : Int32 → Prop) (h : wpL_does_7 σ ν ρ p2 p3 p4 p5 post) : Met l yL_does wsL_does ({ frames := 8, cells := 1, slots := 6, locals := 124 } : Room) (Pcs z G ad (σ, ν, ρ, lo) [.ref (ad 0 0), .int ((7 : Int32)), .int p2, .int p3, .int p4, .int p5]) (Qis z G ad (fun r S1 => S1 = (σ, ν, ρ, lo) ∧ post r)) 1 6 (Az z) := by
  refine met_ofWH (cc := cL_does) (maxL := 7) (ret := (some .int)) (hh := [(0, 232, 233, 65), (0, 232, 239, 67), (0, 232, 245, 69)]) (by decide) rfl ?_
  intro p e s m args below meth c s₁ B hml hv
  obtain ⟨rfl, hz, hW, hE⟩ := hv
  have hx := B.exec
  have hb := B.bytes
  have hr := B.returns
  have hts := atoms_spec (ws := wsL_does) B.pre
  have hown : s.vm.findClass RL = some m.cls := findClass_of_methodNamed B.named
  have hlocks := B.notSynchronized
  have htb : c.exceptionTable.toList = [⟨0, 232, 233, 65⟩, ⟨0, 232, 239, 67⟩, ⟨0, 232, 245, 69⟩] := vx_table (x := yL_does) B (hts _ List.mem_cons_self)
  have hS : va_S (Az z) s.heap s.heap [] := va_S.rf
  have hl := lv_entry [.ref (ad 0 0), .int ((7 : Int32)), .int p2, .int p3, .int p4, .int p5] (n := 7) (Nat.le_of_ble_eq_true rfl)
  rw [lg_entry_eq]
  generalize (lg_sl [.ref (ad 0 0), .int ((7 : Int32)), .int p2, .int p3, .int p4, .int p5] ++ List.replicate (7 - (lg_sl [.ref (ad 0 0), .int ((7 : Int32)), .int p2, .int p3, .int p4, .int p5]).length) Slot.unset).toArray = ls at hl ⊢
  have hl : lv_has ls 7 [(0, .ref (ad 0 0)), (1, .int ((7 : Int32))), (2, .int p2), (3, .int p3), (4, .int p4), (5, .int p5)] := hl
  unfold wpL_does_7 at h
  refine lv_iload_n hx hb dL_does_0 rfl (lv_at hl 1 rfl) ?_
  refine r_if_ne hx hb (show (7 : Int32).toInt = 7 by decide) (tgt := 12) dL_does_1 (by decide) (fun c1 => ?_) (fun c1 => absurd c1 (by decide))
  refine lv_iload_n hx hb dL_does_12 rfl (lv_at hl 1 rfl) ?_
  refine lv_iconst (v := (1 : Int32)) hx hb dL_does_13 (by decide) ?_
  refine r_icmp_ne hx hb (show (7 : Int32).toInt = 7 by decide) (show (1 : Int32).toInt = 1 by decide) (tgt := 24) dL_does_14 (by decide) (fun c2 => ?_) (fun c2 => absurd c2 (by decide))
  refine lv_iload_n hx hb dL_does_24 rfl (lv_at hl 1 rfl) ?_
  refine lv_iconst (v := (2 : Int32)) hx hb dL_does_25 (by decide) ?_
  refine r_icmp_ne hx hb (show (7 : Int32).toInt = 7 by decide) (show (2 : Int32).toInt = 2 by decide) (tgt := 47) dL_does_26 (by decide) (fun c3 => ?_) (fun c3 => absurd c3 (by decide))
  refine lv_iload_n hx hb dL_does_47 rfl (lv_at hl 1 rfl) ?_
  refine lv_iconst (v := (3 : Int32)) hx hb dL_does_48 (by decide) ?_
  refine r_icmp_ne hx hb (show (7 : Int32).toInt = 7 by decide) (show (3 : Int32).toInt = 3 by decide) (tgt := 63) dL_does_49 (by decide) (fun c4 => ?_) (fun c4 => absurd c4 (by decide))
  refine lv_iload_n hx hb dL_does_63 rfl (lv_at hl 1 rfl) ?_
  refine lv_iconst (v := (4 : Int32)) hx hb dL_does_64 (by decide) ?_
  refine r_icmp_ne hx hb (show (7 : Int32).toInt = 7 by decide) (show (4 : Int32).toInt = 4 by decide) (tgt := 81) dL_does_65 (by decide) (fun c5 => ?_) (fun c5 => absurd c5 (by decide))
  refine lv_iload_n hx hb dL_does_81 rfl (lv_at hl 1 rfl) ?_
  refine lv_iconst (v := (5 : Int32)) hx hb dL_does_82 (by decide) ?_
  refine r_icmp_ne hx hb (show (7 : Int32).toInt = 7 by decide) (show (5 : Int32).toInt = 5 by decide) (tgt := 97) dL_does_83 (by decide) (fun c6 => ?_) (fun c6 => absurd c6 (by decide))
  refine lv_iload_n hx hb dL_does_97 rfl (lv_at hl 1 rfl) ?_
  refine lv_bipush (v := (6 : Int32)) hx hb dL_does_98 (by decide) ?_
  refine r_icmp_ne hx hb (show (7 : Int32).toInt = 7 by decide) (show (6 : Int32).toInt = 6 by decide) (tgt := 111) dL_does_100 (by decide) (fun c7 => ?_) (fun c7 => absurd c7 (by decide))
  refine lv_iload_n hx hb dL_does_111 rfl (lv_at hl 1 rfl) ?_
  refine lv_bipush (v := (7 : Int32)) hx hb dL_does_112 (by decide) ?_
  refine r_icmp_ne hx hb (show (7 : Int32).toInt = 7 by decide) (show (7 : Int32).toInt = 7 by decide) (tgt := 125) dL_does_114 (by decide) (fun c8 => absurd (by decide) c8) (fun c8 => ?_)
  refine lv_aload_n hx hb dL_does_117 rfl (lv_at hl 0 rfl) ?_
  refine lv_iload_n hx hb dL_does_118 rfl (lv_at hl 2 rfl) ?_
  refine vx_calli (vx_runV (As := [.int p2]) (rest := []) ⟨hx, hb, hml, hown, hts⟩ (mtX6_label l hlt z G ad σ ν ρ lo p2 _ _ h) (cwV 1 hts gL_does_X6_label rfl rfl rfl (by decide +kernel) ⟨Nat.le_of_ble_eq_true rfl, Nat.le_of_ble_eq_true rfl⟩) ⟨Pcs.blind, (r_recv hE hW 0 0 rfl (ci := 9) rfl rfl), fun U hU hw => ⟨rfl, Bc.of hE hz hW hS hU hw⟩⟩ rfl rfl hl.1 rfl (lv_room (Nat.le_of_ble_eq_true rfl)) dL_does_119 ⟨by show _ ≤ 1; omega, by show _ ≤ 6; omega⟩) hS (fun _ _ h => h) (fun _ h => h) (fun _ _ h => h) (fun E ce q9 u9 t H1 locs1 ht _ hp hB _ _ hS1 hce hv hcl => ?_) (fun r9 u9 t H locs ht _ hp hB _ _ hS => ?_)
  · obtain ⟨E9, S9⟩ := u9
    obtain ⟨rfl, hB⟩ := hB
    obtain ⟨rfl, hxk⟩ := hp
    have hW : WP z G ad (σ, ν, ρ, lo) H1 := by rw [← ht]; exact hB
    rcases hxk with ⟨rfl, h⟩ | ⟨rfl, h⟩ | ⟨rfl, h⟩
    · refine vx_catch (name := IOB) hown [] ⟨0, 232, 233, 65⟩ [⟨0, 232, 239, 67⟩, ⟨0, 232, 245, 69⟩] htb (fun z9 hz9 => absurd hz9 List.not_mem_nil) rfl (by decide) (hts _ (List.mem_of_getElem? (i := 1) rfl)) (va_Nw.use rfl (hE.2.2.2.2.2.2.1 (IOB, IOB) (List.mem_of_getElem? (i := 4) rfl))) hce hv hcl ?_
      refine lv_astore (lv' := [(6, .ref q9), (0, .ref (ad 0 0)), (1, .int ((7 : Int32))), (2, .int p2), (3, .int p3), (4, .int p4), (5, .int p5)]) hx hb dL_does_233 hl (by decide) rfl (fun ls hl => ?_)
      refine lv_sipush (v := (-1381 : Int32)) hx hb dL_does_235 (by decide) ?_
      refine W.widen (k := 1) (n := 6) (by omega) (by omega) ?_
      exact W.iret (v := (-1381 : Int32)) hx hb hr (fun t ht _ => ⟨⟨_, (σ, ν, ρ, lo), rfl, ⟨rfl, h⟩, WP.at9 ht hW⟩, hS1.F ht⟩) hS1.2.2 dL_does_238 (hlocks := hlocks)
    · refine vx_catch (name := IAE) hown [⟨0, 232, 233, 65⟩] ⟨0, 232, 239, 67⟩ [⟨0, 232, 245, 69⟩] htb (fun z9 hz9 => by rw [List.mem_singleton] at hz9; subst hz9; exact Or.inr ⟨by decide, IOB, hts _ (List.mem_of_getElem? (i := 1) rfl), hE.2.2.2.2.2.2.2.1 (IAE, IOB) (List.mem_of_getElem? (i := 1) rfl)⟩) rfl (by decide) (hts _ (List.mem_of_getElem? (i := 2) rfl)) (va_Nw.use rfl (hE.2.2.2.2.2.2.1 (IAE, IAE) (List.mem_of_getElem? (i := 2) rfl))) hce hv hcl ?_
      refine lv_astore (lv' := [(6, .ref q9), (0, .ref (ad 0 0)), (1, .int ((7 : Int32))), (2, .int p2), (3, .int p3), (4, .int p4), (5, .int p5)]) hx hb dL_does_239 hl (by decide) rfl (fun ls hl => ?_)
      refine lv_sipush (v := (-1382 : Int32)) hx hb dL_does_241 (by decide) ?_
      refine W.widen (k := 1) (n := 6) (by omega) (by omega) ?_
      exact W.iret (v := (-1382 : Int32)) hx hb hr (fun t ht _ => ⟨⟨_, (σ, ν, ρ, lo), rfl, ⟨rfl, h⟩, WP.at9 ht hW⟩, hS1.F ht⟩) hS1.2.2 dL_does_244 (hlocks := hlocks)
    · refine vx_catch (name := ISE) hown [⟨0, 232, 233, 65⟩, ⟨0, 232, 239, 67⟩] ⟨0, 232, 245, 69⟩ [] htb (fun z9 hz9 => (List.mem_cons.mp hz9).elim (fun e9 => by subst e9; exact Or.inr ⟨by decide, IOB, hts _ (List.mem_of_getElem? (i := 1) rfl), hE.2.2.2.2.2.2.2.1 (ISE, IOB) (List.mem_of_getElem? (i := 3) rfl)⟩) (fun h9 => by rw [List.mem_singleton] at h9; subst h9; exact Or.inr ⟨by decide, IAE, hts _ (List.mem_of_getElem? (i := 2) rfl), hE.2.2.2.2.2.2.2.1 (ISE, IAE) (List.mem_of_getElem? (i := 2) rfl)⟩)) rfl (by decide) (hts _ (List.mem_of_getElem? (i := 3) rfl)) (va_Nw.use rfl (hE.2.2.2.2.2.2.1 (ISE, ISE) (List.mem_of_getElem? (i := 3) rfl))) hce hv hcl ?_
      refine lv_astore (lv' := [(6, .ref q9), (0, .ref (ad 0 0)), (1, .int ((7 : Int32))), (2, .int p2), (3, .int p3), (4, .int p4), (5, .int p5)]) hx hb dL_does_245 hl (by decide) rfl (fun ls hl => ?_)
      refine lv_sipush (v := (-1383 : Int32)) hx hb dL_does_247 (by decide) ?_
      refine W.widen (k := 1) (n := 6) (by omega) (by omega) ?_
      exact W.iret (v := (-1383 : Int32)) hx hb hr (fun t ht _ => ⟨⟨_, (σ, ν, ρ, lo), rfl, ⟨rfl, h⟩, WP.at9 ht hW⟩, hS1.F ht⟩) hS1.2.2 dL_does_250 (hlocks := hlocks)
  · obtain ⟨rfl, h⟩ := hp
    have hW : WP z G ad (σ, ν, ρ, lo) H := by rw [← ht]; exact hB
    refine lv_goto (tgt := 232) hx hb dL_does_122 (by decide) ?_
    refine W.widen (k := 1) (n := 6) (by omega) (by omega) ?_
    exact W.iret (v := r9) hx hb hr (fun t ht _ => ⟨⟨_, (σ, ν, ρ, lo), rfl, ⟨rfl, h⟩, WP.at9 ht hW⟩, hS.F ht⟩) hS.2.2 dL_does_232 (hlocks := hlocks)
set_option maxHeartbeats 4000000 in
set_option maxRecDepth 100000 in
theorem mtL_does_8 (l : Launch) (hlt : l.stackTraces = false) (z : Nat) (G : Gl) (ad : Nat → Nat → Nat) (σ : SG) (ν : NU) (ρ : RH) (lo : Int64) (p2 : Int32) (p3 : Int32) (p4 : Int32) (p5 : Int32) (post : Int32 → Prop) (h : wpL_does_8 σ ν ρ p2 p3 p4 p5 post) : Met l yL_does wsL_does ({ frames := 8, cells := 1, slots := 6, locals := 124 } : Room) (Pcs z G ad (σ, ν, ρ, lo) [.ref (ad 0 0), .int ((8 : Int32)), .int p2, .int p3, .int p4, .int p5]) (Qis z G ad (fun r S1 => S1 = (σ, ν, ρ, lo) ∧ post r)) 1 6 (Az z) := by
  refine met_ofWH (cc := cL_does) (maxL := 7) (ret := (some .int)) (hh := [(0, 232, 233, 65), (0, 232, 239, 67), (0, 232, 245, 69)]) (by decide) rfl ?_
  intro p e s m args below meth c s₁ B hml hv
  obtain ⟨rfl, hz, hW, hE⟩ := hv
  have hx := B.exec
  have hb := B.bytes
  have hr := B.returns
  have hts := atoms_spec (ws := wsL_does) B.pre
  have hown : s.vm.findClass RL = some m.cls := findClass_of_methodNamed B.named
  have hlocks := B.notSynchronized
  have htb : c.exceptionTable.toList = [⟨0, 232, 233, 65⟩, ⟨0, 232, 239, 67⟩, ⟨0, 232, 245, 69⟩] := vx_table (x := yL_does) B (hts _ List.mem_cons_self)
  have hS : va_S (Az z) s.heap s.heap [] := va_S.rf
  have hl := lv_entry [.ref (ad 0 0), .int ((8 : Int32)), .int p2, .int p3, .int p4, .int p5] (n := 7) (Nat.le_of_ble_eq_true rfl)
  rw [lg_entry_eq]
  generalize (lg_sl [.ref (ad 0 0), .int ((8 : Int32)), .int p2, .int p3, .int p4, .int p5] ++ List.replicate (7 - (lg_sl [.ref (ad 0 0), .int ((8 : Int32)), .int p2, .int p3, .int p4, .int p5]).length) Slot.unset).toArray = ls at hl ⊢
  have hl : lv_has ls 7 [(0, .ref (ad 0 0)), (1, .int ((8 : Int32))), (2, .int p2), (3, .int p3), (4, .int p4), (5, .int p5)] := hl
  unfold wpL_does_8 at h
  refine lv_iload_n hx hb dL_does_0 rfl (lv_at hl 1 rfl) ?_
  refine r_if_ne hx hb (show (8 : Int32).toInt = 8 by decide) (tgt := 12) dL_does_1 (by decide) (fun c1 => ?_) (fun c1 => absurd c1 (by decide))
  refine lv_iload_n hx hb dL_does_12 rfl (lv_at hl 1 rfl) ?_
  refine lv_iconst (v := (1 : Int32)) hx hb dL_does_13 (by decide) ?_
  refine r_icmp_ne hx hb (show (8 : Int32).toInt = 8 by decide) (show (1 : Int32).toInt = 1 by decide) (tgt := 24) dL_does_14 (by decide) (fun c2 => ?_) (fun c2 => absurd c2 (by decide))
  refine lv_iload_n hx hb dL_does_24 rfl (lv_at hl 1 rfl) ?_
  refine lv_iconst (v := (2 : Int32)) hx hb dL_does_25 (by decide) ?_
  refine r_icmp_ne hx hb (show (8 : Int32).toInt = 8 by decide) (show (2 : Int32).toInt = 2 by decide) (tgt := 47) dL_does_26 (by decide) (fun c3 => ?_) (fun c3 => absurd c3 (by decide))
  refine lv_iload_n hx hb dL_does_47 rfl (lv_at hl 1 rfl) ?_
  refine lv_iconst (v := (3 : Int32)) hx hb dL_does_48 (by decide) ?_
  refine r_icmp_ne hx hb (show (8 : Int32).toInt = 8 by decide) (show (3 : Int32).toInt = 3 by decide) (tgt := 63) dL_does_49 (by decide) (fun c4 => ?_) (fun c4 => absurd c4 (by decide))
  refine lv_iload_n hx hb dL_does_63 rfl (lv_at hl 1 rfl) ?_
  refine lv_iconst (v := (4 : Int32)) hx hb dL_does_64 (by decide) ?_
  refine r_icmp_ne hx hb (show (8 : Int32).toInt = 8 by decide) (show (4 : Int32).toInt = 4 by decide) (tgt := 81) dL_does_65 (by decide) (fun c5 => ?_) (fun c5 => absurd c5 (by decide))
  refine lv_iload_n hx hb dL_does_81 rfl (lv_at hl 1 rfl) ?_
  refine lv_iconst (v := (5 : Int32)) hx hb dL_does_82 (by decide) ?_
  refine r_icmp_ne hx hb (show (8 : Int32).toInt = 8 by decide) (show (5 : Int32).toInt = 5 by decide) (tgt := 97) dL_does_83 (by decide) (fun c6 => ?_) (fun c6 => absurd c6 (by decide))
  refine lv_iload_n hx hb dL_does_97 rfl (lv_at hl 1 rfl) ?_
  refine lv_bipush (v := (6 : Int32)) hx hb dL_does_98 (by decide) ?_
  refine r_icmp_ne hx hb (show (8 : Int32).toInt = 8 by decide) (show (6 : Int32).toInt = 6 by decide) (tgt := 111) dL_does_100 (by decide) (fun c7 => ?_) (fun c7 => absurd c7 (by decide))
  refine lv_iload_n hx hb dL_does_111 rfl (lv_at hl 1 rfl) ?_
  refine lv_bipush (v := (7 : Int32)) hx hb dL_does_112 (by decide) ?_
  refine r_icmp_ne hx hb (show (8 : Int32).toInt = 8 by decide) (show (7 : Int32).toInt = 7 by decide) (tgt := 125) dL_does_114 (by decide) (fun c8 => ?_) (fun c8 => absurd c8 (by decide))
  refine lv_iload_n hx hb dL_does_125 rfl (lv_at hl 1 rfl) ?_
  refine lv_bipush (v := (8 : Int32)) hx hb dL_does_126 (by decide) ?_
  refine r_icmp_ne hx hb (show (8 : Int32).toInt = 8 by decide) (show (8 : Int32).toInt = 8 by decide) (tgt := 139) dL_does_128 (by decide) (fun c9 => absurd (by decide) c9) (fun c9 => ?_)
  refine lv_aload_n hx hb dL_does_131 rfl (lv_at hl 0 rfl) ?_
  refine lv_iload_n hx hb dL_does_132 rfl (lv_at hl 2 rfl) ?_
  refine vx_calli (vx_runV (As := [.int p2]) (rest := []) ⟨hx, hb, hml, hown, hts⟩ (mtX6_parent l hlt z G ad σ ν ρ lo p2 _ _ h) (cwV 1 hts gL_does_X6_parent rfl rfl rfl (by decide +kernel) ⟨Nat.le_of_ble_eq_true rfl, Nat.le_of_ble_eq_true rfl⟩) ⟨Pcs.blind, (r_recv hE hW 0 0 rfl (ci := 9) rfl rfl), fun U hU hw => ⟨rfl, Bc.of hE hz hW hS hU hw⟩⟩ rfl rfl hl.1 rfl (lv_room (Nat.le_of_ble_eq_true rfl)) dL_does_133 ⟨by show _ ≤ 1; omega, by show _ ≤ 6; omega⟩) hS (fun _ _ h => h) (fun _ h => h) (fun _ _ h => h) (fun E ce q9 u9 t H1 locs1 ht _ hp hB _ _ hS1 hce hv hcl => ?_) (fun r10 u9 t H locs ht _ hp hB _ _ hS => ?_)
  · obtain ⟨E9, S9⟩ := u9
    obtain ⟨rfl, hB⟩ := hB
    obtain ⟨rfl, hxk⟩ := hp
    have hW : WP z G ad (σ, ν, ρ, lo) H1 := by rw [← ht]; exact hB
    rcases hxk with ⟨rfl, h⟩ | ⟨rfl, h⟩ | ⟨rfl, h⟩
    · refine vx_catch (name := IOB) hown [] ⟨0, 232, 233, 65⟩ [⟨0, 232, 239, 67⟩, ⟨0, 232, 245, 69⟩] htb (fun z9 hz9 => absurd hz9 List.not_mem_nil) rfl (by decide) (hts _ (List.mem_of_getElem? (i := 1) rfl)) (va_Nw.use rfl (hE.2.2.2.2.2.2.1 (IOB, IOB) (List.mem_of_getElem? (i := 4) rfl))) hce hv hcl ?_
      refine lv_astore (lv' := [(6, .ref q9), (0, .ref (ad 0 0)), (1, .int ((8 : Int32))), (2, .int p2), (3, .int p3), (4, .int p4), (5, .int p5)]) hx hb dL_does_233 hl (by decide) rfl (fun ls hl => ?_)
      refine lv_sipush (v := (-1381 : Int32)) hx hb dL_does_235 (by decide) ?_
      refine W.widen (k := 1) (n := 6) (by omega) (by omega) ?_
      exact W.iret (v := (-1381 : Int32)) hx hb hr (fun t ht _ => ⟨⟨_, (σ, ν, ρ, lo), rfl, ⟨rfl, h⟩, WP.at9 ht hW⟩, hS1.F ht⟩) hS1.2.2 dL_does_238 (hlocks := hlocks)
    · refine vx_catch (name := IAE) hown [⟨0, 232, 233, 65⟩] ⟨0, 232, 239, 67⟩ [⟨0, 232, 245, 69⟩] htb (fun z9 hz9 => by rw [List.mem_singleton] at hz9; subst hz9; exact Or.inr ⟨by decide, IOB, hts _ (List.mem_of_getElem? (i := 1) rfl), hE.2.2.2.2.2.2.2.1 (IAE, IOB) (List.mem_of_getElem? (i := 1) rfl)⟩) rfl (by decide) (hts _ (List.mem_of_getElem? (i := 2) rfl)) (va_Nw.use rfl (hE.2.2.2.2.2.2.1 (IAE, IAE) (List.mem_of_getElem? (i := 2) rfl))) hce hv hcl ?_
      refine lv_astore (lv' := [(6, .ref q9), (0, .ref (ad 0 0)), (1, .int ((8 : Int32))), (2, .int p2), (3, .int p3), (4, .int p4), (5, .int p5)]) hx hb dL_does_239 hl (by decide) rfl (fun ls hl => ?_)
      refine lv_sipush (v := (-1382 : Int32)) hx hb dL_does_241 (by decide) ?_
      refine W.widen (k := 1) (n := 6) (by omega) (by omega) ?_
      exact W.iret (v := (-1382 : Int32)) hx hb hr (fun t ht _ => ⟨⟨_, (σ, ν, ρ, lo), rfl, ⟨rfl, h⟩, WP.at9 ht hW⟩, hS1.F ht⟩) hS1.2.2 dL_does_244 (hlocks := hlocks)
    · refine vx_catch (name := ISE) hown [⟨0, 232, 233, 65⟩, ⟨0, 232, 239, 67⟩] ⟨0, 232, 245, 69⟩ [] htb (fun z9 hz9 => (List.mem_cons.mp hz9).elim (fun e9 => by subst e9; exact Or.inr ⟨by decide, IOB, hts _ (List.mem_of_getElem? (i := 1) rfl), hE.2.2.2.2.2.2.2.1 (ISE, IOB) (List.mem_of_getElem? (i := 3) rfl)⟩) (fun h9 => by rw [List.mem_singleton] at h9; subst h9; exact Or.inr ⟨by decide, IAE, hts _ (List.mem_of_getElem? (i := 2) rfl), hE.2.2.2.2.2.2.2.1 (ISE, IAE) (List.mem_of_getElem? (i := 2) rfl)⟩)) rfl (by decide) (hts _ (List.mem_of_getElem? (i := 3) rfl)) (va_Nw.use rfl (hE.2.2.2.2.2.2.1 (ISE, ISE) (List.mem_of_getElem? (i := 3) rfl))) hce hv hcl ?_
      refine lv_astore (lv' := [(6, .ref q9), (0, .ref (ad 0 0)), (1, .int ((8 : Int32))), (2, .int p2), (3, .int p3), (4, .int p4), (5, .int p5)]) hx hb dL_does_245 hl (by decide) rfl (fun ls hl => ?_)
      refine lv_sipush (v := (-1383 : Int32)) hx hb dL_does_247 (by decide) ?_
      refine W.widen (k := 1) (n := 6) (by omega) (by omega) ?_
      exact W.iret (v := (-1383 : Int32)) hx hb hr (fun t ht _ => ⟨⟨_, (σ, ν, ρ, lo), rfl, ⟨rfl, h⟩, WP.at9 ht hW⟩, hS1.F ht⟩) hS1.2.2 dL_does_250 (hlocks := hlocks)
  · obtain ⟨rfl, h⟩ := hp
    have hW : WP z G ad (σ, ν, ρ, lo) H := by rw [← ht]; exact hB
    refine lv_goto (tgt := 232) hx hb dL_does_136 (by decide) ?_
    refine W.widen (k := 1) (n := 6) (by omega) (by omega) ?_
    exact W.iret (v := r10) hx hb hr (fun t ht _ => ⟨⟨_, (σ, ν, ρ, lo), rfl, ⟨rfl, h⟩, WP.at9 ht hW⟩, hS.F ht⟩) hS.2.2 dL_does_232 (hlocks := hlocks)
set_option maxHeartbeats 4000000 in
set_option maxRecDepth 100000 in
theorem mtL_does_9 (l : Launch) (hlt : l.stackTraces = false) (z : Nat) (G : Gl) (ad : Nat → Nat → Nat) (σ : SG) (ν : NU) (ρ : RH) (lo : Int64) (p2 : Int32) (p3 : Int32) (p4 : Int32) (p5 : Int32) (post : Int32 → Prop) (h : wpL_does_9 σ ν ρ p2 p3 p4 p5 post) : Met l yL_does wsL_does ({ frames := 8, cells := 1, slots := 6, locals := 124 } : Room) (Pcs z G ad (σ, ν, ρ, lo) [.ref (ad 0 0), .int ((9 : Int32)), .int p2, .int p3, .int p4, .int p5]) (Qis z G ad (fun r S1 => S1 = (σ, ν, ρ, lo) ∧ post r)) 1 6 (Az z) := by
  refine met_ofWH (cc := cL_does) (maxL := 7) (ret := (some .int)) (hh := [(0, 232, 233, 65), (0, 232, 239, 67), (0, 232, 245, 69)]) (by decide) rfl ?_
  intro p e s m args below meth c s₁ B hml hv
  obtain ⟨rfl, hz, hW, hE⟩ := hv
  have hx := B.exec
  have hb := B.bytes
  have hr := B.returns
  have hts := atoms_spec (ws := wsL_does) B.pre
  have hown : s.vm.findClass RL = some m.cls := findClass_of_methodNamed B.named
  have hlocks := B.notSynchronized
  have htb : c.exceptionTable.toList = [⟨0, 232, 233, 65⟩, ⟨0, 232, 239, 67⟩, ⟨0, 232, 245, 69⟩] := vx_table (x := yL_does) B (hts _ List.mem_cons_self)
  have hS : va_S (Az z) s.heap s.heap [] := va_S.rf
  have hl := lv_entry [.ref (ad 0 0), .int ((9 : Int32)), .int p2, .int p3, .int p4, .int p5] (n := 7) (Nat.le_of_ble_eq_true rfl)
  rw [lg_entry_eq]
  generalize (lg_sl [.ref (ad 0 0), .int ((9 : Int32)), .int p2, .int p3, .int p4, .int p5] ++ List.replicate (7 - (lg_sl [.ref (ad 0 0), .int ((9 : Int32)), .int p2, .int p3, .int p4, .int p5]).length) Slot.unset).toArray = ls at hl ⊢
  have hl : lv_has ls 7 [(0, .ref (ad 0 0)), (1, .int ((9 : Int32))), (2, .int p2), (3, .int p3), (4, .int p4), (5, .int p5)] := hl
  unfold wpL_does_9 at h
  refine lv_iload_n hx hb dL_does_0 rfl (lv_at hl 1 rfl) ?_
  refine r_if_ne hx hb (show (9 : Int32).toInt = 9 by decide) (tgt := 12) dL_does_1 (by decide) (fun c1 => ?_) (fun c1 => absurd c1 (by decide))
  refine lv_iload_n hx hb dL_does_12 rfl (lv_at hl 1 rfl) ?_
  refine lv_iconst (v := (1 : Int32)) hx hb dL_does_13 (by decide) ?_
  refine r_icmp_ne hx hb (show (9 : Int32).toInt = 9 by decide) (show (1 : Int32).toInt = 1 by decide) (tgt := 24) dL_does_14 (by decide) (fun c2 => ?_) (fun c2 => absurd c2 (by decide))
  refine lv_iload_n hx hb dL_does_24 rfl (lv_at hl 1 rfl) ?_
  refine lv_iconst (v := (2 : Int32)) hx hb dL_does_25 (by decide) ?_
  refine r_icmp_ne hx hb (show (9 : Int32).toInt = 9 by decide) (show (2 : Int32).toInt = 2 by decide) (tgt := 47) dL_does_26 (by decide) (fun c3 => ?_) (fun c3 => absurd c3 (by decide))
  refine lv_iload_n hx hb dL_does_47 rfl (lv_at hl 1 rfl) ?_
  refine lv_iconst (v := (3 : Int32)) hx hb dL_does_48 (by decide) ?_
  refine r_icmp_ne hx hb (show (9 : Int32).toInt = 9 by decide) (show (3 : Int32).toInt = 3 by decide) (tgt := 63) dL_does_49 (by decide) (fun c4 => ?_) (fun c4 => absurd c4 (by decide))
  refine lv_iload_n hx hb dL_does_63 rfl (lv_at hl 1 rfl) ?_
  refine lv_iconst (v := (4 : Int32)) hx hb dL_does_64 (by decide) ?_
  refine r_icmp_ne hx hb (show (9 : Int32).toInt = 9 by decide) (show (4 : Int32).toInt = 4 by decide) (tgt := 81) dL_does_65 (by decide) (fun c5 => ?_) (fun c5 => absurd c5 (by decide))
  refine lv_iload_n hx hb dL_does_81 rfl (lv_at hl 1 rfl) ?_
  refine lv_iconst (v := (5 : Int32)) hx hb dL_does_82 (by decide) ?_
  refine r_icmp_ne hx hb (show (9 : Int32).toInt = 9 by decide) (show (5 : Int32).toInt = 5 by decide) (tgt := 97) dL_does_83 (by decide) (fun c6 => ?_) (fun c6 => absurd c6 (by decide))
  refine lv_iload_n hx hb dL_does_97 rfl (lv_at hl 1 rfl) ?_
  refine lv_bipush (v := (6 : Int32)) hx hb dL_does_98 (by decide) ?_
  refine r_icmp_ne hx hb (show (9 : Int32).toInt = 9 by decide) (show (6 : Int32).toInt = 6 by decide) (tgt := 111) dL_does_100 (by decide) (fun c7 => ?_) (fun c7 => absurd c7 (by decide))
  refine lv_iload_n hx hb dL_does_111 rfl (lv_at hl 1 rfl) ?_
  refine lv_bipush (v := (7 : Int32)) hx hb dL_does_112 (by decide) ?_
  refine r_icmp_ne hx hb (show (9 : Int32).toInt = 9 by decide) (show (7 : Int32).toInt = 7 by decide) (tgt := 125) dL_does_114 (by decide) (fun c8 => ?_) (fun c8 => absurd c8 (by decide))
  refine lv_iload_n hx hb dL_does_125 rfl (lv_at hl 1 rfl) ?_
  refine lv_bipush (v := (8 : Int32)) hx hb dL_does_126 (by decide) ?_
  refine r_icmp_ne hx hb (show (9 : Int32).toInt = 9 by decide) (show (8 : Int32).toInt = 8 by decide) (tgt := 139) dL_does_128 (by decide) (fun c9 => ?_) (fun c9 => absurd c9 (by decide))
  refine lv_iload_n hx hb dL_does_139 rfl (lv_at hl 1 rfl) ?_
  refine lv_bipush (v := (9 : Int32)) hx hb dL_does_140 (by decide) ?_
  refine r_icmp_ne hx hb (show (9 : Int32).toInt = 9 by decide) (show (9 : Int32).toInt = 9 by decide) (tgt := 153) dL_does_142 (by decide) (fun c10 => absurd (by decide) c10) (fun c10 => ?_)
  refine lv_aload_n hx hb dL_does_145 rfl (lv_at hl 0 rfl) ?_
  refine lv_iload_n hx hb dL_does_146 rfl (lv_at hl 2 rfl) ?_
  refine vx_calli (vx_runV (As := [.int p2]) (rest := []) ⟨hx, hb, hml, hown, hts⟩ (mtX6_words l hlt z G ad σ ν ρ lo p2 _ _ h) (cwV 1 hts gL_does_X6_words rfl rfl rfl (by decide +kernel) ⟨Nat.le_of_ble_eq_true rfl, Nat.le_of_ble_eq_true rfl⟩) ⟨Pcs.blind, (r_recv hE hW 0 0 rfl (ci := 9) rfl rfl), fun U hU hw => ⟨rfl, Bc.of hE hz hW hS hU hw⟩⟩ rfl rfl hl.1 rfl (lv_room (Nat.le_of_ble_eq_true rfl)) dL_does_147 ⟨by show _ ≤ 1; omega, by show _ ≤ 6; omega⟩) hS (fun _ _ h => h) (fun _ h => h) (fun _ _ h => h) (fun E ce q9 u9 t H1 locs1 ht _ hp hB _ _ hS1 hce hv hcl => ?_) (fun r11 u9 t H locs ht _ hp hB _ _ hS => ?_)
  · obtain ⟨E9, S9⟩ := u9
    obtain ⟨rfl, hB⟩ := hB
    obtain ⟨rfl, hxk⟩ := hp
    have hW : WP z G ad (σ, ν, ρ, lo) H1 := by rw [← ht]; exact hB
    rcases hxk with ⟨rfl, h⟩ | ⟨rfl, h⟩ | ⟨rfl, h⟩
    · refine vx_catch (name := IOB) hown [] ⟨0, 232, 233, 65⟩ [⟨0, 232, 239, 67⟩, ⟨0, 232, 245, 69⟩] htb (fun z9 hz9 => absurd hz9 List.not_mem_nil) rfl (by decide) (hts _ (List.mem_of_getElem? (i := 1) rfl)) (va_Nw.use rfl (hE.2.2.2.2.2.2.1 (IOB, IOB) (List.mem_of_getElem? (i := 4) rfl))) hce hv hcl ?_
      refine lv_astore (lv' := [(6, .ref q9), (0, .ref (ad 0 0)), (1, .int ((9 : Int32))), (2, .int p2), (3, .int p3), (4, .int p4), (5, .int p5)]) hx hb dL_does_233 hl (by decide) rfl (fun ls hl => ?_)
      refine lv_sipush (v := (-1381 : Int32)) hx hb dL_does_235 (by decide) ?_
      refine W.widen (k := 1) (n := 6) (by omega) (by omega) ?_
      exact W.iret (v := (-1381 : Int32)) hx hb hr (fun t ht _ => ⟨⟨_, (σ, ν, ρ, lo), rfl, ⟨rfl, h⟩, WP.at9 ht hW⟩, hS1.F ht⟩) hS1.2.2 dL_does_238 (hlocks := hlocks)
    · refine vx_catch (name := IAE) hown [⟨0, 232, 233, 65⟩] ⟨0, 232, 239, 67⟩ [⟨0, 232, 245, 69⟩] htb (fun z9 hz9 => by rw [List.mem_singleton] at hz9; subst hz9; exact Or.inr ⟨by decide, IOB, hts _ (List.mem_of_getElem? (i := 1) rfl), hE.2.2.2.2.2.2.2.1 (IAE, IOB) (List.mem_of_getElem? (i := 1) rfl)⟩) rfl (by decide) (hts _ (List.mem_of_getElem? (i := 2) rfl)) (va_Nw.use rfl (hE.2.2.2.2.2.2.1 (IAE, IAE) (List.mem_of_getElem? (i := 2) rfl))) hce hv hcl ?_
      refine lv_astore (lv' := [(6, .ref q9), (0, .ref (ad 0 0)), (1, .int ((9 : Int32))), (2, .int p2), (3, .int p3), (4, .int p4), (5, .int p5)]) hx hb dL_does_239 hl (by decide) rfl (fun ls hl => ?_)
      refine lv_sipush (v := (-1382 : Int32)) hx hb dL_does_241 (by decide) ?_
      refine W.widen (k := 1) (n := 6) (by omega) (by omega) ?_
      exact W.iret (v := (-1382 : Int32)) hx hb hr (fun t ht _ => ⟨⟨_, (σ, ν, ρ, lo), rfl, ⟨rfl, h⟩, WP.at9 ht hW⟩, hS1.F ht⟩) hS1.2.2 dL_does_244 (hlocks := hlocks)
    · refine vx_catch (name := ISE) hown [⟨0, 232, 233, 65⟩, ⟨0, 232, 239, 67⟩] ⟨0, 232, 245, 69⟩ [] htb (fun z9 hz9 => (List.mem_cons.mp hz9).elim (fun e9 => by subst e9; exact Or.inr ⟨by decide, IOB, hts _ (List.mem_of_getElem? (i := 1) rfl), hE.2.2.2.2.2.2.2.1 (ISE, IOB) (List.mem_of_getElem? (i := 3) rfl)⟩) (fun h9 => by rw [List.mem_singleton] at h9; subst h9; exact Or.inr ⟨by decide, IAE, hts _ (List.mem_of_getElem? (i := 2) rfl), hE.2.2.2.2.2.2.2.1 (ISE, IAE) (List.mem_of_getElem? (i := 2) rfl)⟩)) rfl (by decide) (hts _ (List.mem_of_getElem? (i := 3) rfl)) (va_Nw.use rfl (hE.2.2.2.2.2.2.1 (ISE, ISE) (List.mem_of_getElem? (i := 3) rfl))) hce hv hcl ?_
      refine lv_astore (lv' := [(6, .ref q9), (0, .ref (ad 0 0)), (1, .int ((9 : Int32))), (2, .int p2), (3, .int p3), (4, .int p4), (5, .int p5)]) hx hb dL_does_245 hl (by decide) rfl (fun ls hl => ?_)
      refine lv_sipush (v := (-1383 : Int32)) hx hb dL_does_247 (by decide) ?_
      refine W.widen (k := 1) (n := 6) (by omega) (by omega) ?_
      exact W.iret (v := (-1383 : Int32)) hx hb hr (fun t ht _ => ⟨⟨_, (σ, ν, ρ, lo), rfl, ⟨rfl, h⟩, WP.at9 ht hW⟩, hS1.F ht⟩) hS1.2.2 dL_does_250 (hlocks := hlocks)
  · obtain ⟨rfl, h⟩ := hp
    have hW : WP z G ad (σ, ν, ρ, lo) H := by rw [← ht]; exact hB
    refine lv_goto (tgt := 232) hx hb dL_does_150 (by decide) ?_
    refine W.widen (k := 1) (n := 6) (by omega) (by omega) ?_
    exact W.iret (v := r11) hx hb hr (fun t ht _ => ⟨⟨_, (σ, ν, ρ, lo), rfl, ⟨rfl, h⟩, WP.at9 ht hW⟩, hS.F ht⟩) hS.2.2 dL_does_232 (hlocks := hlocks)
set_option maxHeartbeats 4000000 in
set_option maxRecDepth 100000 in
theorem mtL_does_10 (l : Launch) (hlt : l.stackTraces = false) (z : Nat) (G : Gl) (ad : Nat → Nat → Nat) (σ : SG) (ν : NU) (ρ : RH) (lo : Int64) (p2 : Int32) (p3 : Int32) (p4 : Int32) (p5 : Int32) (post : Int32 → Prop) (h : wpL_does_10 σ ν ρ p2 p3 p4 p5 post) : Met l yL_does wsL_does ({ frames := 9, cells := 2, slots := 12, locals := 147 } : Room) (Pcs z G ad (σ, ν, ρ, lo) [.ref (ad 0 0), .int ((10 : Int32)), .int p2, .int p3, .int p4, .int p5]) (Qis z G ad (fun r S1 => S1 = (σ, ν, ρ, lo) ∧ post r)) 2 12 (Az z) := by
  refine met_ofWH (cc := cL_does) (maxL := 7) (ret := (some .int)) (hh := [(0, 232, 233, 65), (0, 232, 239, 67), (0, 232, 245, 69)]) (by decide) rfl ?_
  intro p e s m args below meth c s₁ B hml hv
  obtain ⟨rfl, hz, hW, hE⟩ := hv
  have hx := B.exec
  have hb := B.bytes
  have hr := B.returns
  have hts := atoms_spec (ws := wsL_does) B.pre
  have hown : s.vm.findClass RL = some m.cls := findClass_of_methodNamed B.named
  have hlocks := B.notSynchronized
  have htb : c.exceptionTable.toList = [⟨0, 232, 233, 65⟩, ⟨0, 232, 239, 67⟩, ⟨0, 232, 245, 69⟩] := vx_table (x := yL_does) B (hts _ List.mem_cons_self)
  have hS : va_S (Az z) s.heap s.heap [] := va_S.rf
  have hl := lv_entry [.ref (ad 0 0), .int ((10 : Int32)), .int p2, .int p3, .int p4, .int p5] (n := 7) (Nat.le_of_ble_eq_true rfl)
  rw [lg_entry_eq]
  generalize (lg_sl [.ref (ad 0 0), .int ((10 : Int32)), .int p2, .int p3, .int p4, .int p5] ++ List.replicate (7 - (lg_sl [.ref (ad 0 0), .int ((10 : Int32)), .int p2, .int p3, .int p4, .int p5]).length) Slot.unset).toArray = ls at hl ⊢
  have hl : lv_has ls 7 [(0, .ref (ad 0 0)), (1, .int ((10 : Int32))), (2, .int p2), (3, .int p3), (4, .int p4), (5, .int p5)] := hl
  unfold wpL_does_10 at h
  refine lv_iload_n hx hb dL_does_0 rfl (lv_at hl 1 rfl) ?_
  refine r_if_ne hx hb (show (10 : Int32).toInt = 10 by decide) (tgt := 12) dL_does_1 (by decide) (fun c1 => ?_) (fun c1 => absurd c1 (by decide))
  refine lv_iload_n hx hb dL_does_12 rfl (lv_at hl 1 rfl) ?_
  refine lv_iconst (v := (1 : Int32)) hx hb dL_does_13 (by decide) ?_
  refine r_icmp_ne hx hb (show (10 : Int32).toInt = 10 by decide) (show (1 : Int32).toInt = 1 by decide) (tgt := 24) dL_does_14 (by decide) (fun c2 => ?_) (fun c2 => absurd c2 (by decide))
  refine lv_iload_n hx hb dL_does_24 rfl (lv_at hl 1 rfl) ?_
  refine lv_iconst (v := (2 : Int32)) hx hb dL_does_25 (by decide) ?_
  refine r_icmp_ne hx hb (show (10 : Int32).toInt = 10 by decide) (show (2 : Int32).toInt = 2 by decide) (tgt := 47) dL_does_26 (by decide) (fun c3 => ?_) (fun c3 => absurd c3 (by decide))
  refine lv_iload_n hx hb dL_does_47 rfl (lv_at hl 1 rfl) ?_
  refine lv_iconst (v := (3 : Int32)) hx hb dL_does_48 (by decide) ?_
  refine r_icmp_ne hx hb (show (10 : Int32).toInt = 10 by decide) (show (3 : Int32).toInt = 3 by decide) (tgt := 63) dL_does_49 (by decide) (fun c4 => ?_) (fun c4 => absurd c4 (by decide))
  refine lv_iload_n hx hb dL_does_63 rfl (lv_at hl 1 rfl) ?_
  refine lv_iconst (v := (4 : Int32)) hx hb dL_does_64 (by decide) ?_
  refine r_icmp_ne hx hb (show (10 : Int32).toInt = 10 by decide) (show (4 : Int32).toInt = 4 by decide) (tgt := 81) dL_does_65 (by decide) (fun c5 => ?_) (fun c5 => absurd c5 (by decide))
  refine lv_iload_n hx hb dL_does_81 rfl (lv_at hl 1 rfl) ?_
  refine lv_iconst (v := (5 : Int32)) hx hb dL_does_82 (by decide) ?_
  refine r_icmp_ne hx hb (show (10 : Int32).toInt = 10 by decide) (show (5 : Int32).toInt = 5 by decide) (tgt := 97) dL_does_83 (by decide) (fun c6 => ?_) (fun c6 => absurd c6 (by decide))
  refine lv_iload_n hx hb dL_does_97 rfl (lv_at hl 1 rfl) ?_
  refine lv_bipush (v := (6 : Int32)) hx hb dL_does_98 (by decide) ?_
  refine r_icmp_ne hx hb (show (10 : Int32).toInt = 10 by decide) (show (6 : Int32).toInt = 6 by decide) (tgt := 111) dL_does_100 (by decide) (fun c7 => ?_) (fun c7 => absurd c7 (by decide))
  refine lv_iload_n hx hb dL_does_111 rfl (lv_at hl 1 rfl) ?_
  refine lv_bipush (v := (7 : Int32)) hx hb dL_does_112 (by decide) ?_
  refine r_icmp_ne hx hb (show (10 : Int32).toInt = 10 by decide) (show (7 : Int32).toInt = 7 by decide) (tgt := 125) dL_does_114 (by decide) (fun c8 => ?_) (fun c8 => absurd c8 (by decide))
  refine lv_iload_n hx hb dL_does_125 rfl (lv_at hl 1 rfl) ?_
  refine lv_bipush (v := (8 : Int32)) hx hb dL_does_126 (by decide) ?_
  refine r_icmp_ne hx hb (show (10 : Int32).toInt = 10 by decide) (show (8 : Int32).toInt = 8 by decide) (tgt := 139) dL_does_128 (by decide) (fun c9 => ?_) (fun c9 => absurd c9 (by decide))
  refine lv_iload_n hx hb dL_does_139 rfl (lv_at hl 1 rfl) ?_
  refine lv_bipush (v := (9 : Int32)) hx hb dL_does_140 (by decide) ?_
  refine r_icmp_ne hx hb (show (10 : Int32).toInt = 10 by decide) (show (9 : Int32).toInt = 9 by decide) (tgt := 153) dL_does_142 (by decide) (fun c10 => ?_) (fun c10 => absurd c10 (by decide))
  refine lv_iload_n hx hb dL_does_153 rfl (lv_at hl 1 rfl) ?_
  refine lv_bipush (v := (10 : Int32)) hx hb dL_does_154 (by decide) ?_
  refine r_icmp_ne hx hb (show (10 : Int32).toInt = 10 by decide) (show (10 : Int32).toInt = 10 by decide) (tgt := 168) dL_does_156 (by decide) (fun c11 => absurd (by decide) c11) (fun c11 => ?_)
  refine lv_aload_n hx hb dL_does_159 rfl (lv_at hl 0 rfl) ?_
  refine lv_iload_n hx hb dL_does_160 rfl (lv_at hl 2 rfl) ?_
  refine lv_iload_n hx hb dL_does_161 rfl (lv_at hl 3 rfl) ?_
  refine vx_calli (vx_runV (As := [.int p2, .int p3]) (rest := []) ⟨hx, hb, hml, hown, hts⟩ (mtX6_wordAt l hlt z G ad σ ν ρ lo p2 p3 _ _ h) (cwV 2 hts gL_does_X6_wordAt rfl rfl rfl (by decide +kernel) ⟨Nat.le_of_ble_eq_true rfl, Nat.le_of_ble_eq_true rfl⟩) ⟨Pcs.blind, (r_recv hE hW 0 0 rfl (ci := 9) rfl rfl), fun U hU hw => ⟨rfl, Bc.of hE hz hW hS hU hw⟩⟩ rfl rfl hl.1 rfl (lv_room (Nat.le_of_ble_eq_true rfl)) dL_does_162 ⟨by show _ ≤ 2; omega, by show _ ≤ 12; omega⟩) hS (fun _ _ h => h) (fun _ h => h) (fun _ _ h => h) (fun E ce q9 u9 t H1 locs1 ht _ hp hB _ _ hS1 hce hv hcl => ?_) (fun r12 u9 t H locs ht _ hp hB _ _ hS => ?_)
  · obtain ⟨E9, S9⟩ := u9
    obtain ⟨rfl, hB⟩ := hB
    obtain ⟨rfl, hxk⟩ := hp
    have hW : WP z G ad (σ, ν, ρ, lo) H1 := by rw [← ht]; exact hB
    rcases hxk with ⟨rfl, h⟩ | ⟨rfl, h⟩ | ⟨rfl, h⟩
    · refine vx_catch (name := IOB) hown [] ⟨0, 232, 233, 65⟩ [⟨0, 232, 239, 67⟩, ⟨0, 232, 245, 69⟩] htb (fun z9 hz9 => absurd hz9 List.not_mem_nil) rfl (by decide) (hts _ (List.mem_of_getElem? (i := 1) rfl)) (va_Nw.use rfl (hE.2.2.2.2.2.2.1 (IOB, IOB) (List.mem_of_getElem? (i := 4) rfl))) hce hv hcl ?_
      refine lv_astore (lv' := [(6, .ref q9), (0, .ref (ad 0 0)), (1, .int ((10 : Int32))), (2, .int p2), (3, .int p3), (4, .int p4), (5, .int p5)]) hx hb dL_does_233 hl (by decide) rfl (fun ls hl => ?_)
      refine lv_sipush (v := (-1381 : Int32)) hx hb dL_does_235 (by decide) ?_
      refine W.widen (k := 2) (n := 12) (by omega) (by omega) ?_
      exact W.iret (v := (-1381 : Int32)) hx hb hr (fun t ht _ => ⟨⟨_, (σ, ν, ρ, lo), rfl, ⟨rfl, h⟩, WP.at9 ht hW⟩, hS1.F ht⟩) hS1.2.2 dL_does_238 (hlocks := hlocks)
    · refine vx_catch (name := IAE) hown [⟨0, 232, 233, 65⟩] ⟨0, 232, 239, 67⟩ [⟨0, 232, 245, 69⟩] htb (fun z9 hz9 => by rw [List.mem_singleton] at hz9; subst hz9; exact Or.inr ⟨by decide, IOB, hts _ (List.mem_of_getElem? (i := 1) rfl), hE.2.2.2.2.2.2.2.1 (IAE, IOB) (List.mem_of_getElem? (i := 1) rfl)⟩) rfl (by decide) (hts _ (List.mem_of_getElem? (i := 2) rfl)) (va_Nw.use rfl (hE.2.2.2.2.2.2.1 (IAE, IAE) (List.mem_of_getElem? (i := 2) rfl))) hce hv hcl ?_
      refine lv_astore (lv' := [(6, .ref q9), (0, .ref (ad 0 0)), (1, .int ((10 : Int32))), (2, .int p2), (3, .int p3), (4, .int p4), (5, .int p5)]) hx hb dL_does_239 hl (by decide) rfl (fun ls hl => ?_)
      refine lv_sipush (v := (-1382 : Int32)) hx hb dL_does_241 (by decide) ?_
      refine W.widen (k := 2) (n := 12) (by omega) (by omega) ?_
      exact W.iret (v := (-1382 : Int32)) hx hb hr (fun t ht _ => ⟨⟨_, (σ, ν, ρ, lo), rfl, ⟨rfl, h⟩, WP.at9 ht hW⟩, hS1.F ht⟩) hS1.2.2 dL_does_244 (hlocks := hlocks)
    · refine vx_catch (name := ISE) hown [⟨0, 232, 233, 65⟩, ⟨0, 232, 239, 67⟩] ⟨0, 232, 245, 69⟩ [] htb (fun z9 hz9 => (List.mem_cons.mp hz9).elim (fun e9 => by subst e9; exact Or.inr ⟨by decide, IOB, hts _ (List.mem_of_getElem? (i := 1) rfl), hE.2.2.2.2.2.2.2.1 (ISE, IOB) (List.mem_of_getElem? (i := 3) rfl)⟩) (fun h9 => by rw [List.mem_singleton] at h9; subst h9; exact Or.inr ⟨by decide, IAE, hts _ (List.mem_of_getElem? (i := 2) rfl), hE.2.2.2.2.2.2.2.1 (ISE, IAE) (List.mem_of_getElem? (i := 2) rfl)⟩)) rfl (by decide) (hts _ (List.mem_of_getElem? (i := 3) rfl)) (va_Nw.use rfl (hE.2.2.2.2.2.2.1 (ISE, ISE) (List.mem_of_getElem? (i := 3) rfl))) hce hv hcl ?_
      refine lv_astore (lv' := [(6, .ref q9), (0, .ref (ad 0 0)), (1, .int ((10 : Int32))), (2, .int p2), (3, .int p3), (4, .int p4), (5, .int p5)]) hx hb dL_does_245 hl (by decide) rfl (fun ls hl => ?_)
      refine lv_sipush (v := (-1383 : Int32)) hx hb dL_does_247 (by decide) ?_
      refine W.widen (k := 2) (n := 12) (by omega) (by omega) ?_
      exact W.iret (v := (-1383 : Int32)) hx hb hr (fun t ht _ => ⟨⟨_, (σ, ν, ρ, lo), rfl, ⟨rfl, h⟩, WP.at9 ht hW⟩, hS1.F ht⟩) hS1.2.2 dL_does_250 (hlocks := hlocks)
  · obtain ⟨rfl, h⟩ := hp
    have hW : WP z G ad (σ, ν, ρ, lo) H := by rw [← ht]; exact hB
    refine lv_goto (tgt := 232) hx hb dL_does_165 (by decide) ?_
    refine W.widen (k := 2) (n := 12) (by omega) (by omega) ?_
    exact W.iret (v := r12) hx hb hr (fun t ht _ => ⟨⟨_, (σ, ν, ρ, lo), rfl, ⟨rfl, h⟩, WP.at9 ht hW⟩, hS.F ht⟩) hS.2.2 dL_does_232 (hlocks := hlocks)
set_option maxHeartbeats 4000000 in
set_option maxRecDepth 100000 in
theorem mtL_does_11 (l : Launch) (hlt : l.stackTraces = false) (z : Nat) (G : Gl) (ad : Nat → Nat → Nat) (σ : SG) (ν : NU) (ρ : RH) (lo : Int64) (p2 : Int32) (p3 : Int32) (p4 : Int32) (p5 : Int32) (post : Int32 → SG → Prop) (h : wpL_does_11 σ ν ρ p2 p3 p4 p5 post) : Met l yL_does wsL_does ({ frames := 8, cells := 2, slots := 12, locals := 153 } : Room) (Pcs z G ad (σ, ν, ρ, lo) [.ref (ad 0 0), .int ((11 : Int32)), .int p2, .int p3, .int p4, .int p5]) (Qis z G ad (fun r S1 => ∃ t : SG, S1 = (t, ν, ρ, lo) ∧ post r t)) 2 12 (Az z) := by
  refine met_ofWH (cc := cL_does) (maxL := 7) (ret := (some .int)) (hh := [(0, 232, 233, 65), (0, 232, 239, 67), (0, 232, 245, 69)]) (by decide) rfl ?_
  intro p e s m args below meth c s₁ B hml hv
  obtain ⟨rfl, hz, hW, hE⟩ := hv
  have hx := B.exec
  have hb := B.bytes
  have hr := B.returns
  have hts := atoms_spec (ws := wsL_does) B.pre
  have hown : s.vm.findClass RL = some m.cls := findClass_of_methodNamed B.named
  have hlocks := B.notSynchronized
  have htb : c.exceptionTable.toList = [⟨0, 232, 233, 65⟩, ⟨0, 232, 239, 67⟩, ⟨0, 232, 245, 69⟩] := vx_table (x := yL_does) B (hts _ List.mem_cons_self)
  have hS : va_S (Az z) s.heap s.heap [] := va_S.rf
  have hl := lv_entry [.ref (ad 0 0), .int ((11 : Int32)), .int p2, .int p3, .int p4, .int p5] (n := 7) (Nat.le_of_ble_eq_true rfl)
  rw [lg_entry_eq]
  generalize (lg_sl [.ref (ad 0 0), .int ((11 : Int32)), .int p2, .int p3, .int p4, .int p5] ++ List.replicate (7 - (lg_sl [.ref (ad 0 0), .int ((11 : Int32)), .int p2, .int p3, .int p4, .int p5]).length) Slot.unset).toArray = ls at hl ⊢
  have hl : lv_has ls 7 [(0, .ref (ad 0 0)), (1, .int ((11 : Int32))), (2, .int p2), (3, .int p3), (4, .int p4), (5, .int p5)] := hl
  unfold wpL_does_11 at h
  refine lv_iload_n hx hb dL_does_0 rfl (lv_at hl 1 rfl) ?_
  refine r_if_ne hx hb (show (11 : Int32).toInt = 11 by decide) (tgt := 12) dL_does_1 (by decide) (fun c1 => ?_) (fun c1 => absurd c1 (by decide))
  refine lv_iload_n hx hb dL_does_12 rfl (lv_at hl 1 rfl) ?_
  refine lv_iconst (v := (1 : Int32)) hx hb dL_does_13 (by decide) ?_
  refine r_icmp_ne hx hb (show (11 : Int32).toInt = 11 by decide) (show (1 : Int32).toInt = 1 by decide) (tgt := 24) dL_does_14 (by decide) (fun c2 => ?_) (fun c2 => absurd c2 (by decide))
  refine lv_iload_n hx hb dL_does_24 rfl (lv_at hl 1 rfl) ?_
  refine lv_iconst (v := (2 : Int32)) hx hb dL_does_25 (by decide) ?_
  refine r_icmp_ne hx hb (show (11 : Int32).toInt = 11 by decide) (show (2 : Int32).toInt = 2 by decide) (tgt := 47) dL_does_26 (by decide) (fun c3 => ?_) (fun c3 => absurd c3 (by decide))
  refine lv_iload_n hx hb dL_does_47 rfl (lv_at hl 1 rfl) ?_
  refine lv_iconst (v := (3 : Int32)) hx hb dL_does_48 (by decide) ?_
  refine r_icmp_ne hx hb (show (11 : Int32).toInt = 11 by decide) (show (3 : Int32).toInt = 3 by decide) (tgt := 63) dL_does_49 (by decide) (fun c4 => ?_) (fun c4 => absurd c4 (by decide))
  refine lv_iload_n hx hb dL_does_63 rfl (lv_at hl 1 rfl) ?_
  refine lv_iconst (v := (4 : Int32)) hx hb dL_does_64 (by decide) ?_
  refine r_icmp_ne hx hb (show (11 : Int32).toInt = 11 by decide) (show (4 : Int32).toInt = 4 by decide) (tgt := 81) dL_does_65 (by decide) (fun c5 => ?_) (fun c5 => absurd c5 (by decide))
  refine lv_iload_n hx hb dL_does_81 rfl (lv_at hl 1 rfl) ?_
  refine lv_iconst (v := (5 : Int32)) hx hb dL_does_82 (by decide) ?_
  refine r_icmp_ne hx hb (show (11 : Int32).toInt = 11 by decide) (show (5 : Int32).toInt = 5 by decide) (tgt := 97) dL_does_83 (by decide) (fun c6 => ?_) (fun c6 => absurd c6 (by decide))
  refine lv_iload_n hx hb dL_does_97 rfl (lv_at hl 1 rfl) ?_
  refine lv_bipush (v := (6 : Int32)) hx hb dL_does_98 (by decide) ?_
  refine r_icmp_ne hx hb (show (11 : Int32).toInt = 11 by decide) (show (6 : Int32).toInt = 6 by decide) (tgt := 111) dL_does_100 (by decide) (fun c7 => ?_) (fun c7 => absurd c7 (by decide))
  refine lv_iload_n hx hb dL_does_111 rfl (lv_at hl 1 rfl) ?_
  refine lv_bipush (v := (7 : Int32)) hx hb dL_does_112 (by decide) ?_
  refine r_icmp_ne hx hb (show (11 : Int32).toInt = 11 by decide) (show (7 : Int32).toInt = 7 by decide) (tgt := 125) dL_does_114 (by decide) (fun c8 => ?_) (fun c8 => absurd c8 (by decide))
  refine lv_iload_n hx hb dL_does_125 rfl (lv_at hl 1 rfl) ?_
  refine lv_bipush (v := (8 : Int32)) hx hb dL_does_126 (by decide) ?_
  refine r_icmp_ne hx hb (show (11 : Int32).toInt = 11 by decide) (show (8 : Int32).toInt = 8 by decide) (tgt := 139) dL_does_128 (by decide) (fun c9 => ?_) (fun c9 => absurd c9 (by decide))
  refine lv_iload_n hx hb dL_does_139 rfl (lv_at hl 1 rfl) ?_
  refine lv_bipush (v := (9 : Int32)) hx hb dL_does_140 (by decide) ?_
  refine r_icmp_ne hx hb (show (11 : Int32).toInt = 11 by decide) (show (9 : Int32).toInt = 9 by decide) (tgt := 153) dL_does_142 (by decide) (fun c10 => ?_) (fun c10 => absurd c10 (by decide))
  refine lv_iload_n hx hb dL_does_153 rfl (lv_at hl 1 rfl) ?_
  refine lv_bipush (v := (10 : Int32)) hx hb dL_does_154 (by decide) ?_
  refine r_icmp_ne hx hb (show (11 : Int32).toInt = 11 by decide) (show (10 : Int32).toInt = 10 by decide) (tgt := 168) dL_does_156 (by decide) (fun c11 => ?_) (fun c11 => absurd c11 (by decide))
  refine lv_iload_n hx hb dL_does_168 rfl (lv_at hl 1 rfl) ?_
  refine lv_bipush (v := (11 : Int32)) hx hb dL_does_169 (by decide) ?_
  refine r_icmp_ne hx hb (show (11 : Int32).toInt = 11 by decide) (show (11 : Int32).toInt = 11 by decide) (tgt := 183) dL_does_171 (by decide) (fun c12 => absurd (by decide) c12) (fun c12 => ?_)
  refine lv_aload_n hx hb dL_does_174 rfl (lv_at hl 0 rfl) ?_
  refine lv_iload_n hx hb dL_does_175 rfl (lv_at hl 2 rfl) ?_
  refine lv_iload_n hx hb dL_does_176 rfl (lv_at hl 3 rfl) ?_
  refine vx_calli (vx_runV (As := [.int p2, .int p3]) (rest := []) ⟨hx, hb, hml, hown, hts⟩ (mtX6_wordAnew l hlt z G ad σ ν ρ lo p2 p3 _ _ h) (cwV 2 hts gL_does_X6_wordAnew rfl rfl rfl (by decide +kernel) ⟨Nat.le_of_ble_eq_true rfl, Nat.le_of_ble_eq_true rfl⟩) ⟨Pcs.blind, (r_recv hE hW 0 0 rfl (ci := 9) rfl rfl), fun U hU hw => ⟨rfl, Bc.of hE hz hW hS hU hw⟩⟩ rfl rfl hl.1 rfl (lv_room (Nat.le_of_ble_eq_true rfl)) dL_does_177 ⟨by show _ ≤ 2; omega, by show _ ≤ 12; omega⟩) hS (fun _ _ h => h) (fun _ h => h) (fun _ _ h => h) (fun E ce q9 u9 t H1 locs1 ht _ hp hB _ _ hS1 hce hv hcl => ?_) (fun r13 u9 t H locs ht _ hp hB _ _ hS => ?_)
  · obtain ⟨E9, S9⟩ := u9
    obtain ⟨rfl, hB⟩ := hB
    obtain ⟨t9, rfl, hxk⟩ := hp
    have hW : WP z G ad (t9, ν, ρ, lo) H1 := by rw [← ht]; exact hB
    rcases hxk with ⟨rfl, h⟩ | ⟨rfl, h⟩ | ⟨rfl, h⟩
    · refine vx_catch (name := IOB) hown [] ⟨0, 232, 233, 65⟩ [⟨0, 232, 239, 67⟩, ⟨0, 232, 245, 69⟩] htb (fun z9 hz9 => absurd hz9 List.not_mem_nil) rfl (by decide) (hts _ (List.mem_of_getElem? (i := 1) rfl)) (va_Nw.use rfl (hE.2.2.2.2.2.2.1 (IOB, IOB) (List.mem_of_getElem? (i := 4) rfl))) hce hv hcl ?_
      refine lv_astore (lv' := [(6, .ref q9), (0, .ref (ad 0 0)), (1, .int ((11 : Int32))), (2, .int p2), (3, .int p3), (4, .int p4), (5, .int p5)]) hx hb dL_does_233 hl (by decide) rfl (fun ls hl => ?_)
      refine lv_sipush (v := (-1381 : Int32)) hx hb dL_does_235 (by decide) ?_
      refine W.widen (k := 2) (n := 12) (by omega) (by omega) ?_
      exact W.iret (v := (-1381 : Int32)) hx hb hr (fun t ht _ => ⟨⟨_, (t9, ν, ρ, lo), rfl, ⟨_, rfl, h⟩, WP.at9 ht hW⟩, hS1.F ht⟩) hS1.2.2 dL_does_238 (hlocks := hlocks)
    · refine vx_catch (name := IAE) hown [⟨0, 232, 233, 65⟩] ⟨0, 232, 239, 67⟩ [⟨0, 232, 245, 69⟩] htb (fun z9 hz9 => by rw [List.mem_singleton] at hz9; subst hz9; exact Or.inr ⟨by decide, IOB, hts _ (List.mem_of_getElem? (i := 1) rfl), hE.2.2.2.2.2.2.2.1 (IAE, IOB) (List.mem_of_getElem? (i := 1) rfl)⟩) rfl (by decide) (hts _ (List.mem_of_getElem? (i := 2) rfl)) (va_Nw.use rfl (hE.2.2.2.2.2.2.1 (IAE, IAE) (List.mem_of_getElem? (i := 2) rfl))) hce hv hcl ?_
      refine lv_astore (lv' := [(6, .ref q9), (0, .ref (ad 0 0)), (1, .int ((11 : Int32))), (2, .int p2), (3, .int p3), (4, .int p4), (5, .int p5)]) hx hb dL_does_239 hl (by decide) rfl (fun ls hl => ?_)
      refine lv_sipush (v := (-1382 : Int32)) hx hb dL_does_241 (by decide) ?_
      refine W.widen (k := 2) (n := 12) (by omega) (by omega) ?_
      exact W.iret (v := (-1382 : Int32)) hx hb hr (fun t ht _ => ⟨⟨_, (t9, ν, ρ, lo), rfl, ⟨_, rfl, h⟩, WP.at9 ht hW⟩, hS1.F ht⟩) hS1.2.2 dL_does_244 (hlocks := hlocks)
    · refine vx_catch (name := ISE) hown [⟨0, 232, 233, 65⟩, ⟨0, 232, 239, 67⟩] ⟨0, 232, 245, 69⟩ [] htb (fun z9 hz9 => (List.mem_cons.mp hz9).elim (fun e9 => by subst e9; exact Or.inr ⟨by decide, IOB, hts _ (List.mem_of_getElem? (i := 1) rfl), hE.2.2.2.2.2.2.2.1 (ISE, IOB) (List.mem_of_getElem? (i := 3) rfl)⟩) (fun h9 => by rw [List.mem_singleton] at h9; subst h9; exact Or.inr ⟨by decide, IAE, hts _ (List.mem_of_getElem? (i := 2) rfl), hE.2.2.2.2.2.2.2.1 (ISE, IAE) (List.mem_of_getElem? (i := 2) rfl)⟩)) rfl (by decide) (hts _ (List.mem_of_getElem? (i := 3) rfl)) (va_Nw.use rfl (hE.2.2.2.2.2.2.1 (ISE, ISE) (List.mem_of_getElem? (i := 3) rfl))) hce hv hcl ?_
      refine lv_astore (lv' := [(6, .ref q9), (0, .ref (ad 0 0)), (1, .int ((11 : Int32))), (2, .int p2), (3, .int p3), (4, .int p4), (5, .int p5)]) hx hb dL_does_245 hl (by decide) rfl (fun ls hl => ?_)
      refine lv_sipush (v := (-1383 : Int32)) hx hb dL_does_247 (by decide) ?_
      refine W.widen (k := 2) (n := 12) (by omega) (by omega) ?_
      exact W.iret (v := (-1383 : Int32)) hx hb hr (fun t ht _ => ⟨⟨_, (t9, ν, ρ, lo), rfl, ⟨_, rfl, h⟩, WP.at9 ht hW⟩, hS1.F ht⟩) hS1.2.2 dL_does_250 (hlocks := hlocks)
  · obtain ⟨t14, rfl, h⟩ := hp
    have hW : WP z G ad (t14, ν, ρ, lo) H := by rw [← ht]; exact hB
    refine lv_goto (tgt := 232) hx hb dL_does_180 (by decide) ?_
    refine W.widen (k := 2) (n := 12) (by omega) (by omega) ?_
    exact W.iret (v := r13) hx hb hr (fun t ht _ => ⟨⟨_, (t14, ν, ρ, lo), rfl, ⟨_, rfl, h⟩, WP.at9 ht hW⟩, hS.F ht⟩) hS.2.2 dL_does_232 (hlocks := hlocks)
set_option maxHeartbeats 4000000 in
set_option maxRecDepth 100000 in
theorem mtL_does_12 (l : Launch) (hlt : l.stackTraces = false) (z : Nat) (G : Gl) (ad : Nat → Nat → Nat) (σ : SG) (ν : NU) (ρ : RH) (lo : Int64) (p2 : Int32) (p3 : Int32) (p4 : Int32) (p5 : Int32) (post : Int32 → Prop) (h : wpL_does_12 σ ν ρ p2 p3 p4 p5 post) : Met l yL_does wsL_does ({ frames := 9, cells := 2, slots := 12, locals := 147 } : Room) (Pcs z G ad (σ, ν, ρ, lo) [.ref (ad 0 0), .int ((12 : Int32)), .int p2, .int p3, .int p4, .int p5]) (Qis z G ad (fun r S1 => S1 = (σ, ν, ρ, lo) ∧ post r)) 2 12 (Az z) := by
  refine met_ofWH (cc := cL_does) (maxL := 7) (ret := (some .int)) (hh := [(0, 232, 233, 65), (0, 232, 239, 67), (0, 232, 245, 69)]) (by decide) rfl ?_
  intro p e s m args below meth c s₁ B hml hv
  obtain ⟨rfl, hz, hW, hE⟩ := hv
  have hx := B.exec
  have hb := B.bytes
  have hr := B.returns
  have hts := atoms_spec (ws := wsL_does) B.pre
  have hown : s.vm.findClass RL = some m.cls := findClass_of_methodNamed B.named
  have hlocks := B.notSynchronized
  have htb : c.exceptionTable.toList = [⟨0, 232, 233, 65⟩, ⟨0, 232, 239, 67⟩, ⟨0, 232, 245, 69⟩] := vx_table (x := yL_does) B (hts _ List.mem_cons_self)
  have hS : va_S (Az z) s.heap s.heap [] := va_S.rf
  have hl := lv_entry [.ref (ad 0 0), .int ((12 : Int32)), .int p2, .int p3, .int p4, .int p5] (n := 7) (Nat.le_of_ble_eq_true rfl)
  rw [lg_entry_eq]
  generalize (lg_sl [.ref (ad 0 0), .int ((12 : Int32)), .int p2, .int p3, .int p4, .int p5] ++ List.replicate (7 - (lg_sl [.ref (ad 0 0), .int ((12 : Int32)), .int p2, .int p3, .int p4, .int p5]).length) Slot.unset).toArray = ls at hl ⊢
  have hl : lv_has ls 7 [(0, .ref (ad 0 0)), (1, .int ((12 : Int32))), (2, .int p2), (3, .int p3), (4, .int p4), (5, .int p5)] := hl
  unfold wpL_does_12 at h
  refine lv_iload_n hx hb dL_does_0 rfl (lv_at hl 1 rfl) ?_
  refine r_if_ne hx hb (show (12 : Int32).toInt = 12 by decide) (tgt := 12) dL_does_1 (by decide) (fun c1 => ?_) (fun c1 => absurd c1 (by decide))
  refine lv_iload_n hx hb dL_does_12 rfl (lv_at hl 1 rfl) ?_
  refine lv_iconst (v := (1 : Int32)) hx hb dL_does_13 (by decide) ?_
  refine r_icmp_ne hx hb (show (12 : Int32).toInt = 12 by decide) (show (1 : Int32).toInt = 1 by decide) (tgt := 24) dL_does_14 (by decide) (fun c2 => ?_) (fun c2 => absurd c2 (by decide))
  refine lv_iload_n hx hb dL_does_24 rfl (lv_at hl 1 rfl) ?_
  refine lv_iconst (v := (2 : Int32)) hx hb dL_does_25 (by decide) ?_
  refine r_icmp_ne hx hb (show (12 : Int32).toInt = 12 by decide) (show (2 : Int32).toInt = 2 by decide) (tgt := 47) dL_does_26 (by decide) (fun c3 => ?_) (fun c3 => absurd c3 (by decide))
  refine lv_iload_n hx hb dL_does_47 rfl (lv_at hl 1 rfl) ?_
  refine lv_iconst (v := (3 : Int32)) hx hb dL_does_48 (by decide) ?_
  refine r_icmp_ne hx hb (show (12 : Int32).toInt = 12 by decide) (show (3 : Int32).toInt = 3 by decide) (tgt := 63) dL_does_49 (by decide) (fun c4 => ?_) (fun c4 => absurd c4 (by decide))
  refine lv_iload_n hx hb dL_does_63 rfl (lv_at hl 1 rfl) ?_
  refine lv_iconst (v := (4 : Int32)) hx hb dL_does_64 (by decide) ?_
  refine r_icmp_ne hx hb (show (12 : Int32).toInt = 12 by decide) (show (4 : Int32).toInt = 4 by decide) (tgt := 81) dL_does_65 (by decide) (fun c5 => ?_) (fun c5 => absurd c5 (by decide))
  refine lv_iload_n hx hb dL_does_81 rfl (lv_at hl 1 rfl) ?_
  refine lv_iconst (v := (5 : Int32)) hx hb dL_does_82 (by decide) ?_
  refine r_icmp_ne hx hb (show (12 : Int32).toInt = 12 by decide) (show (5 : Int32).toInt = 5 by decide) (tgt := 97) dL_does_83 (by decide) (fun c6 => ?_) (fun c6 => absurd c6 (by decide))
  refine lv_iload_n hx hb dL_does_97 rfl (lv_at hl 1 rfl) ?_
  refine lv_bipush (v := (6 : Int32)) hx hb dL_does_98 (by decide) ?_
  refine r_icmp_ne hx hb (show (12 : Int32).toInt = 12 by decide) (show (6 : Int32).toInt = 6 by decide) (tgt := 111) dL_does_100 (by decide) (fun c7 => ?_) (fun c7 => absurd c7 (by decide))
  refine lv_iload_n hx hb dL_does_111 rfl (lv_at hl 1 rfl) ?_
  refine lv_bipush (v := (7 : Int32)) hx hb dL_does_112 (by decide) ?_
  refine r_icmp_ne hx hb (show (12 : Int32).toInt = 12 by decide) (show (7 : Int32).toInt = 7 by decide) (tgt := 125) dL_does_114 (by decide) (fun c8 => ?_) (fun c8 => absurd c8 (by decide))
  refine lv_iload_n hx hb dL_does_125 rfl (lv_at hl 1 rfl) ?_
  refine lv_bipush (v := (8 : Int32)) hx hb dL_does_126 (by decide) ?_
  refine r_icmp_ne hx hb (show (12 : Int32).toInt = 12 by decide) (show (8 : Int32).toInt = 8 by decide) (tgt := 139) dL_does_128 (by decide) (fun c9 => ?_) (fun c9 => absurd c9 (by decide))
  refine lv_iload_n hx hb dL_does_139 rfl (lv_at hl 1 rfl) ?_
  refine lv_bipush (v := (9 : Int32)) hx hb dL_does_140 (by decide) ?_
  refine r_icmp_ne hx hb (show (12 : Int32).toInt = 12 by decide) (show (9 : Int32).toInt = 9 by decide) (tgt := 153) dL_does_142 (by decide) (fun c10 => ?_) (fun c10 => absurd c10 (by decide))
  refine lv_iload_n hx hb dL_does_153 rfl (lv_at hl 1 rfl) ?_
  refine lv_bipush (v := (10 : Int32)) hx hb dL_does_154 (by decide) ?_
  refine r_icmp_ne hx hb (show (12 : Int32).toInt = 12 by decide) (show (10 : Int32).toInt = 10 by decide) (tgt := 168) dL_does_156 (by decide) (fun c11 => ?_) (fun c11 => absurd c11 (by decide))
  refine lv_iload_n hx hb dL_does_168 rfl (lv_at hl 1 rfl) ?_
  refine lv_bipush (v := (11 : Int32)) hx hb dL_does_169 (by decide) ?_
  refine r_icmp_ne hx hb (show (12 : Int32).toInt = 12 by decide) (show (11 : Int32).toInt = 11 by decide) (tgt := 183) dL_does_171 (by decide) (fun c12 => ?_) (fun c12 => absurd c12 (by decide))
  refine lv_iload_n hx hb dL_does_183 rfl (lv_at hl 1 rfl) ?_
  refine lv_bipush (v := (12 : Int32)) hx hb dL_does_184 (by decide) ?_
  refine r_icmp_ne hx hb (show (12 : Int32).toInt = 12 by decide) (show (12 : Int32).toInt = 12 by decide) (tgt := 198) dL_does_186 (by decide) (fun c13 => absurd (by decide) c13) (fun c13 => ?_)
  refine lv_aload_n hx hb dL_does_189 rfl (lv_at hl 0 rfl) ?_
  refine lv_iload_n hx hb dL_does_190 rfl (lv_at hl 2 rfl) ?_
  refine lv_iload_n hx hb dL_does_191 rfl (lv_at hl 3 rfl) ?_
  refine vx_calli (vx_runV (As := [.int p2, .int p3]) (rest := []) ⟨hx, hb, hml, hown, hts⟩ (mtX6_origin l hlt z G ad σ ν ρ lo p2 p3 _ _ h) (cwV 2 hts gL_does_X6_origin rfl rfl rfl (by decide +kernel) ⟨Nat.le_of_ble_eq_true rfl, Nat.le_of_ble_eq_true rfl⟩) ⟨Pcs.blind, (r_recv hE hW 0 0 rfl (ci := 9) rfl rfl), fun U hU hw => ⟨rfl, Bc.of hE hz hW hS hU hw⟩⟩ rfl rfl hl.1 rfl (lv_room (Nat.le_of_ble_eq_true rfl)) dL_does_192 ⟨by show _ ≤ 2; omega, by show _ ≤ 12; omega⟩) hS (fun _ _ h => h) (fun _ h => h) (fun _ _ h => h) (fun E ce q9 u9 t H1 locs1 ht _ hp hB _ _ hS1 hce hv hcl => ?_) (fun r14 u9 t H locs ht _ hp hB _ _ hS => ?_)
  · obtain ⟨E9, S9⟩ := u9
    obtain ⟨rfl, hB⟩ := hB
    obtain ⟨rfl, hxk⟩ := hp
    have hW : WP z G ad (σ, ν, ρ, lo) H1 := by rw [← ht]; exact hB
    rcases hxk with ⟨rfl, h⟩ | ⟨rfl, h⟩ | ⟨rfl, h⟩
    · refine vx_catch (name := IOB) hown [] ⟨0, 232, 233, 65⟩ [⟨0, 232, 239, 67⟩, ⟨0, 232, 245, 69⟩] htb (fun z9 hz9 => absurd hz9 List.not_mem_nil) rfl (by decide) (hts _ (List.mem_of_getElem? (i := 1) rfl)) (va_Nw.use rfl (hE.2.2.2.2.2.2.1 (IOB, IOB) (List.mem_of_getElem? (i := 4) rfl))) hce hv hcl ?_
      refine lv_astore (lv' := [(6, .ref q9), (0, .ref (ad 0 0)), (1, .int ((12 : Int32))), (2, .int p2), (3, .int p3), (4, .int p4), (5, .int p5)]) hx hb dL_does_233 hl (by decide) rfl (fun ls hl => ?_)
      refine lv_sipush (v := (-1381 : Int32)) hx hb dL_does_235 (by decide) ?_
      refine W.widen (k := 2) (n := 12) (by omega) (by omega) ?_
      exact W.iret (v := (-1381 : Int32)) hx hb hr (fun t ht _ => ⟨⟨_, (σ, ν, ρ, lo), rfl, ⟨rfl, h⟩, WP.at9 ht hW⟩, hS1.F ht⟩) hS1.2.2 dL_does_238 (hlocks := hlocks)
    · refine vx_catch (name := IAE) hown [⟨0, 232, 233, 65⟩] ⟨0, 232, 239, 67⟩ [⟨0, 232, 245, 69⟩] htb (fun z9 hz9 => by rw [List.mem_singleton] at hz9; subst hz9; exact Or.inr ⟨by decide, IOB, hts _ (List.mem_of_getElem? (i := 1) rfl), hE.2.2.2.2.2.2.2.1 (IAE, IOB) (List.mem_of_getElem? (i := 1) rfl)⟩) rfl (by decide) (hts _ (List.mem_of_getElem? (i := 2) rfl)) (va_Nw.use rfl (hE.2.2.2.2.2.2.1 (IAE, IAE) (List.mem_of_getElem? (i := 2) rfl))) hce hv hcl ?_
      refine lv_astore (lv' := [(6, .ref q9), (0, .ref (ad 0 0)), (1, .int ((12 : Int32))), (2, .int p2), (3, .int p3), (4, .int p4), (5, .int p5)]) hx hb dL_does_239 hl (by decide) rfl (fun ls hl => ?_)
      refine lv_sipush (v := (-1382 : Int32)) hx hb dL_does_241 (by decide) ?_
      refine W.widen (k := 2) (n := 12) (by omega) (by omega) ?_
      exact W.iret (v := (-1382 : Int32)) hx hb hr (fun t ht _ => ⟨⟨_, (σ, ν, ρ, lo), rfl, ⟨rfl, h⟩, WP.at9 ht hW⟩, hS1.F ht⟩) hS1.2.2 dL_does_244 (hlocks := hlocks)
    · refine vx_catch (name := ISE) hown [⟨0, 232, 233, 65⟩, ⟨0, 232, 239, 67⟩] ⟨0, 232, 245, 69⟩ [] htb (fun z9 hz9 => (List.mem_cons.mp hz9).elim (fun e9 => by subst e9; exact Or.inr ⟨by decide, IOB, hts _ (List.mem_of_getElem? (i := 1) rfl), hE.2.2.2.2.2.2.2.1 (ISE, IOB) (List.mem_of_getElem? (i := 3) rfl)⟩) (fun h9 => by rw [List.mem_singleton] at h9; subst h9; exact Or.inr ⟨by decide, IAE, hts _ (List.mem_of_getElem? (i := 2) rfl), hE.2.2.2.2.2.2.2.1 (ISE, IAE) (List.mem_of_getElem? (i := 2) rfl)⟩)) rfl (by decide) (hts _ (List.mem_of_getElem? (i := 3) rfl)) (va_Nw.use rfl (hE.2.2.2.2.2.2.1 (ISE, ISE) (List.mem_of_getElem? (i := 3) rfl))) hce hv hcl ?_
      refine lv_astore (lv' := [(6, .ref q9), (0, .ref (ad 0 0)), (1, .int ((12 : Int32))), (2, .int p2), (3, .int p3), (4, .int p4), (5, .int p5)]) hx hb dL_does_245 hl (by decide) rfl (fun ls hl => ?_)
      refine lv_sipush (v := (-1383 : Int32)) hx hb dL_does_247 (by decide) ?_
      refine W.widen (k := 2) (n := 12) (by omega) (by omega) ?_
      exact W.iret (v := (-1383 : Int32)) hx hb hr (fun t ht _ => ⟨⟨_, (σ, ν, ρ, lo), rfl, ⟨rfl, h⟩, WP.at9 ht hW⟩, hS1.F ht⟩) hS1.2.2 dL_does_250 (hlocks := hlocks)
  · obtain ⟨rfl, h⟩ := hp
    have hW : WP z G ad (σ, ν, ρ, lo) H := by rw [← ht]; exact hB
    refine lv_goto (tgt := 232) hx hb dL_does_195 (by decide) ?_
    refine W.widen (k := 2) (n := 12) (by omega) (by omega) ?_
    exact W.iret (v := r14) hx hb hr (fun t ht _ => ⟨⟨_, (σ, ν, ρ, lo), rfl, ⟨rfl, h⟩, WP.at9 ht hW⟩, hS.F ht⟩) hS.2.2 dL_does_232 (hlocks := hlocks)
set_option maxHeartbeats 4000000 in
set_option maxRecDepth 100000 in
theorem mtL_does_13 (l : Launch) (hlt : l.stackTraces = false) (z : Nat) (G : Gl) (ad : Nat → Nat → Nat) (σ : SG) (ν : NU) (ρ : RH) (lo : Int64) (p2 : Int32) (p3 : Int32) (p4 : Int32) (p5 : Int32) (post : Int32 → SG → NU → Prop) (h : wpL_does_13 σ ν ρ p2 p3 p4 p5 post) : Met l yL_does wsL_does ({ frames := 10, cells := 10, slots := 169, locals := 245 } : Room) (Pcs z G ad (σ, ν, ρ, lo) [.ref (ad 0 0), .int ((13 : Int32)), .int p2, .int p3, .int p4, .int p5]) (Qia z G (fun r S1 => ∃ (t : SG) (u : NU), S1.1 = (t, u, ρ, lo) ∧ Xt ad S1.2 ν u ∧ post r t u)) 10 169 (Az z) := by
  refine met_ofWH (cc := cL_does) (maxL := 7) (ret := (some .int)) (hh := [(0, 232, 233, 65), (0, 232, 239, 67), (0, 232, 245, 69)]) (by decide) rfl ?_
  intro p e s m args below meth c s₁ B hml hv
  obtain ⟨rfl, hz, hW, hE⟩ := hv
  have hx := B.exec
  have hb := B.bytes
  have hr := B.returns
  have hts := atoms_spec (ws := wsL_does) B.pre
  have hown : s.vm.findClass RL = some m.cls := findClass_of_methodNamed B.named
  have hlocks := B.notSynchronized
  have htb : c.exceptionTable.toList = [⟨0, 232, 233, 65⟩, ⟨0, 232, 239, 67⟩, ⟨0, 232, 245, 69⟩] := vx_table (x := yL_does) B (hts _ List.mem_cons_self)
  have hS : va_S (Az z) s.heap s.heap [] := va_S.rf
  have hl := lv_entry [.ref (ad 0 0), .int ((13 : Int32)), .int p2, .int p3, .int p4, .int p5] (n := 7) (Nat.le_of_ble_eq_true rfl)
  rw [lg_entry_eq]
  generalize (lg_sl [.ref (ad 0 0), .int ((13 : Int32)), .int p2, .int p3, .int p4, .int p5] ++ List.replicate (7 - (lg_sl [.ref (ad 0 0), .int ((13 : Int32)), .int p2, .int p3, .int p4, .int p5]).length) Slot.unset).toArray = ls at hl ⊢
  have hl : lv_has ls 7 [(0, .ref (ad 0 0)), (1, .int ((13 : Int32))), (2, .int p2), (3, .int p3), (4, .int p4), (5, .int p5)] := hl
  unfold wpL_does_13 at h
  refine lv_iload_n hx hb dL_does_0 rfl (lv_at hl 1 rfl) ?_
  refine r_if_ne hx hb (show (13 : Int32).toInt = 13 by decide) (tgt := 12) dL_does_1 (by decide) (fun c1 => ?_) (fun c1 => absurd c1 (by decide))
  refine lv_iload_n hx hb dL_does_12 rfl (lv_at hl 1 rfl) ?_
  refine lv_iconst (v := (1 : Int32)) hx hb dL_does_13 (by decide) ?_
  refine r_icmp_ne hx hb (show (13 : Int32).toInt = 13 by decide) (show (1 : Int32).toInt = 1 by decide) (tgt := 24) dL_does_14 (by decide) (fun c2 => ?_) (fun c2 => absurd c2 (by decide))
  refine lv_iload_n hx hb dL_does_24 rfl (lv_at hl 1 rfl) ?_
  refine lv_iconst (v := (2 : Int32)) hx hb dL_does_25 (by decide) ?_
  refine r_icmp_ne hx hb (show (13 : Int32).toInt = 13 by decide) (show (2 : Int32).toInt = 2 by decide) (tgt := 47) dL_does_26 (by decide) (fun c3 => ?_) (fun c3 => absurd c3 (by decide))
  refine lv_iload_n hx hb dL_does_47 rfl (lv_at hl 1 rfl) ?_
  refine lv_iconst (v := (3 : Int32)) hx hb dL_does_48 (by decide) ?_
  refine r_icmp_ne hx hb (show (13 : Int32).toInt = 13 by decide) (show (3 : Int32).toInt = 3 by decide) (tgt := 63) dL_does_49 (by decide) (fun c4 => ?_) (fun c4 => absurd c4 (by decide))
  refine lv_iload_n hx hb dL_does_63 rfl (lv_at hl 1 rfl) ?_
  refine lv_iconst (v := (4 : Int32)) hx hb dL_does_64 (by decide) ?_
  refine r_icmp_ne hx hb (show (13 : Int32).toInt = 13 by decide) (show (4 : Int32).toInt = 4 by decide) (tgt := 81) dL_does_65 (by decide) (fun c5 => ?_) (fun c5 => absurd c5 (by decide))
  refine lv_iload_n hx hb dL_does_81 rfl (lv_at hl 1 rfl) ?_
  refine lv_iconst (v := (5 : Int32)) hx hb dL_does_82 (by decide) ?_
  refine r_icmp_ne hx hb (show (13 : Int32).toInt = 13 by decide) (show (5 : Int32).toInt = 5 by decide) (tgt := 97) dL_does_83 (by decide) (fun c6 => ?_) (fun c6 => absurd c6 (by decide))
  refine lv_iload_n hx hb dL_does_97 rfl (lv_at hl 1 rfl) ?_
  refine lv_bipush (v := (6 : Int32)) hx hb dL_does_98 (by decide) ?_
  refine r_icmp_ne hx hb (show (13 : Int32).toInt = 13 by decide) (show (6 : Int32).toInt = 6 by decide) (tgt := 111) dL_does_100 (by decide) (fun c7 => ?_) (fun c7 => absurd c7 (by decide))
  refine lv_iload_n hx hb dL_does_111 rfl (lv_at hl 1 rfl) ?_
  refine lv_bipush (v := (7 : Int32)) hx hb dL_does_112 (by decide) ?_
  refine r_icmp_ne hx hb (show (13 : Int32).toInt = 13 by decide) (show (7 : Int32).toInt = 7 by decide) (tgt := 125) dL_does_114 (by decide) (fun c8 => ?_) (fun c8 => absurd c8 (by decide))
  refine lv_iload_n hx hb dL_does_125 rfl (lv_at hl 1 rfl) ?_
  refine lv_bipush (v := (8 : Int32)) hx hb dL_does_126 (by decide) ?_
  refine r_icmp_ne hx hb (show (13 : Int32).toInt = 13 by decide) (show (8 : Int32).toInt = 8 by decide) (tgt := 139) dL_does_128 (by decide) (fun c9 => ?_) (fun c9 => absurd c9 (by decide))
  refine lv_iload_n hx hb dL_does_139 rfl (lv_at hl 1 rfl) ?_
  refine lv_bipush (v := (9 : Int32)) hx hb dL_does_140 (by decide) ?_
  refine r_icmp_ne hx hb (show (13 : Int32).toInt = 13 by decide) (show (9 : Int32).toInt = 9 by decide) (tgt := 153) dL_does_142 (by decide) (fun c10 => ?_) (fun c10 => absurd c10 (by decide))
  refine lv_iload_n hx hb dL_does_153 rfl (lv_at hl 1 rfl) ?_
  refine lv_bipush (v := (10 : Int32)) hx hb dL_does_154 (by decide) ?_
  refine r_icmp_ne hx hb (show (13 : Int32).toInt = 13 by decide) (show (10 : Int32).toInt = 10 by decide) (tgt := 168) dL_does_156 (by decide) (fun c11 => ?_) (fun c11 => absurd c11 (by decide))
  refine lv_iload_n hx hb dL_does_168 rfl (lv_at hl 1 rfl) ?_
  refine lv_bipush (v := (11 : Int32)) hx hb dL_does_169 (by decide) ?_
  refine r_icmp_ne hx hb (show (13 : Int32).toInt = 13 by decide) (show (11 : Int32).toInt = 11 by decide) (tgt := 183) dL_does_171 (by decide) (fun c12 => ?_) (fun c12 => absurd c12 (by decide))
  refine lv_iload_n hx hb dL_does_183 rfl (lv_at hl 1 rfl) ?_
  refine lv_bipush (v := (12 : Int32)) hx hb dL_does_184 (by decide) ?_
  refine r_icmp_ne hx hb (show (13 : Int32).toInt = 13 by decide) (show (12 : Int32).toInt = 12 by decide) (tgt := 198) dL_does_186 (by decide) (fun c13 => ?_) (fun c13 => absurd c13 (by decide))
  refine lv_iload_n hx hb dL_does_198 rfl (lv_at hl 1 rfl) ?_
  refine lv_bipush (v := (13 : Int32)) hx hb dL_does_199 (by decide) ?_
  refine r_icmp_ne hx hb (show (13 : Int32).toInt = 13 by decide) (show (13 : Int32).toInt = 13 by decide) (tgt := 213) dL_does_201 (by decide) (fun c14 => absurd (by decide) c14) (fun c14 => ?_)
  refine lv_aload_n hx hb dL_does_204 rfl (lv_at hl 0 rfl) ?_
  refine lv_iload_n hx hb dL_does_205 rfl (lv_at hl 2 rfl) ?_
  refine lv_iload_n hx hb dL_does_206 rfl (lv_at hl 3 rfl) ?_
  refine vx_calli (vx_runV (As := [.int p2, .int p3]) (rest := []) ⟨hx, hb, hml, hown, hts⟩ (mtX6_refers l hlt z G ad σ ν ρ lo p2 p3 _ _ h) (cwV 2 hts gL_does_X6_refers rfl rfl rfl (by decide +kernel) ⟨Nat.le_of_ble_eq_true rfl, Nat.le_of_ble_eq_true rfl⟩) ⟨Pcs.blind, (r_recv hE hW 0 0 rfl (ci := 9) rfl rfl), fun U hU hw => ⟨rfl, Bc.of hE hz hW hS hU hw⟩⟩ rfl rfl hl.1 rfl (lv_room (Nat.le_of_ble_eq_true rfl)) dL_does_207 ⟨by show _ ≤ 10; omega, by show _ ≤ 169; omega⟩) hS (fun _ _ h => h) (fun _ h => h) (fun _ _ h => h) (fun E ce q9 u9 t H1 locs1 ht _ hp hB _ _ hS1 hce hv hcl => ?_) (fun r15 u9 t H locs ht _ hp hB _ _ hS => ?_)
  · obtain ⟨E9, S9⟩ := u9
    obtain ⟨rfl, hB⟩ := hB
    obtain ⟨rfl, hxk⟩ := hp
    have hW : WP z G ad (σ, ν, ρ, lo) H1 := by rw [← ht]; exact hB
    rcases hxk with ⟨rfl, h⟩ | ⟨rfl, h⟩ | ⟨rfl, h⟩
    · refine vx_catch (name := IOB) hown [] ⟨0, 232, 233, 65⟩ [⟨0, 232, 239, 67⟩, ⟨0, 232, 245, 69⟩] htb (fun z9 hz9 => absurd hz9 List.not_mem_nil) rfl (by decide) (hts _ (List.mem_of_getElem? (i := 1) rfl)) (va_Nw.use rfl (hE.2.2.2.2.2.2.1 (IOB, IOB) (List.mem_of_getElem? (i := 4) rfl))) hce hv hcl ?_
      refine lv_astore (lv' := [(6, .ref q9), (0, .ref (ad 0 0)), (1, .int ((13 : Int32))), (2, .int p2), (3, .int p3), (4, .int p4), (5, .int p5)]) hx hb dL_does_233 hl (by decide) rfl (fun ls hl => ?_)
      refine lv_sipush (v := (-1381 : Int32)) hx hb dL_does_235 (by decide) ?_
      refine W.widen (k := 10) (n := 169) (by omega) (by omega) ?_
      exact W.iret (v := (-1381 : Int32)) hx hb hr (fun t ht _ => ⟨⟨_, ((σ, ν, ρ, lo), ad), rfl, ⟨_, _, rfl, Xt.rf, h⟩, WP.at9 ht hW⟩, hS1.F ht⟩) hS1.2.2 dL_does_238 (hlocks := hlocks)
    · refine vx_catch (name := IAE) hown [⟨0, 232, 233, 65⟩] ⟨0, 232, 239, 67⟩ [⟨0, 232, 245, 69⟩] htb (fun z9 hz9 => by rw [List.mem_singleton] at hz9; subst hz9; exact Or.inr ⟨by decide, IOB, hts _ (List.mem_of_getElem? (i := 1) rfl), hE.2.2.2.2.2.2.2.1 (IAE, IOB) (List.mem_of_getElem? (i := 1) rfl)⟩) rfl (by decide) (hts _ (List.mem_of_getElem? (i := 2) rfl)) (va_Nw.use rfl (hE.2.2.2.2.2.2.1 (IAE, IAE) (List.mem_of_getElem? (i := 2) rfl))) hce hv hcl ?_
      refine lv_astore (lv' := [(6, .ref q9), (0, .ref (ad 0 0)), (1, .int ((13 : Int32))), (2, .int p2), (3, .int p3), (4, .int p4), (5, .int p5)]) hx hb dL_does_239 hl (by decide) rfl (fun ls hl => ?_)
      refine lv_sipush (v := (-1382 : Int32)) hx hb dL_does_241 (by decide) ?_
      refine W.widen (k := 10) (n := 169) (by omega) (by omega) ?_
      exact W.iret (v := (-1382 : Int32)) hx hb hr (fun t ht _ => ⟨⟨_, ((σ, ν, ρ, lo), ad), rfl, ⟨_, _, rfl, Xt.rf, h⟩, WP.at9 ht hW⟩, hS1.F ht⟩) hS1.2.2 dL_does_244 (hlocks := hlocks)
    · refine vx_catch (name := ISE) hown [⟨0, 232, 233, 65⟩, ⟨0, 232, 239, 67⟩] ⟨0, 232, 245, 69⟩ [] htb (fun z9 hz9 => (List.mem_cons.mp hz9).elim (fun e9 => by subst e9; exact Or.inr ⟨by decide, IOB, hts _ (List.mem_of_getElem? (i := 1) rfl), hE.2.2.2.2.2.2.2.1 (ISE, IOB) (List.mem_of_getElem? (i := 3) rfl)⟩) (fun h9 => by rw [List.mem_singleton] at h9; subst h9; exact Or.inr ⟨by decide, IAE, hts _ (List.mem_of_getElem? (i := 2) rfl), hE.2.2.2.2.2.2.2.1 (ISE, IAE) (List.mem_of_getElem? (i := 2) rfl)⟩)) rfl (by decide) (hts _ (List.mem_of_getElem? (i := 3) rfl)) (va_Nw.use rfl (hE.2.2.2.2.2.2.1 (ISE, ISE) (List.mem_of_getElem? (i := 3) rfl))) hce hv hcl ?_
      refine lv_astore (lv' := [(6, .ref q9), (0, .ref (ad 0 0)), (1, .int ((13 : Int32))), (2, .int p2), (3, .int p3), (4, .int p4), (5, .int p5)]) hx hb dL_does_245 hl (by decide) rfl (fun ls hl => ?_)
      refine lv_sipush (v := (-1383 : Int32)) hx hb dL_does_247 (by decide) ?_
      refine W.widen (k := 10) (n := 169) (by omega) (by omega) ?_
      exact W.iret (v := (-1383 : Int32)) hx hb hr (fun t ht _ => ⟨⟨_, ((σ, ν, ρ, lo), ad), rfl, ⟨_, _, rfl, Xt.rf, h⟩, WP.at9 ht hW⟩, hS1.F ht⟩) hS1.2.2 dL_does_250 (hlocks := hlocks)
  · obtain ⟨S9, ad18⟩ := u9
    obtain ⟨t16, vv17, e9, q19, h⟩ := hp
    cases e9
    have hW : WP z G ad18 (t16, vv17, ρ, lo) H := by rw [← ht]; exact hB
    have z20 : ad18 0 0 = ad 0 0 := (q19 0 0 (by decide) rfl).2
    have hl : lv_has ls 7 [(0, .ref (ad18 0 0)), (1, .int ((13 : Int32))), (2, .int p2), (3, .int p3), (4, .int p4), (5, .int p5)] := by rw [z20]; exact hl
    refine lv_goto (tgt := 232) hx hb dL_does_210 (by decide) ?_
    refine W.widen (k := 10) (n := 169) (by omega) (by omega) ?_
    exact W.iret (v := r15) hx hb hr (fun t ht _ => ⟨⟨_, ((t16, vv17, ρ, lo), ad18), rfl, ⟨_, _, rfl, (Xt.tr Xt.rf q19), h⟩, WP.at9 ht hW⟩, hS.F ht⟩) hS.2.2 dL_does_232 (hlocks := hlocks)
