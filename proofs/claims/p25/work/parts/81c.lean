/-! the law method by method: its walk. Written by wip/gen25/genlaw.py -/
set_option maxHeartbeats 4000000 in
set_option maxRecDepth 100000 in
theorem mtL_silent_0 (l : Launch) (hlt : l.stackTraces = false) (z : Nat) (G : Gl) (ad : Nat → Nat → Nat) (σ : SG) (ν : NU) (ρ : RH) (lo : Int64) (p2 : Int32) (p3 : Int32) (p4 : Int32) (p5 : Int32) (post : Int32 → SG → NU → Prop) (h : wpL_silent_0 σ ν ρ p2 p3 p4 p5 post) : Met l yL_silent wsL_silent ({ frames := 9, cells := 4, slots := 22, locals := 152 } : Room) (Pcs z G ad (σ, ν, ρ, lo) [.ref (ad 0 0), .int ((0 : Int32)), .int p2, .int p3, .int p4, .int p5]) (Qia z G (fun r S1 => ∃ (t : SG) (u : NU), S1.1 = (t, u, ρ, lo) ∧ Xt ad S1.2 ν u ∧ post r t u)) 4 22 (Az z) := by
  refine met_ofWH (cc := cL_silent) (maxL := 7) (ret := (some .int)) (hh := [(0, 19, 20, 65), (0, 19, 26, 67), (0, 19, 32, 69)]) (by decide) rfl ?_
  intro p e s m args below meth c s₁ B hml hv
  obtain ⟨rfl, hz, hW, hE⟩ := hv
  have hx := B.exec
  have hb := B.bytes
  have hr := B.returns
  have hts := atoms_spec (ws := wsL_silent) B.pre
  have hown : s.vm.findClass RL = some m.cls := findClass_of_methodNamed B.named
  have hlocks := B.notSynchronized
  have htb : c.exceptionTable.toList = [⟨0, 19, 20, 65⟩, ⟨0, 19, 26, 67⟩, ⟨0, 19, 32, 69⟩] := vx_table (x := yL_silent) B (hts _ List.mem_cons_self)
  have hS : va_S (Az z) s.heap s.heap [] := va_S.rf
  have hl := lv_entry [.ref (ad 0 0), .int ((0 : Int32)), .int p2, .int p3, .int p4, .int p5] (n := 7) (Nat.le_of_ble_eq_true rfl)
  rw [lg_entry_eq]
  generalize (lg_sl [.ref (ad 0 0), .int ((0 : Int32)), .int p2, .int p3, .int p4, .int p5] ++ List.replicate (7 - (lg_sl [.ref (ad 0 0), .int ((0 : Int32)), .int p2, .int p3, .int p4, .int p5]).length) Slot.unset).toArray = ls at hl ⊢
  have hl : lv_has ls 7 [(0, .ref (ad 0 0)), (1, .int ((0 : Int32))), (2, .int p2), (3, .int p3), (4, .int p4), (5, .int p5)] := hl
  unfold wpL_silent_0 at h
  refine lv_aload_n hx hb dL_silent_0 rfl (lv_at hl 0 rfl) ?_
  refine lv_iload_n hx hb dL_silent_1 rfl (lv_at hl 1 rfl) ?_
  refine lv_iload_n hx hb dL_silent_2 rfl (lv_at hl 2 rfl) ?_
  refine lv_iload_n hx hb dL_silent_3 rfl (lv_at hl 3 rfl) ?_
  refine lv_iload hx hb dL_silent_4 (lv_at hl 4 rfl) ?_
  refine lv_iload hx hb dL_silent_6 (lv_at hl 5 rfl) ?_
  refine vx_calli (vx_runS (As := [.ref (ad 0 0), .int ((0 : Int32)), .int p2, .int p3, .int p4, .int p5]) (rest := []) ⟨hx, hb, hml, hown, hts⟩ (mtL_tells_0 l hlt z G ad σ ν ρ lo p2 p3 p4 p5 _ _ h) (va_cwS 6 hts gL_silent_L_tells rfl rfl rfl (by decide +kernel) ⟨Nat.le_of_ble_eq_true rfl, Nat.le_of_ble_eq_true rfl⟩) ⟨Pcs.blind, fun U hU hw => ⟨rfl, Bc.of hE hz hW hS hU hw⟩⟩ rfl rfl hl.1 rfl (lv_room (Nat.le_of_ble_eq_true rfl)) dL_silent_8 ⟨by show _ ≤ 4; omega, by show _ ≤ 22; omega⟩) hS (fun _ _ h => h) (fun _ h => h) (fun _ _ h => h) (fun E ce q9 u9 t H1 locs1 ht _ hp hB _ _ hS1 hce hv hcl => ?_) (fun r1 u9 t H locs ht _ hp hB _ _ hS => ?_)
  · obtain ⟨E9, S9⟩ := u9
    obtain ⟨rfl, hB⟩ := hB
    obtain ⟨rfl, hxk⟩ := hp
    have hW : WP z G ad (σ, ν, ρ, lo) H1 := by rw [← ht]; exact hB
    rcases hxk with ⟨rfl, h⟩ | ⟨rfl, h⟩ | ⟨rfl, h⟩
    · refine vx_catch (name := IOB) hown [] ⟨0, 19, 20, 65⟩ [⟨0, 19, 26, 67⟩, ⟨0, 19, 32, 69⟩] htb (fun z9 hz9 => absurd hz9 List.not_mem_nil) rfl (by decide) (hts _ (List.mem_of_getElem? (i := 1) rfl)) (va_Nw.use rfl (hE.2.2.2.2.2.2.1 (IOB, IOB) (List.mem_of_getElem? (i := 4) rfl))) hce hv hcl ?_
      refine lv_astore (lv' := [(6, .ref q9), (0, .ref (ad 0 0)), (1, .int ((0 : Int32))), (2, .int p2), (3, .int p3), (4, .int p4), (5, .int p5)]) hx hb dL_silent_20 hl (by decide) rfl (fun ls hl => ?_)
      refine lv_sipush (v := (-1381 : Int32)) hx hb dL_silent_22 (by decide) ?_
      refine W.widen (k := 4) (n := 22) (by omega) (by omega) ?_
      exact W.iret (v := (-1381 : Int32)) hx hb hr (fun t ht _ => ⟨⟨_, ((σ, ν, ρ, lo), ad), rfl, ⟨_, _, rfl, Xt.rf, h⟩, WP.at9 ht hW⟩, hS1.F ht⟩) hS1.2.2 dL_silent_25 (hlocks := hlocks)
    · refine vx_catch (name := IAE) hown [⟨0, 19, 20, 65⟩] ⟨0, 19, 26, 67⟩ [⟨0, 19, 32, 69⟩] htb (fun z9 hz9 => by rw [List.mem_singleton] at hz9; subst hz9; exact Or.inr ⟨by decide, IOB, hts _ (List.mem_of_getElem? (i := 1) rfl), hE.2.2.2.2.2.2.2.1 (IAE, IOB) (List.mem_of_getElem? (i := 1) rfl)⟩) rfl (by decide) (hts _ (List.mem_of_getElem? (i := 2) rfl)) (va_Nw.use rfl (hE.2.2.2.2.2.2.1 (IAE, IAE) (List.mem_of_getElem? (i := 2) rfl))) hce hv hcl ?_
      refine lv_astore (lv' := [(6, .ref q9), (0, .ref (ad 0 0)), (1, .int ((0 : Int32))), (2, .int p2), (3, .int p3), (4, .int p4), (5, .int p5)]) hx hb dL_silent_26 hl (by decide) rfl (fun ls hl => ?_)
      refine lv_sipush (v := (-1382 : Int32)) hx hb dL_silent_28 (by decide) ?_
      refine W.widen (k := 4) (n := 22) (by omega) (by omega) ?_
      exact W.iret (v := (-1382 : Int32)) hx hb hr (fun t ht _ => ⟨⟨_, ((σ, ν, ρ, lo), ad), rfl, ⟨_, _, rfl, Xt.rf, h⟩, WP.at9 ht hW⟩, hS1.F ht⟩) hS1.2.2 dL_silent_31 (hlocks := hlocks)
    · refine vx_catch (name := ISE) hown [⟨0, 19, 20, 65⟩, ⟨0, 19, 26, 67⟩] ⟨0, 19, 32, 69⟩ [] htb (fun z9 hz9 => (List.mem_cons.mp hz9).elim (fun e9 => by subst e9; exact Or.inr ⟨by decide, IOB, hts _ (List.mem_of_getElem? (i := 1) rfl), hE.2.2.2.2.2.2.2.1 (ISE, IOB) (List.mem_of_getElem? (i := 3) rfl)⟩) (fun h9 => by rw [List.mem_singleton] at h9; subst h9; exact Or.inr ⟨by decide, IAE, hts _ (List.mem_of_getElem? (i := 2) rfl), hE.2.2.2.2.2.2.2.1 (ISE, IAE) (List.mem_of_getElem? (i := 2) rfl)⟩)) rfl (by decide) (hts _ (List.mem_of_getElem? (i := 3) rfl)) (va_Nw.use rfl (hE.2.2.2.2.2.2.1 (ISE, ISE) (List.mem_of_getElem? (i := 3) rfl))) hce hv hcl ?_
      refine lv_astore (lv' := [(6, .ref q9), (0, .ref (ad 0 0)), (1, .int ((0 : Int32))), (2, .int p2), (3, .int p3), (4, .int p4), (5, .int p5)]) hx hb dL_silent_32 hl (by decide) rfl (fun ls hl => ?_)
      refine lv_sipush (v := (-1383 : Int32)) hx hb dL_silent_34 (by decide) ?_
      refine W.widen (k := 4) (n := 22) (by omega) (by omega) ?_
      exact W.iret (v := (-1383 : Int32)) hx hb hr (fun t ht _ => ⟨⟨_, ((σ, ν, ρ, lo), ad), rfl, ⟨_, _, rfl, Xt.rf, h⟩, WP.at9 ht hW⟩, hS1.F ht⟩) hS1.2.2 dL_silent_37 (hlocks := hlocks)
  · obtain ⟨S9, ad4⟩ := u9
    obtain ⟨t2, vv3, e9, q5, h⟩ := hp
    cases e9
    have hW : WP z G ad4 (t2, vv3, ρ, lo) H := by rw [← ht]; exact hB
    have z6 : ad4 0 0 = ad 0 0 := (q5 0 0 (by decide) rfl).2
    have hl : lv_has ls 7 [(0, .ref (ad4 0 0)), (1, .int ((0 : Int32))), (2, .int p2), (3, .int p3), (4, .int p4), (5, .int p5)] := by rw [z6]; exact hl
    refine r_if_eq hx hb rfl (tgt := 18) dL_silent_11 (by decide) (fun c7 => ?_) (fun c7 => ?_)
    · have h := ite_t c7 h
      refine lv_iconst (v := (1 : Int32)) hx hb dL_silent_18 (by decide) ?_
      refine W.widen (k := 4) (n := 22) (by omega) (by omega) ?_
      exact W.iret (v := (1 : Int32)) hx hb hr (fun t ht _ => ⟨⟨_, ((t2, vv3, ρ, lo), ad4), rfl, ⟨_, _, rfl, (Xt.tr Xt.rf q5), h⟩, WP.at9 ht hW⟩, hS.F ht⟩) hS.2.2 dL_silent_19 (hlocks := hlocks)
    · have h := ite_f c7 h
      refine lv_iconst (v := (0 : Int32)) hx hb dL_silent_14 (by decide) ?_
      refine lv_goto (tgt := 19) hx hb dL_silent_15 (by decide) ?_
      refine W.widen (k := 4) (n := 22) (by omega) (by omega) ?_
      exact W.iret (v := (0 : Int32)) hx hb hr (fun t ht _ => ⟨⟨_, ((t2, vv3, ρ, lo), ad4), rfl, ⟨_, _, rfl, (Xt.tr Xt.rf q5), h⟩, WP.at9 ht hW⟩, hS.F ht⟩) hS.2.2 dL_silent_19 (hlocks := hlocks)
set_option maxHeartbeats 4000000 in
set_option maxRecDepth 100000 in
theorem mtL_silent_1 (l : Launch) (hlt : l.stackTraces = false) (z : Nat) (G : Gl) (ad : Nat → Nat → Nat) (σ : SG) (ν : NU) (ρ : RH) (lo : Int64) (p2 : Int32) (p3 : Int32) (p4 : Int32) (p5 : Int32) (post : Int32 → SG → NU → Prop) (h : wpL_silent_1 σ ν ρ p2 p3 p4 p5 post) : Met l yL_silent wsL_silent ({ frames := 11, cells := 10, slots := 169, locals := 269 } : Room) (Pcs z G ad (σ, ν, ρ, lo) [.ref (ad 0 0), .int ((1 : Int32)), .int p2, .int p3, .int p4, .int p5]) (Qia z G (fun r S1 => ∃ (t : SG) (u : NU), S1.1 = (t, u, ρ, lo) ∧ Xt ad S1.2 ν u ∧ post r t u)) 10 169 (Az z) := by
  refine met_ofWH (cc := cL_silent) (maxL := 7) (ret := (some .int)) (hh := [(0, 19, 20, 65), (0, 19, 26, 67), (0, 19, 32, 69)]) (by decide) rfl ?_
  intro p e s m args below meth c s₁ B hml hv
  obtain ⟨rfl, hz, hW, hE⟩ := hv
  have hx := B.exec
  have hb := B.bytes
  have hr := B.returns
  have hts := atoms_spec (ws := wsL_silent) B.pre
  have hown : s.vm.findClass RL = some m.cls := findClass_of_methodNamed B.named
  have hlocks := B.notSynchronized
  have htb : c.exceptionTable.toList = [⟨0, 19, 20, 65⟩, ⟨0, 19, 26, 67⟩, ⟨0, 19, 32, 69⟩] := vx_table (x := yL_silent) B (hts _ List.mem_cons_self)
  have hS : va_S (Az z) s.heap s.heap [] := va_S.rf
  have hl := lv_entry [.ref (ad 0 0), .int ((1 : Int32)), .int p2, .int p3, .int p4, .int p5] (n := 7) (Nat.le_of_ble_eq_true rfl)
  rw [lg_entry_eq]
  generalize (lg_sl [.ref (ad 0 0), .int ((1 : Int32)), .int p2, .int p3, .int p4, .int p5] ++ List.replicate (7 - (lg_sl [.ref (ad 0 0), .int ((1 : Int32)), .int p2, .int p3, .int p4, .int p5]).length) Slot.unset).toArray = ls at hl ⊢
  have hl : lv_has ls 7 [(0, .ref (ad 0 0)), (1, .int ((1 : Int32))), (2, .int p2), (3, .int p3), (4, .int p4), (5, .int p5)] := hl
  unfold wpL_silent_1 at h
  refine lv_aload_n hx hb dL_silent_0 rfl (lv_at hl 0 rfl) ?_
  refine lv_iload_n hx hb dL_silent_1 rfl (lv_at hl 1 rfl) ?_
  refine lv_iload_n hx hb dL_silent_2 rfl (lv_at hl 2 rfl) ?_
  refine lv_iload_n hx hb dL_silent_3 rfl (lv_at hl 3 rfl) ?_
  refine lv_iload hx hb dL_silent_4 (lv_at hl 4 rfl) ?_
  refine lv_iload hx hb dL_silent_6 (lv_at hl 5 rfl) ?_
  refine vx_calli (vx_runS (As := [.ref (ad 0 0), .int ((1 : Int32)), .int p2, .int p3, .int p4, .int p5]) (rest := []) ⟨hx, hb, hml, hown, hts⟩ (mtL_tells_1 l hlt z G ad σ ν ρ lo p2 p3 p4 p5 _ _ h) (va_cwS 6 hts gL_silent_L_tells rfl rfl rfl (by decide +kernel) ⟨Nat.le_of_ble_eq_true rfl, Nat.le_of_ble_eq_true rfl⟩) ⟨Pcs.blind, fun U hU hw => ⟨rfl, Bc.of hE hz hW hS hU hw⟩⟩ rfl rfl hl.1 rfl (lv_room (Nat.le_of_ble_eq_true rfl)) dL_silent_8 ⟨by show _ ≤ 10; omega, by show _ ≤ 169; omega⟩) hS (fun _ _ h => h) (fun _ h => h) (fun _ _ h => h) (fun E ce q9 u9 t H1 locs1 ht _ hp hB _ _ hS1 hce hv hcl => ?_) (fun r1 u9 t H locs ht _ hp hB _ _ hS => ?_)
  · obtain ⟨E9, S9⟩ := u9
    obtain ⟨rfl, hB⟩ := hB
    obtain ⟨rfl, hxk⟩ := hp
    have hW : WP z G ad (σ, ν, ρ, lo) H1 := by rw [← ht]; exact hB
    rcases hxk with ⟨rfl, h⟩ | ⟨rfl, h⟩ | ⟨rfl, h⟩
    · refine vx_catch (name := IOB) hown [] ⟨0, 19, 20, 65⟩ [⟨0, 19, 26, 67⟩, ⟨0, 19, 32, 69⟩] htb (fun z9 hz9 => absurd hz9 List.not_mem_nil) rfl (by decide) (hts _ (List.mem_of_getElem? (i := 1) rfl)) (va_Nw.use rfl (hE.2.2.2.2.2.2.1 (IOB, IOB) (List.mem_of_getElem? (i := 4) rfl))) hce hv hcl ?_
      refine lv_astore (lv' := [(6, .ref q9), (0, .ref (ad 0 0)), (1, .int ((1 : Int32))), (2, .int p2), (3, .int p3), (4, .int p4), (5, .int p5)]) hx hb dL_silent_20 hl (by decide) rfl (fun ls hl => ?_)
      refine lv_sipush (v := (-1381 : Int32)) hx hb dL_silent_22 (by decide) ?_
      refine W.widen (k := 10) (n := 169) (by omega) (by omega) ?_
      exact W.iret (v := (-1381 : Int32)) hx hb hr (fun t ht _ => ⟨⟨_, ((σ, ν, ρ, lo), ad), rfl, ⟨_, _, rfl, Xt.rf, h⟩, WP.at9 ht hW⟩, hS1.F ht⟩) hS1.2.2 dL_silent_25 (hlocks := hlocks)
    · refine vx_catch (name := IAE) hown [⟨0, 19, 20, 65⟩] ⟨0, 19, 26, 67⟩ [⟨0, 19, 32, 69⟩] htb (fun z9 hz9 => by rw [List.mem_singleton] at hz9; subst hz9; exact Or.inr ⟨by decide, IOB, hts _ (List.mem_of_getElem? (i := 1) rfl), hE.2.2.2.2.2.2.2.1 (IAE, IOB) (List.mem_of_getElem? (i := 1) rfl)⟩) rfl (by decide) (hts _ (List.mem_of_getElem? (i := 2) rfl)) (va_Nw.use rfl (hE.2.2.2.2.2.2.1 (IAE, IAE) (List.mem_of_getElem? (i := 2) rfl))) hce hv hcl ?_
      refine lv_astore (lv' := [(6, .ref q9), (0, .ref (ad 0 0)), (1, .int ((1 : Int32))), (2, .int p2), (3, .int p3), (4, .int p4), (5, .int p5)]) hx hb dL_silent_26 hl (by decide) rfl (fun ls hl => ?_)
      refine lv_sipush (v := (-1382 : Int32)) hx hb dL_silent_28 (by decide) ?_
      refine W.widen (k := 10) (n := 169) (by omega) (by omega) ?_
      exact W.iret (v := (-1382 : Int32)) hx hb hr (fun t ht _ => ⟨⟨_, ((σ, ν, ρ, lo), ad), rfl, ⟨_, _, rfl, Xt.rf, h⟩, WP.at9 ht hW⟩, hS1.F ht⟩) hS1.2.2 dL_silent_31 (hlocks := hlocks)
    · refine vx_catch (name := ISE) hown [⟨0, 19, 20, 65⟩, ⟨0, 19, 26, 67⟩] ⟨0, 19, 32, 69⟩ [] htb (fun z9 hz9 => (List.mem_cons.mp hz9).elim (fun e9 => by subst e9; exact Or.inr ⟨by decide, IOB, hts _ (List.mem_of_getElem? (i := 1) rfl), hE.2.2.2.2.2.2.2.1 (ISE, IOB) (List.mem_of_getElem? (i := 3) rfl)⟩) (fun h9 => by rw [List.mem_singleton] at h9; subst h9; exact Or.inr ⟨by decide, IAE, hts _ (List.mem_of_getElem? (i := 2) rfl), hE.2.2.2.2.2.2.2.1 (ISE, IAE) (List.mem_of_getElem? (i := 2) rfl)⟩)) rfl (by decide) (hts _ (List.mem_of_getElem? (i := 3) rfl)) (va_Nw.use rfl (hE.2.2.2.2.2.2.1 (ISE, ISE) (List.mem_of_getElem? (i := 3) rfl))) hce hv hcl ?_
      refine lv_astore (lv' := [(6, .ref q9), (0, .ref (ad 0 0)), (1, .int ((1 : Int32))), (2, .int p2), (3, .int p3), (4, .int p4), (5, .int p5)]) hx hb dL_silent_32 hl (by decide) rfl (fun ls hl => ?_)
      refine lv_sipush (v := (-1383 : Int32)) hx hb dL_silent_34 (by decide) ?_
      refine W.widen (k := 10) (n := 169) (by omega) (by omega) ?_
      exact W.iret (v := (-1383 : Int32)) hx hb hr (fun t ht _ => ⟨⟨_, ((σ, ν, ρ, lo), ad), rfl, ⟨_, _, rfl, Xt.rf, h⟩, WP.at9 ht hW⟩, hS1.F ht⟩) hS1.2.2 dL_silent_37 (hlocks := hlocks)
  · obtain ⟨S9, ad4⟩ := u9
    obtain ⟨t2, vv3, e9, q5, h⟩ := hp
    cases e9
    have hW : WP z G ad4 (t2, vv3, ρ, lo) H := by rw [← ht]; exact hB
    have z6 : ad4 0 0 = ad 0 0 := (q5 0 0 (by decide) rfl).2
    have hl : lv_has ls 7 [(0, .ref (ad4 0 0)), (1, .int ((1 : Int32))), (2, .int p2), (3, .int p3), (4, .int p4), (5, .int p5)] := by rw [z6]; exact hl
    refine r_if_eq hx hb rfl (tgt := 18) dL_silent_11 (by decide) (fun c7 => ?_) (fun c7 => ?_)
    · have h := ite_t c7 h
      refine lv_iconst (v := (1 : Int32)) hx hb dL_silent_18 (by decide) ?_
      refine W.widen (k := 10) (n := 169) (by omega) (by omega) ?_
      exact W.iret (v := (1 : Int32)) hx hb hr (fun t ht _ => ⟨⟨_, ((t2, vv3, ρ, lo), ad4), rfl, ⟨_, _, rfl, (Xt.tr Xt.rf q5), h⟩, WP.at9 ht hW⟩, hS.F ht⟩) hS.2.2 dL_silent_19 (hlocks := hlocks)
    · have h := ite_f c7 h
      refine lv_iconst (v := (0 : Int32)) hx hb dL_silent_14 (by decide) ?_
      refine lv_goto (tgt := 19) hx hb dL_silent_15 (by decide) ?_
      refine W.widen (k := 10) (n := 169) (by omega) (by omega) ?_
      exact W.iret (v := (0 : Int32)) hx hb hr (fun t ht _ => ⟨⟨_, ((t2, vv3, ρ, lo), ad4), rfl, ⟨_, _, rfl, (Xt.tr Xt.rf q5), h⟩, WP.at9 ht hW⟩, hS.F ht⟩) hS.2.2 dL_silent_19 (hlocks := hlocks)
set_option maxHeartbeats 4000000 in
set_option maxRecDepth 100000 in
theorem mtL_silent_2 (l : Launch) (hlt : l.stackTraces = false) (z : Nat) (G : Gl) (ad : Nat → Nat → Nat) (σ : SG) (ν : NU) (ρ : RH) (lo : Int64) (p2 : Int32) (p3 : Int32) (p4 : Int32) (p5 : Int32) (post : Int32 → SG → NU → Prop) (h : wpL_silent_2 σ ν ρ p2 p3 p4 p5 post) : Met l yL_silent wsL_silent ({ frames := 11, cells := 10, slots := 169, locals := 269 } : Room) (Pcs z G ad (σ, ν, ρ, lo) [.ref (ad 0 0), .int ((2 : Int32)), .int p2, .int p3, .int p4, .int p5]) (Qia z G (fun r S1 => ∃ (t : SG) (u : NU), S1.1 = (t, u, ρ, lo) ∧ Xt ad S1.2 ν u ∧ post r t u)) 10 169 (Az z) := by
  refine met_ofWH (cc := cL_silent) (maxL := 7) (ret := (some .int)) (hh := [(0, 19, 20, 65), (0, 19, 26, 67), (0, 19, 32, 69)]) (by decide) rfl ?_
  intro p e s m args below meth c s₁ B hml hv
  obtain ⟨rfl, hz, hW, hE⟩ := hv
  have hx := B.exec
  have hb := B.bytes
  have hr := B.returns
  have hts := atoms_spec (ws := wsL_silent) B.pre
  have hown : s.vm.findClass RL = some m.cls := findClass_of_methodNamed B.named
  have hlocks := B.notSynchronized
  have htb : c.exceptionTable.toList = [⟨0, 19, 20, 65⟩, ⟨0, 19, 26, 67⟩, ⟨0, 19, 32, 69⟩] := vx_table (x := yL_silent) B (hts _ List.mem_cons_self)
  have hS : va_S (Az z) s.heap s.heap [] := va_S.rf
  have hl := lv_entry [.ref (ad 0 0), .int ((2 : Int32)), .int p2, .int p3, .int p4, .int p5] (n := 7) (Nat.le_of_ble_eq_true rfl)
  rw [lg_entry_eq]
  generalize (lg_sl [.ref (ad 0 0), .int ((2 : Int32)), .int p2, .int p3, .int p4, .int p5] ++ List.replicate (7 - (lg_sl [.ref (ad 0 0), .int ((2 : Int32)), .int p2, .int p3, .int p4, .int p5]).length) Slot.unset).toArray = ls at hl ⊢
  have hl : lv_has ls 7 [(0, .ref (ad 0 0)), (1, .int ((2 : Int32))), (2, .int p2), (3, .int p3), (4, .int p4), (5, .int p5)] := hl
  unfold wpL_silent_2 at h
  refine lv_aload_n hx hb dL_silent_0 rfl (lv_at hl 0 rfl) ?_
  refine lv_iload_n hx hb dL_silent_1 rfl (lv_at hl 1 rfl) ?_
  refine lv_iload_n hx hb dL_silent_2 rfl (lv_at hl 2 rfl) ?_
  refine lv_iload_n hx hb dL_silent_3 rfl (lv_at hl 3 rfl) ?_
  refine lv_iload hx hb dL_silent_4 (lv_at hl 4 rfl) ?_
  refine lv_iload hx hb dL_silent_6 (lv_at hl 5 rfl) ?_
  refine vx_calli (vx_runS (As := [.ref (ad 0 0), .int ((2 : Int32)), .int p2, .int p3, .int p4, .int p5]) (rest := []) ⟨hx, hb, hml, hown, hts⟩ (mtL_tells_2 l hlt z G ad σ ν ρ lo p2 p3 p4 p5 _ _ h) (va_cwS 6 hts gL_silent_L_tells rfl rfl rfl (by decide +kernel) ⟨Nat.le_of_ble_eq_true rfl, Nat.le_of_ble_eq_true rfl⟩) ⟨Pcs.blind, fun U hU hw => ⟨rfl, Bc.of hE hz hW hS hU hw⟩⟩ rfl rfl hl.1 rfl (lv_room (Nat.le_of_ble_eq_true rfl)) dL_silent_8 ⟨by show _ ≤ 10; omega, by show _ ≤ 169; omega⟩) hS (fun _ _ h => h) (fun _ h => h) (fun _ _ h => h) (fun E ce q9 u9 t H1 locs1 ht _ hp hB _ _ hS1 hce hv hcl => ?_) (fun r1 u9 t H locs ht _ hp hB _ _ hS => ?_)
  · obtain ⟨E9, S9⟩ := u9
    obtain ⟨rfl, hB⟩ := hB
    obtain ⟨rfl, hxk⟩ := hp
    have hW : WP z G ad (σ, ν, ρ, lo) H1 := by rw [← ht]; exact hB
    rcases hxk with ⟨rfl, h⟩ | ⟨rfl, h⟩ | ⟨rfl, h⟩
    · refine vx_catch (name := IOB) hown [] ⟨0, 19, 20, 65⟩ [⟨0, 19, 26, 67⟩, ⟨0, 19, 32, 69⟩] htb (fun z9 hz9 => absurd hz9 List.not_mem_nil) rfl (by decide) (hts _ (List.mem_of_getElem? (i := 1) rfl)) (va_Nw.use rfl (hE.2.2.2.2.2.2.1 (IOB, IOB) (List.mem_of_getElem? (i := 4) rfl))) hce hv hcl ?_
      refine lv_astore (lv' := [(6, .ref q9), (0, .ref (ad 0 0)), (1, .int ((2 : Int32))), (2, .int p2), (3, .int p3), (4, .int p4), (5, .int p5)]) hx hb dL_silent_20 hl (by decide) rfl (fun ls hl => ?_)
      refine lv_sipush (v := (-1381 : Int32)) hx hb dL_silent_22 (by decide) ?_
      refine W.widen (k := 10) (n := 169) (by omega) (by omega) ?_
      exact W.iret (v := (-1381 : Int32)) hx hb hr (fun t ht _ => ⟨⟨_, ((σ, ν, ρ, lo), ad), rfl, ⟨_, _, rfl, Xt.rf, h⟩, WP.at9 ht hW⟩, hS1.F ht⟩) hS1.2.2 dL_silent_25 (hlocks := hlocks)
    · refine vx_catch (name := IAE) hown [⟨0, 19, 20, 65⟩] ⟨0, 19, 26, 67⟩ [⟨0, 19, 32, 69⟩] htb (fun z9 hz9 => by rw [List.mem_singleton] at hz9; subst hz9; exact Or.inr ⟨by decide, IOB, hts _ (List.mem_of_getElem? (i := 1) rfl), hE.2.2.2.2.2.2.2.1 (IAE, IOB) (List.mem_of_getElem? (i := 1) rfl)⟩) rfl (by decide) (hts _ (List.mem_of_getElem? (i := 2) rfl)) (va_Nw.use rfl (hE.2.2.2.2.2.2.1 (IAE, IAE) (List.mem_of_getElem? (i := 2) rfl))) hce hv hcl ?_
      refine lv_astore (lv' := [(6, .ref q9), (0, .ref (ad 0 0)), (1, .int ((2 : Int32))), (2, .int p2), (3, .int p3), (4, .int p4), (5, .int p5)]) hx hb dL_silent_26 hl (by decide) rfl (fun ls hl => ?_)
      refine lv_sipush (v := (-1382 : Int32)) hx hb dL_silent_28 (by decide) ?_
      refine W.widen (k := 10) (n := 169) (by omega) (by omega) ?_
      exact W.iret (v := (-1382 : Int32)) hx hb hr (fun t ht _ => ⟨⟨_, ((σ, ν, ρ, lo), ad), rfl, ⟨_, _, rfl, Xt.rf, h⟩, WP.at9 ht hW⟩, hS1.F ht⟩) hS1.2.2 dL_silent_31 (hlocks := hlocks)
    · refine vx_catch (name := ISE) hown [⟨0, 19, 20, 65⟩, ⟨0, 19, 26, 67⟩] ⟨0, 19, 32, 69⟩ [] htb (fun z9 hz9 => (List.mem_cons.mp hz9).elim (fun e9 => by subst e9; exact Or.inr ⟨by decide, IOB, hts _ (List.mem_of_getElem? (i := 1) rfl), hE.2.2.2.2.2.2.2.1 (ISE, IOB) (List.mem_of_getElem? (i := 3) rfl)⟩) (fun h9 => by rw [List.mem_singleton] at h9; subst h9; exact Or.inr ⟨by decide, IAE, hts _ (List.mem_of_getElem? (i := 2) rfl), hE.2.2.2.2.2.2.2.1 (ISE, IAE) (List.mem_of_getElem? (i := 2) rfl)⟩)) rfl (by decide) (hts _ (List.mem_of_getElem? (i := 3) rfl)) (va_Nw.use rfl (hE.2.2.2.2.2.2.1 (ISE, ISE) (List.mem_of_getElem? (i := 3) rfl))) hce hv hcl ?_
      refine lv_astore (lv' := [(6, .ref q9), (0, .ref (ad 0 0)), (1, .int ((2 : Int32))), (2, .int p2), (3, .int p3), (4, .int p4), (5, .int p5)]) hx hb dL_silent_32 hl (by decide) rfl (fun ls hl => ?_)
      refine lv_sipush (v := (-1383 : Int32)) hx hb dL_silent_34 (by decide) ?_
      refine W.widen (k := 10) (n := 169) (by omega) (by omega) ?_
      exact W.iret (v := (-1383 : Int32)) hx hb hr (fun t ht _ => ⟨⟨_, ((σ, ν, ρ, lo), ad), rfl, ⟨_, _, rfl, Xt.rf, h⟩, WP.at9 ht hW⟩, hS1.F ht⟩) hS1.2.2 dL_silent_37 (hlocks := hlocks)
  · obtain ⟨S9, ad4⟩ := u9
    obtain ⟨t2, vv3, e9, q5, h⟩ := hp
    cases e9
    have hW : WP z G ad4 (t2, vv3, ρ, lo) H := by rw [← ht]; exact hB
    have z6 : ad4 0 0 = ad 0 0 := (q5 0 0 (by decide) rfl).2
    have hl : lv_has ls 7 [(0, .ref (ad4 0 0)), (1, .int ((2 : Int32))), (2, .int p2), (3, .int p3), (4, .int p4), (5, .int p5)] := by rw [z6]; exact hl
    refine r_if_eq hx hb rfl (tgt := 18) dL_silent_11 (by decide) (fun c7 => ?_) (fun c7 => ?_)
    · have h := ite_t c7 h
      refine lv_iconst (v := (1 : Int32)) hx hb dL_silent_18 (by decide) ?_
      refine W.widen (k := 10) (n := 169) (by omega) (by omega) ?_
      exact W.iret (v := (1 : Int32)) hx hb hr (fun t ht _ => ⟨⟨_, ((t2, vv3, ρ, lo), ad4), rfl, ⟨_, _, rfl, (Xt.tr Xt.rf q5), h⟩, WP.at9 ht hW⟩, hS.F ht⟩) hS.2.2 dL_silent_19 (hlocks := hlocks)
    · have h := ite_f c7 h
      refine lv_iconst (v := (0 : Int32)) hx hb dL_silent_14 (by decide) ?_
      refine lv_goto (tgt := 19) hx hb dL_silent_15 (by decide) ?_
      refine W.widen (k := 10) (n := 169) (by omega) (by omega) ?_
      exact W.iret (v := (0 : Int32)) hx hb hr (fun t ht _ => ⟨⟨_, ((t2, vv3, ρ, lo), ad4), rfl, ⟨_, _, rfl, (Xt.tr Xt.rf q5), h⟩, WP.at9 ht hW⟩, hS.F ht⟩) hS.2.2 dL_silent_19 (hlocks := hlocks)
set_option maxHeartbeats 4000000 in
set_option maxRecDepth 100000 in
theorem mtL_silent_3 (l : Launch) (hlt : l.stackTraces = false) (z : Nat) (G : Gl) (ad : Nat → Nat → Nat) (σ : SG) (ν : NU) (ρ : RH) (lo : Int64) (p2 : Int32) (p3 : Int32) (p4 : Int32) (p5 : Int32) (post : Int32 → SG → NU → Prop) (h : wpL_silent_3 σ ν ρ p2 p3 p4 p5 post) : Met l yL_silent wsL_silent ({ frames := 11, cells := 11, slots := 175, locals := 270 } : Room) (Pcs z G ad (σ, ν, ρ, lo) [.ref (ad 0 0), .int ((3 : Int32)), .int p2, .int p3, .int p4, .int p5]) (Qia z G (fun r S1 => ∃ (t : SG) (u : NU), S1.1 = (t, u, ρ, lo) ∧ Xt ad S1.2 ν u ∧ post r t u)) 11 175 (Az z) := by
  refine met_ofWH (cc := cL_silent) (maxL := 7) (ret := (some .int)) (hh := [(0, 19, 20, 65), (0, 19, 26, 67), (0, 19, 32, 69)]) (by decide) rfl ?_
  intro p e s m args below meth c s₁ B hml hv
  obtain ⟨rfl, hz, hW, hE⟩ := hv
  have hx := B.exec
  have hb := B.bytes
  have hr := B.returns
  have hts := atoms_spec (ws := wsL_silent) B.pre
  have hown : s.vm.findClass RL = some m.cls := findClass_of_methodNamed B.named
  have hlocks := B.notSynchronized
  have htb : c.exceptionTable.toList = [⟨0, 19, 20, 65⟩, ⟨0, 19, 26, 67⟩, ⟨0, 19, 32, 69⟩] := vx_table (x := yL_silent) B (hts _ List.mem_cons_self)
  have hS : va_S (Az z) s.heap s.heap [] := va_S.rf
  have hl := lv_entry [.ref (ad 0 0), .int ((3 : Int32)), .int p2, .int p3, .int p4, .int p5] (n := 7) (Nat.le_of_ble_eq_true rfl)
  rw [lg_entry_eq]
  generalize (lg_sl [.ref (ad 0 0), .int ((3 : Int32)), .int p2, .int p3, .int p4, .int p5] ++ List.replicate (7 - (lg_sl [.ref (ad 0 0), .int ((3 : Int32)), .int p2, .int p3, .int p4, .int p5]).length) Slot.unset).toArray = ls at hl ⊢
  have hl : lv_has ls 7 [(0, .ref (ad 0 0)), (1, .int ((3 : Int32))), (2, .int p2), (3, .int p3), (4, .int p4), (5, .int p5)] := hl
  unfold wpL_silent_3 at h
  refine lv_aload_n hx hb dL_silent_0 rfl (lv_at hl 0 rfl) ?_
  refine lv_iload_n hx hb dL_silent_1 rfl (lv_at hl 1 rfl) ?_
  refine lv_iload_n hx hb dL_silent_2 rfl (lv_at hl 2 rfl) ?_
  refine lv_iload_n hx hb dL_silent_3 rfl (lv_at hl 3 rfl) ?_
  refine lv_iload hx hb dL_silent_4 (lv_at hl 4 rfl) ?_
  refine lv_iload hx hb dL_silent_6 (lv_at hl 5 rfl) ?_
  refine vx_calli (vx_runS (As := [.ref (ad 0 0), .int ((3 : Int32)), .int p2, .int p3, .int p4, .int p5]) (rest := []) ⟨hx, hb, hml, hown, hts⟩ (mtL_tells_3 l hlt z G ad σ ν ρ lo p2 p3 p4 p5 _ _ h) (va_cwS 6 hts gL_silent_L_tells rfl rfl rfl (by decide +kernel) ⟨Nat.le_of_ble_eq_true rfl, Nat.le_of_ble_eq_true rfl⟩) ⟨Pcs.blind, fun U hU hw => ⟨rfl, Bc.of hE hz hW hS hU hw⟩⟩ rfl rfl hl.1 rfl (lv_room (Nat.le_of_ble_eq_true rfl)) dL_silent_8 ⟨by show _ ≤ 11; omega, by show _ ≤ 175; omega⟩) hS (fun _ _ h => h) (fun _ h => h) (fun _ _ h => h) (fun E ce q9 u9 t H1 locs1 ht _ hp hB _ _ hS1 hce hv hcl => ?_) (fun r1 u9 t H locs ht _ hp hB _ _ hS => ?_)
  · obtain ⟨E9, S9⟩ := u9
    obtain ⟨rfl, hB⟩ := hB
    obtain ⟨rfl, hxk⟩ := hp
    have hW : WP z G ad (σ, ν, ρ, lo) H1 := by rw [← ht]; exact hB
    rcases hxk with ⟨rfl, h⟩ | ⟨rfl, h⟩ | ⟨rfl, h⟩
    · refine vx_catch (name := IOB) hown [] ⟨0, 19, 20, 65⟩ [⟨0, 19, 26, 67⟩, ⟨0, 19, 32, 69⟩] htb (fun z9 hz9 => absurd hz9 List.not_mem_nil) rfl (by decide) (hts _ (List.mem_of_getElem? (i := 1) rfl)) (va_Nw.use rfl (hE.2.2.2.2.2.2.1 (IOB, IOB) (List.mem_of_getElem? (i := 4) rfl))) hce hv hcl ?_
      refine lv_astore (lv' := [(6, .ref q9), (0, .ref (ad 0 0)), (1, .int ((3 : Int32))), (2, .int p2), (3, .int p3), (4, .int p4), (5, .int p5)]) hx hb dL_silent_20 hl (by decide) rfl (fun ls hl => ?_)
      refine lv_sipush (v := (-1381 : Int32)) hx hb dL_silent_22 (by decide) ?_
      refine W.widen (k := 11) (n := 175) (by omega) (by omega) ?_
      exact W.iret (v := (-1381 : Int32)) hx hb hr (fun t ht _ => ⟨⟨_, ((σ, ν, ρ, lo), ad), rfl, ⟨_, _, rfl, Xt.rf, h⟩, WP.at9 ht hW⟩, hS1.F ht⟩) hS1.2.2 dL_silent_25 (hlocks := hlocks)
    · refine vx_catch (name := IAE) hown [⟨0, 19, 20, 65⟩] ⟨0, 19, 26, 67⟩ [⟨0, 19, 32, 69⟩] htb (fun z9 hz9 => by rw [List.mem_singleton] at hz9; subst hz9; exact Or.inr ⟨by decide, IOB, hts _ (List.mem_of_getElem? (i := 1) rfl), hE.2.2.2.2.2.2.2.1 (IAE, IOB) (List.mem_of_getElem? (i := 1) rfl)⟩) rfl (by decide) (hts _ (List.mem_of_getElem? (i := 2) rfl)) (va_Nw.use rfl (hE.2.2.2.2.2.2.1 (IAE, IAE) (List.mem_of_getElem? (i := 2) rfl))) hce hv hcl ?_
      refine lv_astore (lv' := [(6, .ref q9), (0, .ref (ad 0 0)), (1, .int ((3 : Int32))), (2, .int p2), (3, .int p3), (4, .int p4), (5, .int p5)]) hx hb dL_silent_26 hl (by decide) rfl (fun ls hl => ?_)
      refine lv_sipush (v := (-1382 : Int32)) hx hb dL_silent_28 (by decide) ?_
      refine W.widen (k := 11) (n := 175) (by omega) (by omega) ?_
      exact W.iret (v := (-1382 : Int32)) hx hb hr (fun t ht _ => ⟨⟨_, ((σ, ν, ρ, lo), ad), rfl, ⟨_, _, rfl, Xt.rf, h⟩, WP.at9 ht hW⟩, hS1.F ht⟩) hS1.2.2 dL_silent_31 (hlocks := hlocks)
    · refine vx_catch (name := ISE) hown [⟨0, 19, 20, 65⟩, ⟨0, 19, 26, 67⟩] ⟨0, 19, 32, 69⟩ [] htb (fun z9 hz9 => (List.mem_cons.mp hz9).elim (fun e9 => by subst e9; exact Or.inr ⟨by decide, IOB, hts _ (List.mem_of_getElem? (i := 1) rfl), hE.2.2.2.2.2.2.2.1 (ISE, IOB) (List.mem_of_getElem? (i := 3) rfl)⟩) (fun h9 => by rw [List.mem_singleton] at h9; subst h9; exact Or.inr ⟨by decide, IAE, hts _ (List.mem_of_getElem? (i := 2) rfl), hE.2.2.2.2.2.2.2.1 (ISE, IAE) (List.mem_of_getElem? (i := 2) rfl)⟩)) rfl (by decide) (hts _ (List.mem_of_getElem? (i := 3) rfl)) (va_Nw.use rfl (hE.2.2.2.2.2.2.1 (ISE, ISE) (List.mem_of_getElem? (i := 3) rfl))) hce hv hcl ?_
      refine lv_astore (lv' := [(6, .ref q9), (0, .ref (ad 0 0)), (1, .int ((3 : Int32))), (2, .int p2), (3, .int p3), (4, .int p4), (5, .int p5)]) hx hb dL_silent_32 hl (by decide) rfl (fun ls hl => ?_)
      refine lv_sipush (v := (-1383 : Int32)) hx hb dL_silent_34 (by decide) ?_
      refine W.widen (k := 11) (n := 175) (by omega) (by omega) ?_
      exact W.iret (v := (-1383 : Int32)) hx hb hr (fun t ht _ => ⟨⟨_, ((σ, ν, ρ, lo), ad), rfl, ⟨_, _, rfl, Xt.rf, h⟩, WP.at9 ht hW⟩, hS1.F ht⟩) hS1.2.2 dL_silent_37 (hlocks := hlocks)
  · obtain ⟨S9, ad4⟩ := u9
    obtain ⟨t2, vv3, e9, q5, h⟩ := hp
    cases e9
    have hW : WP z G ad4 (t2, vv3, ρ, lo) H := by rw [← ht]; exact hB
    have z6 : ad4 0 0 = ad 0 0 := (q5 0 0 (by decide) rfl).2
    have hl : lv_has ls 7 [(0, .ref (ad4 0 0)), (1, .int ((3 : Int32))), (2, .int p2), (3, .int p3), (4, .int p4), (5, .int p5)] := by rw [z6]; exact hl
    refine r_if_eq hx hb rfl (tgt := 18) dL_silent_11 (by decide) (fun c7 => ?_) (fun c7 => ?_)
    · have h := ite_t c7 h
      refine lv_iconst (v := (1 : Int32)) hx hb dL_silent_18 (by decide) ?_
      refine W.widen (k := 11) (n := 175) (by omega) (by omega) ?_
      exact W.iret (v := (1 : Int32)) hx hb hr (fun t ht _ => ⟨⟨_, ((t2, vv3, ρ, lo), ad4), rfl, ⟨_, _, rfl, (Xt.tr Xt.rf q5), h⟩, WP.at9 ht hW⟩, hS.F ht⟩) hS.2.2 dL_silent_19 (hlocks := hlocks)
    · have h := ite_f c7 h
      refine lv_iconst (v := (0 : Int32)) hx hb dL_silent_14 (by decide) ?_
      refine lv_goto (tgt := 19) hx hb dL_silent_15 (by decide) ?_
      refine W.widen (k := 11) (n := 175) (by omega) (by omega) ?_
      exact W.iret (v := (0 : Int32)) hx hb hr (fun t ht _ => ⟨⟨_, ((t2, vv3, ρ, lo), ad4), rfl, ⟨_, _, rfl, (Xt.tr Xt.rf q5), h⟩, WP.at9 ht hW⟩, hS.F ht⟩) hS.2.2 dL_silent_19 (hlocks := hlocks)
set_option maxHeartbeats 4000000 in
set_option maxRecDepth 100000 in
theorem mtL_key (l : Launch) (hlt : l.stackTraces = false) (z : Nat) (G : Gl) (ad : Nat → Nat → Nat) (σ : SG) (ν : NU) (ρ : RH) (lo : Int64) (p0 : Int32) (post : Int32 → Prop) (h : wpL_key σ ν ρ p0 post) : Met l yL_key wsL_key ({ frames := 0, cells := 0, slots := 0, locals := 0 } : Room) (Pcs z G ad (σ, ν, ρ, lo) [.int p0]) (Qis z G ad (fun r S1 => S1 = (σ, ν, ρ, lo) ∧ post r)) 0 0 (Az z) := by
  refine Met.ofW (cc := cL_key) (maxL := 2) (ret := (some .int)) (by decide) rfl ?_
  intro p e s m args below meth c s₁ B hml hv
  obtain ⟨rfl, hz, hW, hE⟩ := hv
  have hx := B.exec
  have hb := B.bytes
  have hr := B.returns
  have hts := atoms_spec (ws := wsL_key) B.pre
  have hown : s.vm.findClass RL = some m.cls := findClass_of_methodNamed B.named
  have hlocks := B.notSynchronized
  have X : Cx p l e s m _ below meth c cL_key (some .int) 2 RL wsL_key z G := ⟨hx, hb, hr, hml, hown, hts, hlocks, hE, hz⟩
  have hS : va_S (Az z) s.heap s.heap [] := va_S.rf
  have hl := lv_entry [.int p0] (n := 2) (Nat.le_of_ble_eq_true rfl)
  rw [lg_entry_eq]
  generalize (lg_sl [.int p0] ++ List.replicate (2 - (lg_sl [.int p0]).length) Slot.unset).toArray = ls at hl ⊢
  have hl : lv_has ls 2 [(0, .int p0)] := hl
  unfold wpL_key at h
  refine lv_iload_n hx hb dL_key_0 rfl (lv_at hl 0 rfl) ?_
  refine lv_sipush (v := (1000 : Int32)) hx hb dL_key_1 (by decide) ?_
  refine lv_irem hx hb dL_key_4 (by decide) ?_
  refine lv_istore_n (lv' := [(1, .int (p0 - p0 / ((1000 : Int32)) * ((1000 : Int32)))), (0, .int p0)]) hx hb dL_key_5 rfl hl (by decide) rfl (fun ls hl => ?_)
  refine lv_iload_n hx hb dL_key_6 rfl (lv_at hl 1 rfl) ?_
  refine lv_sipush (v := (1000 : Int32)) hx hb dL_key_7 (by decide) ?_
  refine lv_idiv hx hb dL_key_10 (by decide) ?_
  refine lv_sipush (v := (1000 : Int32)) hx hb dL_key_11 (by decide) ?_
  refine lv_imul hx hb dL_key_14 ?_
  refine lv_iload_n hx hb dL_key_15 rfl (lv_at hl 0 rfl) ?_
  refine lv_bipush (v := (27 : Int32)) hx hb dL_key_16 (by decide) ?_
  refine r_icmp_ge hx hb rfl (show (27 : Int32).toInt = 27 by decide) (tgt := 28) dL_key_18 (by decide) (fun c1 => ?_) (fun c1 => ?_)
  · have h := ite_f c1 h
    refine lv_iload_n hx hb dL_key_28 rfl (lv_at hl 0 rfl) ?_
    refine lv_iadd hx hb dL_key_29 ?_
    refine W.widen (k := 0) (n := 0) (by omega) (by omega) ?_
    exact W.iret (v := ((p0 / ((1000 : Int32))) * ((1000 : Int32))) + (p0 - p0 / ((1000 : Int32)) * ((1000 : Int32)))) hx hb hr (fun t ht _ => ⟨⟨_, (σ, ν, ρ, lo), rfl, ⟨rfl, h⟩, WP.at9 ht hW⟩, hS.F ht⟩) hS.2.2 dL_key_30 (hlocks := hlocks)
  · have h := ite_t c1 h
    refine lv_bipush (v := (27 : Int32)) hx hb dL_key_21 (by decide) ?_
    refine lv_iload_n hx hb dL_key_23 rfl (lv_at hl 0 rfl) ?_
    refine lv_imul hx hb dL_key_24 ?_
    refine lv_goto (tgt := 29) hx hb dL_key_25 (by decide) ?_
    refine lv_iadd hx hb dL_key_29 ?_
    refine W.widen (k := 0) (n := 0) (by omega) (by omega) ?_
    exact W.iret (v := ((p0 / ((1000 : Int32))) * ((1000 : Int32))) + (((27 : Int32)) * (p0 - p0 / ((1000 : Int32)) * ((1000 : Int32))))) hx hb hr (fun t ht _ => ⟨⟨_, (σ, ν, ρ, lo), rfl, ⟨rfl, h⟩, WP.at9 ht hW⟩, hS.F ht⟩) hS.2.2 dL_key_30 (hlocks := hlocks)
set_option maxHeartbeats 4000000 in
set_option maxRecDepth 100000 in
theorem tL_begins_51 {p : Program} {l : Launch} {e : Env} {s : State} {m : MethodId} {args : Array Value} {below : List Frame} {meth : Method} {c : Code} {z : Nat} {G : Gl} {ad : Nat → Nat → Nat} {σ : SG} {ν : NU} {ρ : RH} {lo : Int64} (X : Cx p l e s m args below meth c cL_begins (some .int) 7 RL wsL_begins z G) (p4 : Int32)  (post : Int32 → Prop) : ∀ (kc ks : Nat), kc + 0 ≤ 0 → ks + 0 ≤ 0 → ∀ (x5 : Int32) (y0 : Int32) {H : Heap} {locs : List Loc} {ls : Array Slot}, WP z G ad (σ, ν, ρ, lo) H → va_S (Az z) s.heap H locs → lv_has ls 7 [(0, .ref (ad 100 0)), (1, .ref (ad 101 0)), (2, .ref (ad 102 0)), (3, .ref (ad 103 0)), (4, .int p4), (5, .int x5)] → jL_begins_51 p4 post σ ν ρ x5 y0 → W p l e ({ frames := 0, cells := 0, slots := 0, locals := 0 } : Room) s m args below meth c H locs kc ks (MQ below (Qis z G ad (fun r S1 => S1 = (σ, ν, ρ, lo) ∧ post r)) args s 0 0 (Az z)) (F0 m 51 ls [.int y0]) := by
  obtain ⟨hx, hb, hr, hml, hown, hts, hlocks, hE, hz⟩ := id X
  intro kc ks hB1 hB2 x5 y0 H locs ls hW hS hl h
  unfold jL_begins_51 at h
  refine lv_istore (lv' := [(6, .int y0), (0, .ref (ad 100 0)), (1, .ref (ad 101 0)), (2, .ref (ad 102 0)), (3, .ref (ad 103 0)), (4, .int p4), (5, .int x5)]) hx hb dL_begins_51 hl (by decide) rfl (fun ls hl => ?_)
  refine lv_aload_n hx hb dL_begins_53 rfl (lv_at hl 3 rfl) ?_
  refine lv_iload hx hb dL_begins_54 (lv_at hl 5 rfl) ?_
  obtain ⟨b5, h⟩ := h
  refine r_iald hx hb hE hW 102 0 ⟨rfl, by decide, by decide⟩ (n := 40) (f := ρ 2) rfl b5 (v := ρ 2 p4.toNatClampNeg) rfl dL_begins_56 ?_
  refine lv_iconst (v := (3 : Int32)) hx hb dL_begins_57 (by decide) ?_
  refine lv_ishr hx hb dL_begins_58 ?_
  refine lv_sipush (v := (8191 : Int32)) hx hb dL_begins_59 (by decide) ?_
  refine lv_iand hx hb dL_begins_62 ?_
  refine lv_aload_n hx hb dL_begins_63 rfl (lv_at hl 1 rfl) ?_
  refine lv_bipush (v := (6 : Int32)) hx hb dL_begins_64 (by decide) ?_
  obtain ⟨b6, h⟩ := h
  refine r_iald hx hb hE hW 100 0 ⟨rfl, by decide, by decide⟩ (n := 14) (f := ρ 0) rfl b6 (v := ρ 0 ((6 : Int32)).toNatClampNeg) rfl dL_begins_66 ?_
  refine r_icmp_le hx hb rfl rfl (tgt := 74) dL_begins_67 (by decide) (fun c7 => ?_) (fun c7 => ?_)
  · have h := ite_t c7 h
    refine lv_aload_n hx hb dL_begins_74 rfl (lv_at hl 2 rfl) ?_
    refine lv_iload hx hb dL_begins_75 (lv_at hl 6 rfl) ?_
    obtain ⟨b8, h⟩ := h
    refine r_iald hx hb hE hW 101 0 ⟨rfl, by decide, by decide⟩ (n := 40) (f := ρ 1) rfl b8 (v := ρ 1 x5.toNatClampNeg) rfl dL_begins_77 ?_
    refine lv_iconst (v := (4 : Int32)) hx hb dL_begins_78 (by decide) ?_
    refine lv_irem hx hb dL_begins_79 (by decide) ?_
    refine r_if_ne hx hb rfl (tgt := 92) dL_begins_80 (by decide) (fun c9 => ?_) (fun c9 => ?_)
    · have h := ite_f c9 h
      refine lv_iload hx hb dL_begins_92 (lv_at hl 0 rfl) ?_
      refine r_if_eq hx hb rfl (tgt := 110) dL_begins_94 (by decide) (fun c10 => ?_) (fun c10 => ?_)
      · have h := ite_t c10 h
        refine lv_iconst (v := (-1 : Int32)) hx hb dL_begins_110 (by decide) ?_
        refine W.widen (k := 0) (n := 0) (by omega) (by omega) ?_
        exact W.iret (v := (-1 : Int32)) hx hb hr (fun t ht _ => ⟨⟨_, (σ, ν, ρ, lo), rfl, ⟨rfl, h⟩, WP.at9 ht hW⟩, hS.F ht⟩) hS.2.2 dL_begins_111 (hlocks := hlocks)
      · have h := ite_f c10 h
        refine lv_aload_n hx hb dL_begins_97 rfl (lv_at hl 4 rfl) ?_
        refine lv_iload hx hb dL_begins_98 (lv_at hl 6 rfl) ?_
        obtain ⟨b11, h⟩ := h
        refine r_iald hx hb hE hW 103 0 ⟨rfl, by decide, by decide⟩ (n := 40) (f := ρ 3) rfl b11 (v := ρ 3 x5.toNatClampNeg) rfl dL_begins_100 ?_
        refine lv_sipush (v := (8191 : Int32)) hx hb dL_begins_101 (by decide) ?_
        refine lv_iand hx hb dL_begins_104 ?_
        refine lv_iconst (v := (1 : Int32)) hx hb dL_begins_105 (by decide) ?_
        refine lv_isub hx hb dL_begins_106 ?_
        refine lv_goto (tgt := 111) hx hb dL_begins_107 (by decide) ?_
        refine W.widen (k := 0) (n := 0) (by omega) (by omega) ?_
        exact W.iret (v := ((ρ 3 x5.toNatClampNeg) &&& ((8191 : Int32))) - ((1 : Int32))) hx hb hr (fun t ht _ => ⟨⟨_, (σ, ν, ρ, lo), rfl, ⟨rfl, h⟩, WP.at9 ht hW⟩, hS.F ht⟩) hS.2.2 dL_begins_111 (hlocks := hlocks)
    · have h := ite_t c9 h
      refine lv_aload_n hx hb dL_begins_83 rfl (lv_at hl 2 rfl) ?_
      refine lv_iload hx hb dL_begins_84 (lv_at hl 6 rfl) ?_
      obtain ⟨b12, h⟩ := h
      refine r_iald hx hb hE hW 101 0 ⟨rfl, by decide, by decide⟩ (n := 40) (f := ρ 1) rfl b12 (v := ρ 1 x5.toNatClampNeg) rfl dL_begins_86 ?_
      refine lv_iconst (v := (4 : Int32)) hx hb dL_begins_87 (by decide) ?_
      refine lv_idiv hx hb dL_begins_88 (by decide) ?_
      refine lv_goto (tgt := 111) hx hb dL_begins_89 (by decide) ?_
      refine W.widen (k := 0) (n := 0) (by omega) (by omega) ?_
      exact W.iret (v := (ρ 1 x5.toNatClampNeg) / ((4 : Int32))) hx hb hr (fun t ht _ => ⟨⟨_, (σ, ν, ρ, lo), rfl, ⟨rfl, h⟩, WP.at9 ht hW⟩, hS.F ht⟩) hS.2.2 dL_begins_111 (hlocks := hlocks)
  · have h := ite_f c7 h
    refine lv_iconst (v := (-1 : Int32)) hx hb dL_begins_70 (by decide) ?_
    refine lv_goto (tgt := 111) hx hb dL_begins_71 (by decide) ?_
    refine W.widen (k := 0) (n := 0) (by omega) (by omega) ?_
    exact W.iret (v := (-1 : Int32)) hx hb hr (fun t ht _ => ⟨⟨_, (σ, ν, ρ, lo), rfl, ⟨rfl, h⟩, WP.at9 ht hW⟩, hS.F ht⟩) hS.2.2 dL_begins_111 (hlocks := hlocks)
set_option maxHeartbeats 4000000 in
set_option maxRecDepth 100000 in
theorem tL_begins_4 {p : Program} {l : Launch} {e : Env} {s : State} {m : MethodId} {args : Array Value} {below : List Frame} {meth : Method} {c : Code} {z : Nat} {G : Gl} {ad : Nat → Nat → Nat} {σ : SG} {ν : NU} {ρ : RH} {lo : Int64} (X : Cx p l e s m args below meth c cL_begins (some .int) 7 RL wsL_begins z G) (p4 : Int32)  (post : Int32 → Prop) : ∀ (n kc ks : Nat), kc + (n * 0 + 0) ≤ 0 → ks + (n * 0 + 0) ≤ 0 → ∀ (x5 : Int32) {H : Heap} {locs : List Loc} {ls : Array Slot}, WP z G ad (σ, ν, ρ, lo) H → va_S (Az z) s.heap H locs → lv_has ls 7 [(0, .ref (ad 100 0)), (1, .ref (ad 101 0)), (2, .ref (ad 102 0)), (3, .ref (ad 103 0)), (4, .int p4), (5, .int x5)] → wL_begins_4 p4 post n σ ν ρ x5 → W p l e ({ frames := 0, cells := 0, slots := 0, locals := 0 } : Room) s m args below meth c H locs kc ks (MQ below (Qis z G ad (fun r S1 => S1 = (σ, ν, ρ, lo) ∧ post r)) args s 0 0 (Az z)) (F0 m 4 ls []) := by
  obtain ⟨hx, hb, hr, hml, hown, hts, hlocks, hE, hz⟩ := id X
  intro n
  induction n with
  | zero =>
    intro kc ks hB1 hB2 x5 H locs ls hW hS hl h
    exact absurd h id
  | succ n ih =>
    intro kc ks hB1 hB2 x5 H locs ls hW hS hl h
    unfold wL_begins_4 at h
    refine lv_aload_n hx hb dL_begins_4 rfl (lv_at hl 1 rfl) ?_
    refine lv_iload hx hb dL_begins_5 (lv_at hl 5 rfl) ?_
    obtain ⟨b1, h⟩ := h
    refine r_iald hx hb hE hW 101 0 ⟨rfl, by decide, by decide⟩ (n := 40) (f := ρ 1) rfl b1 (v := ρ 1 x5.toNatClampNeg) rfl dL_begins_7 ?_
    refine lv_iconst (v := (4 : Int32)) hx hb dL_begins_8 (by decide) ?_
    refine lv_irem hx hb dL_begins_9 (by decide) ?_
    refine lv_iconst (v := (2 : Int32)) hx hb dL_begins_10 (by decide) ?_
    refine r_icmp_ne hx hb rfl (show (2 : Int32).toInt = 2 by decide) (tgt := 25) dL_begins_11 (by decide) (fun c2 => ?_) (fun c2 => ?_)
    · have h := ite_f c2 h
      refine lv_aload_n hx hb dL_begins_25 rfl (lv_at hl 3 rfl) ?_
      refine lv_iload hx hb dL_begins_26 (lv_at hl 5 rfl) ?_
      obtain ⟨b3, h⟩ := h
      refine r_iald hx hb hE hW 103 0 ⟨rfl, by decide, by decide⟩ (n := 40) (f := ρ 3) rfl b3 (v := ρ 3 x5.toNatClampNeg) rfl dL_begins_28 ?_
      refine r_if_le hx hb rfl (tgt := 50) dL_begins_29 (by decide) (fun c4 => ?_) (fun c4 => ?_)
      · have h := ite_t c4 h
        refine lv_iconst (v := (0 : Int32)) hx hb dL_begins_50 (by decide) ?_
        exact tL_begins_51 (σ := σ) (ρ := ρ) X p4 post  _ _ (by omega) (by omega) x5 ((0 : Int32)) hW hS (lv_sub hl [0, 1, 2, 3, 4, 5] rfl) h
      · have h := ite_f c4 h
        refine lv_aload_n hx hb dL_begins_32 rfl (lv_at hl 3 rfl) ?_
        refine lv_iload hx hb dL_begins_33 (lv_at hl 5 rfl) ?_
        obtain ⟨b13, h⟩ := h
        refine r_iald hx hb hE hW 103 0 ⟨rfl, by decide, by decide⟩ (n := 40) (f := ρ 3) rfl b13 (v := ρ 3 x5.toNatClampNeg) rfl dL_begins_35 ?_
        refine lv_bipush (v := (13 : Int32)) hx hb dL_begins_36 (by decide) ?_
        refine lv_ishr hx hb dL_begins_38 ?_
        refine lv_aload_n hx hb dL_begins_39 rfl (lv_at hl 0 rfl) ?_
        refine lv_bipush (v := (6 : Int32)) hx hb dL_begins_40 (by decide) ?_
        obtain ⟨b14, h⟩ := h
        refine r_iald hx hb hE hW 100 0 ⟨rfl, by decide, by decide⟩ (n := 14) (f := ρ 0) rfl b14 (v := ρ 0 ((6 : Int32)).toNatClampNeg) rfl dL_begins_42 ?_
        refine r_icmp_gt hx hb rfl rfl (tgt := 50) dL_begins_43 (by decide) (fun c15 => ?_) (fun c15 => ?_)
        · have h := ite_f c15 h
          refine lv_iconst (v := (0 : Int32)) hx hb dL_begins_50 (by decide) ?_
          exact tL_begins_51 (σ := σ) (ρ := ρ) X p4 post  _ _ (by omega) (by omega) x5 ((0 : Int32)) hW hS (lv_sub hl [0, 1, 2, 3, 4, 5] rfl) h
        · have h := ite_t c15 h
          refine lv_iconst (v := (1 : Int32)) hx hb dL_begins_46 (by decide) ?_
          refine lv_goto (tgt := 51) hx hb dL_begins_47 (by decide) ?_
          exact tL_begins_51 (σ := σ) (ρ := ρ) X p4 post  _ _ (by omega) (by omega) x5 ((1 : Int32)) hW hS (lv_sub hl [0, 1, 2, 3, 4, 5] rfl) h
    · have h := ite_t c2 h
      refine lv_aload_n hx hb dL_begins_14 rfl (lv_at hl 1 rfl) ?_
      refine lv_iload hx hb dL_begins_15 (lv_at hl 5 rfl) ?_
      obtain ⟨b16, h⟩ := h
      refine r_iald hx hb hE hW 101 0 ⟨rfl, by decide, by decide⟩ (n := 40) (f := ρ 1) rfl b16 (v := ρ 1 x5.toNatClampNeg) rfl dL_begins_17 ?_
      refine lv_iconst (v := (4 : Int32)) hx hb dL_begins_18 (by decide) ?_
      refine lv_idiv hx hb dL_begins_19 (by decide) ?_
      refine lv_istore (lv' := [(5, .int ((ρ 1 x5.toNatClampNeg) / ((4 : Int32)))), (0, .ref (ad 100 0)), (1, .ref (ad 101 0)), (2, .ref (ad 102 0)), (3, .ref (ad 103 0)), (4, .int p4)]) hx hb dL_begins_20 hl (by decide) rfl (fun ls hl => ?_)
      refine lv_goto (tgt := 4) hx hb dL_begins_22 (by decide) ?_
      exact ih _ _ (by omega) (by omega) ((ρ 1 x5.toNatClampNeg) / ((4 : Int32))) hW hS (lv_sub hl [1, 2, 3, 4, 5, 0] rfl) h
set_option maxHeartbeats 4000000 in
set_option maxRecDepth 100000 in
theorem mtL_begins (l : Launch) (hlt : l.stackTraces = false) (z : Nat) (G : Gl) (ad : Nat → Nat → Nat) (σ : SG) (ν : NU) (ρ : RH) (lo : Int64) (p4 : Int32) (post : Int32 → Prop) (h : wpL_begins σ ν ρ p4 post) : Met l yL_begins wsL_begins ({ frames := 0, cells := 0, slots := 0, locals := 0 } : Room) (Pcs z G ad (σ, ν, ρ, lo) [.ref (ad 100 0), .ref (ad 101 0), .ref (ad 102 0), .ref (ad 103 0), .int p4]) (Qis z G ad (fun r S1 => S1 = (σ, ν, ρ, lo) ∧ post r)) 0 0 (Az z) := by
  refine Met.ofW (cc := cL_begins) (maxL := 7) (ret := (some .int)) (by decide) rfl ?_
  intro p e s m args below meth c s₁ B hml hv
  obtain ⟨rfl, hz, hW, hE⟩ := hv
  have hx := B.exec
  have hb := B.bytes
  have hr := B.returns
  have hts := atoms_spec (ws := wsL_begins) B.pre
  have hown : s.vm.findClass RL = some m.cls := findClass_of_methodNamed B.named
  have hlocks := B.notSynchronized
  have X : Cx p l e s m _ below meth c cL_begins (some .int) 7 RL wsL_begins z G := ⟨hx, hb, hr, hml, hown, hts, hlocks, hE, hz⟩
  have hS : va_S (Az z) s.heap s.heap [] := va_S.rf
  have hl := lv_entry [.ref (ad 100 0), .ref (ad 101 0), .ref (ad 102 0), .ref (ad 103 0), .int p4] (n := 7) (Nat.le_of_ble_eq_true rfl)
  rw [lg_entry_eq]
  generalize (lg_sl [.ref (ad 100 0), .ref (ad 101 0), .ref (ad 102 0), .ref (ad 103 0), .int p4] ++ List.replicate (7 - (lg_sl [.ref (ad 100 0), .ref (ad 101 0), .ref (ad 102 0), .ref (ad 103 0), .int p4]).length) Slot.unset).toArray = ls at hl ⊢
  have hl : lv_has ls 7 [(0, .ref (ad 100 0)), (1, .ref (ad 101 0)), (2, .ref (ad 102 0)), (3, .ref (ad 103 0)), (4, .int p4)] := hl
  unfold wpL_begins at h
  refine lv_iload hx hb dL_begins_0 (lv_at hl 4 rfl) ?_
  refine lv_istore (lv' := [(5, .int p4), (0, .ref (ad 100 0)), (1, .ref (ad 101 0)), (2, .ref (ad 102 0)), (3, .ref (ad 103 0)), (4, .int p4)]) hx hb dL_begins_2 hl (by decide) rfl (fun ls hl => ?_)
  obtain ⟨n17, h⟩ := h
  exact tL_begins_4 (σ := σ) (ρ := ρ) X p4 post  n17 _ _ (by omega) (by omega) p4 hW hS (lv_sub hl [1, 2, 3, 4, 5, 0] rfl) h
set_option maxHeartbeats 4000000 in
set_option maxRecDepth 100000 in
theorem tL_all_61 {p : Program} {l : Launch} {e : Env} {s : State} {m : MethodId} {args : Array Value} {below : List Frame} {meth : Method} {c : Code} {z : Nat} {G : Gl} {ad : Nat → Nat → Nat} {σ : SG} {ν : NU} {ρ : RH} {lo : Int64} (X : Cx p l e s m args below meth c cL_all (some .long) 5 RL wsL_all z G)   (post : Int64 → Prop) : ∀ (n kc ks : Nat), kc + (n * 0 + 0) ≤ 0 → ks + (n * 0 + 0) ≤ 0 → ∀ (x2 : Int64) (x4 : Int32) {H : Heap} {locs : List Loc} {ls : Array Slot}, WP z G ad (σ, ν, ρ, lo) H → va_S (Az z) s.heap H locs → lv_has ls 5 [(0, .ref (ad 0 0)), (1, .ref (ad 100 0)), (2, .long x2), (4, .int x4)] → wL_all_61  post n σ ν ρ x2 x4 → W p l e ({ frames := 5, cells := 0, slots := 0, locals := 110 } : Room) s m args below meth c H locs kc ks (MQ below (Qls z G ad (fun r S1 => S1 = (σ, ν, ρ, lo) ∧ post r)) args s 0 0 (Az z)) (F0 m 61 ls []) := by
  obtain ⟨hx, hb, hr, hml, hown, hts, hlocks, hE, hz⟩ := id X
  intro n
  induction n with
  | zero =>
    intro kc ks hB1 hB2 x2 x4 H locs ls hW hS hl h
    exact absurd h id
  | succ n ih =>
    intro kc ks hB1 hB2 x2 x4 H locs ls hW hS hl h
    unfold wL_all_61 at h
    refine lv_iload hx hb dL_all_61 (lv_at hl 3 rfl) ?_
    refine lv_aload_n hx hb dL_all_63 rfl (lv_at hl 1 rfl) ?_
    refine lv_iconst (v := (3 : Int32)) hx hb dL_all_64 (by decide) ?_
    obtain ⟨b5, h⟩ := h
    refine r_iald hx hb hE hW 100 0 ⟨rfl, by decide, by decide⟩ (n := 14) (f := ρ 0) rfl b5 (v := ρ 0 ((3 : Int32)).toNatClampNeg) rfl dL_all_65 ?_
    refine r_icmp_ge hx hb rfl rfl (tgt := 113) dL_all_66 (by decide) (fun c6 => ?_) (fun c6 => ?_)
    · have h := ite_f c6 h
      refine lv_lload_n hx hb dL_all_113 rfl (lv_at hl 2 rfl) ?_
      refine W.widen (k := 0) (n := 0) (by omega) (by omega) ?_
      exact W.lret (v := x2) hx hb hr (fun t ht _ => ⟨⟨_, (σ, ν, ρ, lo), rfl, ⟨rfl, h⟩, WP.at9 ht hW⟩, hS.F ht⟩) hS.2.2 dL_all_114 (hlocks := hlocks)
    · have h := ite_t c6 h
      refine lv_ldc2 (v := (31 : Int64)) hx hb hown (hts _ (List.mem_of_getElem? (i := 1) rfl)) dL_all_69 ?_
      refine lv_lload_n hx hb dL_all_72 rfl (lv_at hl 2 rfl) ?_
      refine lv_lmul hx hb dL_all_73 ?_
      refine lv_aload_n hx hb dL_all_74 rfl (lv_at hl 0 rfl) ?_
      refine lv_iload hx hb dL_all_75 (lv_at hl 3 rfl) ?_
      refine k_Vi (rest := [.long (((31 : Int64)) * x2)]) (As := [.int x4]) ⟨hx, hb, hml, hown, hts⟩ hE hz hS hW (nmtX6_label l z G ad σ ν ρ lo x4 _ h) (cwV 1 hts gL_all_X6_label rfl rfl rfl (by decide +kernel) ⟨Nat.le_of_ble_eq_true rfl, Nat.le_of_ble_eq_true rfl⟩) (r_recv hE hW 0 0 rfl (ci := 9) rfl rfl) rfl hl.1 rfl (Nat.le_of_ble_eq_true rfl) dL_all_77 ⟨by show _ ≤ 0; omega, by show _ ≤ 0; omega⟩ (fun r7 S1 H locs hp hW hS => ?_)
      obtain ⟨rfl, h⟩ := hp
      refine lv_i2l (v := r7.toInt64) hx hb dL_all_80 rfl ?_
      refine lv_ladd hx hb dL_all_81 ?_
      refine lv_ldc2 (v := (7 : Int64)) hx hb hown (hts _ (List.mem_of_getElem? (i := 2) rfl)) dL_all_82 ?_
      refine lv_aload_n hx hb dL_all_85 rfl (lv_at hl 0 rfl) ?_
      refine lv_iload hx hb dL_all_86 (lv_at hl 3 rfl) ?_
      refine k_Vi (rest := [.long ((7 : Int64)), .long ((((31 : Int64)) * x2) + (r7.toInt64))]) (As := [.int x4]) ⟨hx, hb, hml, hown, hts⟩ hE hz hS hW (nmtX6_parent l z G ad σ ν ρ lo x4 _ h) (cwV 1 hts gL_all_X6_parent rfl rfl rfl (by decide +kernel) ⟨Nat.le_of_ble_eq_true rfl, Nat.le_of_ble_eq_true rfl⟩) (r_recv hE hW 0 0 rfl (ci := 9) rfl rfl) rfl hl.1 rfl (Nat.le_of_ble_eq_true rfl) dL_all_88 ⟨by show _ ≤ 0; omega, by show _ ≤ 0; omega⟩ (fun r8 S1 H locs hp hW hS => ?_)
      obtain ⟨rfl, h⟩ := hp
      refine lv_i2l (v := r8.toInt64) hx hb dL_all_91 rfl ?_
      refine lv_lmul hx hb dL_all_92 ?_
      refine lv_ladd hx hb dL_all_93 ?_
      refine lv_ldc2 (v := (3 : Int64)) hx hb hown (hts _ (List.mem_of_getElem? (i := 3) rfl)) dL_all_94 ?_
      refine lv_aload_n hx hb dL_all_97 rfl (lv_at hl 0 rfl) ?_
      refine lv_iload hx hb dL_all_98 (lv_at hl 3 rfl) ?_
      refine k_Vi (rest := [.long ((3 : Int64)), .long (((((31 : Int64)) * x2) + (r7.toInt64)) + (((7 : Int64)) * (r8.toInt64)))]) (As := [.int x4]) ⟨hx, hb, hml, hown, hts⟩ hE hz hS hW (nmtX6_words l z G ad σ ν ρ lo x4 _ h) (cwV 1 hts gL_all_X6_words rfl rfl rfl (by decide +kernel) ⟨Nat.le_of_ble_eq_true rfl, Nat.le_of_ble_eq_true rfl⟩) (r_recv hE hW 0 0 rfl (ci := 9) rfl rfl) rfl hl.1 rfl (Nat.le_of_ble_eq_true rfl) dL_all_100 ⟨by show _ ≤ 0; omega, by show _ ≤ 0; omega⟩ (fun r9 S1 H locs hp hW hS => ?_)
      obtain ⟨rfl, h⟩ := hp
      refine lv_i2l (v := r9.toInt64) hx hb dL_all_103 rfl ?_
      refine lv_lmul hx hb dL_all_104 ?_
      refine lv_ladd hx hb dL_all_105 ?_
      refine lv_lstore_n (lv' := [(2, .long ((((((31 : Int64)) * x2) + (r7.toInt64)) + (((7 : Int64)) * (r8.toInt64))) + (((3 : Int64)) * (r9.toInt64)))), (0, .ref (ad 0 0)), (1, .ref (ad 100 0)), (4, .int x4)]) hx hb dL_all_106 rfl hl (by decide) rfl (fun ls hl => ?_)
      refine lv_iinc (v := x4 + (1 : Int32)) (lv' := [(4, .int (x4 + (1 : Int32))), (2, .long ((((((31 : Int64)) * x2) + (r7.toInt64)) + (((7 : Int64)) * (r8.toInt64))) + (((3 : Int64)) * (r9.toInt64)))), (0, .ref (ad 0 0)), (1, .ref (ad 100 0))]) hx hb dL_all_107 hl (k := 3) rfl rfl (by decide) rfl (fun ls hl => ?_)
      refine lv_goto (tgt := 61) hx hb dL_all_110 (by decide) ?_
      exact ih _ _ (by omega) (by omega) ((((((31 : Int64)) * x2) + (r7.toInt64)) + (((7 : Int64)) * (r8.toInt64))) + (((3 : Int64)) * (r9.toInt64))) (x4 + (1 : Int32)) hW hS (lv_sub hl [2, 3, 1, 0] rfl) h
set_option maxHeartbeats 4000000 in
set_option maxRecDepth 100000 in
theorem tL_all_18 {p : Program} {l : Launch} {e : Env} {s : State} {m : MethodId} {args : Array Value} {below : List Frame} {meth : Method} {c : Code} {z : Nat} {G : Gl} {ad : Nat → Nat → Nat} {σ : SG} {ν : NU} {ρ : RH} {lo : Int64} (X : Cx p l e s m args below meth c cL_all (some .long) 5 RL wsL_all z G)   (post : Int64 → Prop) : ∀ (n kc ks : Nat), kc + (n * 0 + 0) ≤ 0 → ks + (n * 0 + 0) ≤ 0 → ∀ (x2 : Int64) (x4 : Int32) {H : Heap} {locs : List Loc} {ls : Array Slot}, WP z G ad (σ, ν, ρ, lo) H → va_S (Az z) s.heap H locs → lv_has ls 5 [(0, .ref (ad 0 0)), (1, .ref (ad 100 0)), (2, .long x2), (4, .int x4)] → wL_all_18  post n σ ν ρ x2 x4 → W p l e ({ frames := 5, cells := 0, slots := 0, locals := 110 } : Room) s m args below meth c H locs kc ks (MQ below (Qls z G ad (fun r S1 => S1 = (σ, ν, ρ, lo) ∧ post r)) args s 0 0 (Az z)) (F0 m 18 ls []) := by
  obtain ⟨hx, hb, hr, hml, hown, hts, hlocks, hE, hz⟩ := id X
  intro n
  induction n with
  | zero =>
    intro kc ks hB1 hB2 x2 x4 H locs ls hW hS hl h
    exact absurd h id
  | succ n ih =>
    intro kc ks hB1 hB2 x2 x4 H locs ls hW hS hl h
    unfold wL_all_18 at h
    refine lv_iload hx hb dL_all_18 (lv_at hl 3 rfl) ?_
    refine lv_aload_n hx hb dL_all_20 rfl (lv_at hl 1 rfl) ?_
    refine lv_iconst (v := (2 : Int32)) hx hb dL_all_21 (by decide) ?_
    obtain ⟨b3, h⟩ := h
    refine r_iald hx hb hE hW 100 0 ⟨rfl, by decide, by decide⟩ (n := 14) (f := ρ 0) rfl b3 (v := ρ 0 ((2 : Int32)).toNatClampNeg) rfl dL_all_22 ?_
    refine r_icmp_ge hx hb rfl rfl (tgt := 58) dL_all_23 (by decide) (fun c4 => ?_) (fun c4 => ?_)
    · have h := ite_f c4 h
      refine lv_iconst (v := (0 : Int32)) hx hb dL_all_58 (by decide) ?_
      refine lv_istore (lv' := [(4, .int ((0 : Int32))), (0, .ref (ad 0 0)), (1, .ref (ad 100 0)), (2, .long x2)]) hx hb dL_all_59 hl (by decide) rfl (fun ls hl => ?_)
      obtain ⟨n10, h⟩ := h
      exact tL_all_61 (σ := σ) (ρ := ρ) X  post  n10 _ _ (by omega) (by omega) x2 ((0 : Int32)) hW hS (lv_sub hl [1, 2, 3, 0] rfl) h
    · have h := ite_t c4 h
      refine lv_ldc2 (v := (31 : Int64)) hx hb hown (hts _ (List.mem_of_getElem? (i := 1) rfl)) dL_all_26 ?_
      refine lv_lload_n hx hb dL_all_29 rfl (lv_at hl 2 rfl) ?_
      refine lv_lmul hx hb dL_all_30 ?_
      refine lv_aload_n hx hb dL_all_31 rfl (lv_at hl 0 rfl) ?_
      refine lv_iload hx hb dL_all_32 (lv_at hl 3 rfl) ?_
      refine k_Vi (rest := [.long (((31 : Int64)) * x2)]) (As := [.int x4]) ⟨hx, hb, hml, hown, hts⟩ hE hz hS hW (nmtX6_state l z G ad σ ν ρ lo x4 _ h) (cwV 1 hts gL_all_X6_state rfl rfl rfl (by decide +kernel) ⟨Nat.le_of_ble_eq_true rfl, Nat.le_of_ble_eq_true rfl⟩) (r_recv hE hW 0 0 rfl (ci := 9) rfl rfl) rfl hl.1 rfl (Nat.le_of_ble_eq_true rfl) dL_all_34 ⟨by show _ ≤ 0; omega, by show _ ≤ 0; omega⟩ (fun r11 S1 H locs hp hW hS => ?_)
      obtain ⟨rfl, h⟩ := hp
      refine lv_i2l (v := r11.toInt64) hx hb dL_all_37 rfl ?_
      refine lv_ladd hx hb dL_all_38 ?_
      refine lv_ldc2 (v := (7 : Int64)) hx hb hown (hts _ (List.mem_of_getElem? (i := 2) rfl)) dL_all_39 ?_
      refine lv_aload_n hx hb dL_all_42 rfl (lv_at hl 0 rfl) ?_
      refine lv_iload hx hb dL_all_43 (lv_at hl 3 rfl) ?_
      refine k_Vi (rest := [.long ((7 : Int64)), .long ((((31 : Int64)) * x2) + (r11.toInt64))]) (As := [.int x4]) ⟨hx, hb, hml, hown, hts⟩ hE hz hS hW (nmtX6_commences l z G ad σ ν ρ lo x4 _ h) (cwV 1 hts gL_all_X6_commences rfl rfl rfl (by decide +kernel) ⟨Nat.le_of_ble_eq_true rfl, Nat.le_of_ble_eq_true rfl⟩) (r_recv hE hW 0 0 rfl (ci := 9) rfl rfl) rfl hl.1 rfl (Nat.le_of_ble_eq_true rfl) dL_all_45 ⟨by show _ ≤ 0; omega, by show _ ≤ 0; omega⟩ (fun r12 S1 H locs hp hW hS => ?_)
      obtain ⟨rfl, h⟩ := hp
      refine lv_i2l (v := r12.toInt64) hx hb dL_all_48 rfl ?_
      refine lv_lmul hx hb dL_all_49 ?_
      refine lv_ladd hx hb dL_all_50 ?_
      refine lv_lstore_n (lv' := [(2, .long (((((31 : Int64)) * x2) + (r11.toInt64)) + (((7 : Int64)) * (r12.toInt64)))), (0, .ref (ad 0 0)), (1, .ref (ad 100 0)), (4, .int x4)]) hx hb dL_all_51 rfl hl (by decide) rfl (fun ls hl => ?_)
      refine lv_iinc (v := x4 + (1 : Int32)) (lv' := [(4, .int (x4 + (1 : Int32))), (2, .long (((((31 : Int64)) * x2) + (r11.toInt64)) + (((7 : Int64)) * (r12.toInt64)))), (0, .ref (ad 0 0)), (1, .ref (ad 100 0))]) hx hb dL_all_52 hl (k := 3) rfl rfl (by decide) rfl (fun ls hl => ?_)
      refine lv_goto (tgt := 18) hx hb dL_all_55 (by decide) ?_
      exact ih _ _ (by omega) (by omega) (((((31 : Int64)) * x2) + (r11.toInt64)) + (((7 : Int64)) * (r12.toInt64))) (x4 + (1 : Int32)) hW hS (lv_sub hl [2, 3, 1, 0] rfl) h
set_option maxHeartbeats 4000000 in
set_option maxRecDepth 100000 in
theorem mtL_all (l : Launch) (hlt : l.stackTraces = false) (z : Nat) (G : Gl) (ad : Nat → Nat → Nat) (σ : SG) (ν : NU) (ρ : RH) (lo : Int64)  (post : Int64 → Prop) (h : wpL_all σ ν ρ  post) : Met l yL_all wsL_all ({ frames := 5, cells := 0, slots := 0, locals := 110 } : Room) (Pcs z G ad (σ, ν, ρ, lo) [.ref (ad 0 0), .ref (ad 100 0)]) (Qls z G ad (fun r S1 => S1 = (σ, ν, ρ, lo) ∧ post r)) 0 0 (Az z) := by
  refine Met.ofW (cc := cL_all) (maxL := 5) (ret := (some .long)) (by decide) rfl ?_
  intro p e s m args below meth c s₁ B hml hv
  obtain ⟨rfl, hz, hW, hE⟩ := hv
  have hx := B.exec
  have hb := B.bytes
  have hr := B.returns
  have hts := atoms_spec (ws := wsL_all) B.pre
  have hown : s.vm.findClass RL = some m.cls := findClass_of_methodNamed B.named
  have hlocks := B.notSynchronized
  have X : Cx p l e s m _ below meth c cL_all (some .long) 5 RL wsL_all z G := ⟨hx, hb, hr, hml, hown, hts, hlocks, hE, hz⟩
  have hS : va_S (Az z) s.heap s.heap [] := va_S.rf
  have hl := lv_entry [.ref (ad 0 0), .ref (ad 100 0)] (n := 5) (Nat.le_of_ble_eq_true rfl)
  rw [lg_entry_eq]
  generalize (lg_sl [.ref (ad 0 0), .ref (ad 100 0)] ++ List.replicate (5 - (lg_sl [.ref (ad 0 0), .ref (ad 100 0)]).length) Slot.unset).toArray = ls at hl ⊢
  have hl : lv_has ls 5 [(0, .ref (ad 0 0)), (1, .ref (ad 100 0))] := hl
  unfold wpL_all at h
  refine lv_aload_n hx hb dL_all_0 rfl (lv_at hl 0 rfl) ?_
  refine k_Vl (rest := []) (As := []) ⟨hx, hb, hml, hown, hts⟩ hE hz hS hW (mtX6_print l z G ad σ ν ρ lo  _ h) (cwV 0 hts gL_all_X6_print rfl rfl rfl (by decide +kernel) ⟨Nat.le_of_ble_eq_true rfl, Nat.le_of_ble_eq_true rfl⟩) (r_recv hE hW 0 0 rfl (ci := 9) rfl rfl) rfl hl.1 rfl (Nat.le_of_ble_eq_true rfl) dL_all_1 ⟨by show _ ≤ 0; omega, by show _ ≤ 0; omega⟩ (fun r1 S1 H locs hp hW hS => ?_)
  obtain ⟨rfl, h⟩ := hp
  refine lv_ldc2 (v := (31 : Int64)) hx hb hown (hts _ (List.mem_of_getElem? (i := 1) rfl)) dL_all_4 ?_
  refine lv_aload_n hx hb dL_all_7 rfl (lv_at hl 0 rfl) ?_
  refine k_Vi (rest := [.long ((31 : Int64)), .long r1]) (As := []) ⟨hx, hb, hml, hown, hts⟩ hE hz hS hW (mtX6_conflicts l z G ad σ ν ρ lo  _ h) (cwV 0 hts gL_all_X6_conflicts rfl rfl rfl (by decide +kernel) ⟨Nat.le_of_ble_eq_true rfl, Nat.le_of_ble_eq_true rfl⟩) (r_recv hE hW 0 0 rfl (ci := 9) rfl rfl) rfl hl.1 rfl (Nat.le_of_ble_eq_true rfl) dL_all_8 ⟨by show _ ≤ 0; omega, by show _ ≤ 0; omega⟩ (fun r2 S1 H locs hp hW hS => ?_)
  obtain ⟨rfl, h⟩ := hp
  refine lv_i2l (v := r2.toInt64) hx hb dL_all_11 rfl ?_
  refine lv_lmul hx hb dL_all_12 ?_
  refine lv_ladd hx hb dL_all_13 ?_
  refine lv_lstore_n (lv' := [(2, .long (r1 + (((31 : Int64)) * (r2.toInt64)))), (0, .ref (ad 0 0)), (1, .ref (ad 100 0))]) hx hb dL_all_14 rfl hl (by decide) rfl (fun ls hl => ?_)
  refine lv_iconst (v := (0 : Int32)) hx hb dL_all_15 (by decide) ?_
  refine lv_istore (lv' := [(4, .int ((0 : Int32))), (2, .long (r1 + (((31 : Int64)) * (r2.toInt64)))), (0, .ref (ad 0 0)), (1, .ref (ad 100 0))]) hx hb dL_all_16 hl (by decide) rfl (fun ls hl => ?_)
  obtain ⟨n13, h⟩ := h
  exact tL_all_18 (σ := σ) (ρ := ρ) X  post  n13 _ _ (by omega) (by omega) (r1 + (((31 : Int64)) * (r2.toInt64))) ((0 : Int32)) hW hS (lv_sub hl [2, 3, 1, 0] rfl) h
