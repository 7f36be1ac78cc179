/-! the words that an instruction puts in. Written by wip/gen/hand4.py -/
set_option maxHeartbeats 4000000 in
set_option maxRecDepth 100000 in
theorem mtX5_freshOf (l : Launch) (z : Nat) (G : Gl) (ad : Nat → Nat → Nat) (σ : SG) (ν : NU) (ρ : RH) (lo : Int64) (v i : Nat) (post : Nat → Prop) (h : wpX5_freshOf σ ν v i post) : Met l yX5_freshOf wsX5_freshOf ({ frames := 0, cells := 0, slots := 0, locals := 0 } : Room) (Pcs z G ad (σ, ν, ρ, lo) [.ref (ad 1 v), .ref (ad 3 i)]) (Qrs z G ad 4 (fun r S1 => S1 = (σ, ν, ρ, lo) ∧ post r)) 0 0 (Az z) := by
  refine Met.ofW (cc := cX5_freshOf) (maxL := 4) (ret := (some (.object "Amendmark$Phrase"))) (by decide) rfl ?_
  intro p e s m args below meth c s₁ B hml hv
  obtain ⟨rfl, hz, hW, hE⟩ := hv
  have hx := B.exec
  have hb := B.bytes
  have hr := B.returns
  have hts := atoms_spec (ws := wsX5_freshOf) B.pre
  have hown : s.vm.findClass RX5 = some m.cls := findClass_of_methodNamed B.named
  have hlocks := B.notSynchronized
  have hS : va_S (Az z) s.heap s.heap [] := va_S.rf
  have hl := lv_entry [.ref (ad 1 v), .ref (ad 3 i)] (n := 4) (Nat.le_of_ble_eq_true rfl)
  rw [lg_entry_eq]
  generalize (lg_sl [.ref (ad 1 v), .ref (ad 3 i)] ++ List.replicate (4 - (lg_sl [.ref (ad 1 v), .ref (ad 3 i)]).length) Slot.unset).toArray = ls at hl ⊢
  have hl : lv_has ls 4 [(0, .ref (ad 1 v)), (1, .ref (ad 3 i))] := hl
  obtain ⟨g1, g2, k, hk, hs, h⟩ := h
  refine lv_aload_n hx hb dX5_freshOf_0 rfl (lv_at hl 1 rfl) ?_
  refine r_get (C := RX0) (T := TX0) (N := 13) (ci := 3) (fs := fl_3 ad ν ρ i (σ 3 i)) hx hb hts hown hE hW 3 i g2 rfl rfl (fun w h => List.mem_cons_of_mem _ (List.mem_append_left _ (List.mem_append_right _ h))) 0 (by decide) (List.mem_of_getElem? (i := 1) rfl) rfl (v := .int (nI k)) (by simp [fl_3, hs]) dX5_freshOf_1 ?_
  refine lv_istore_n (lv' := [(2, .int (nI k)), (0, .ref (ad 1 v)), (1, .ref (ad 3 i))]) hx hb dX5_freshOf_4 rfl hl (by decide) rfl (fun ls hl => ?_)
  refine lv_iload_n hx hb dX5_freshOf_5 rfl (lv_at hl 0 rfl) ?_
  refine r_if_lt (tgt := 27) hx hb (nI_toInt (by omega)) dX5_freshOf_6 (by decide) (fun q => absurd q (by omega)) (fun _ => ?_)
  refine lv_iload_n hx hb dX5_freshOf_9 rfl (lv_at hl 0 rfl) ?_
  refine lv_aload_n hx hb dX5_freshOf_10 rfl (lv_at hl 1 rfl) ?_
  refine r_get (C := RX5) (T := TX5) (N := 13) (ci := 8) (fs := fl_1 ad ν ρ v (σ 1 v)) hx hb hts hown hE hW 1 v g1 rfl rfl (fun w h => List.mem_cons_of_mem _ (List.mem_append_right _ h)) 3 (by decide) (List.mem_of_getElem? (i := 2) rfl) rfl (v := .ref (ad 13 v)) (rfl) dX5_freshOf_11 ?_
  refine r_alen hx hb hE hW 13 v g1 (a := (40, .inr (.inr (.inr (.inr (fun i => opn (ad 4) (ν 13 v i))))))) rfl 2 rfl (v := nI 40) rfl dX5_freshOf_14 ?_
  refine r_icmp_ge (tgt := 27) hx hb (nI_toInt (by omega)) (nI_toInt (by decide)) dX5_freshOf_15 (by decide) (fun q => absurd (show ((k : Nat) : Int) < ((40 : Nat) : Int) by omega) q) (fun _ => ?_)
  refine lv_aload_n hx hb dX5_freshOf_18 rfl (lv_at hl 1 rfl) ?_
  refine r_get (C := RX5) (T := TX5) (N := 13) (ci := 8) (fs := fl_1 ad ν ρ v (σ 1 v)) hx hb hts hown hE hW 1 v g1 rfl rfl (fun w h => List.mem_cons_of_mem _ (List.mem_append_right _ h)) 3 (by decide) (List.mem_of_getElem? (i := 2) rfl) rfl (v := .ref (ad 13 v)) (rfl) dX5_freshOf_19 ?_
  refine lv_iload_n hx hb dX5_freshOf_22 rfl (lv_at hl 0 rfl) ?_
  have hkk : (nI k).toNatClampNeg = k := nI_clamp (by omega)
  by_cases hn : ν 13 v k = 0
  · rw [if_pos hn] at h
    refine r_aldq hx hb hE hW 13 v g1 (n := 40) (f := fun i => opn (ad 4) (ν 13 v i)) rfl 2 rfl (vp_in_nI hk (by decide)) (v := .null) (by rw [hkk]; show va_rf (opn (ad 4) (ν 13 v k)) = _; rw [hn]; rfl) dX5_freshOf_23 ?_
    refine lv_goto (tgt := 28) hx hb dX5_freshOf_24 (by decide) ?_
    refine lv_astore_nN (lv' := [(3, .null), (2, .int (nI k)), (0, .ref (ad 1 v)), (1, .ref (ad 3 i))]) hx hb dX5_freshOf_28 rfl hl (by decide) rfl (fun ls hl => ?_)
    refine lv_aload_nN hx hb dX5_freshOf_29 rfl (lv_at hl 0 rfl) ?_
    refine lv_ifnullN (tgt := 37) hx hb dX5_freshOf_30 (by decide) ?_
    refine lv_aload_n hx hb dX5_freshOf_37 rfl (lv_at hl 3 rfl) ?_
    refine r_get (C := RX0) (T := TX0) (N := 13) (ci := 3) (fs := fl_3 ad ν ρ i (σ 3 i)) hx hb hts hown hE hW 3 i g2 rfl rfl (fun w h => List.mem_cons_of_mem _ (List.mem_append_left _ (List.mem_append_right _ h))) 9 (by decide) (List.mem_of_getElem? (i := 3) rfl) rfl (v := .ref (ad 4 (2 * i + 1))) (rfl) dX5_freshOf_38 ?_
    exact W.aret hx hb hr (Or.inl ⟨_, rfl⟩) (Or.inr ⟨_, rfl⟩) (fun t ht _ => ⟨⟨((σ, ν, ρ, lo), 2 * i + 1), _, rfl, ⟨rfl, h⟩, rfl, WP.at9 ht hW⟩, hS.F ht⟩) hS.2.2 dX5_freshOf_41 (hlocks := hlocks)
  · rw [if_neg hn] at h
    refine r_aldq hx hb hE hW 13 v g1 (n := 40) (f := fun i => opn (ad 4) (ν 13 v i)) rfl 2 rfl (vp_in_nI hk (by decide)) (v := .ref (ad 4 (ν 13 v k - 1))) (by rw [hkk]; show va_rf (opn (ad 4) (ν 13 v k)) = _; rw [opn, if_neg hn]; rfl) dX5_freshOf_23 ?_
    refine lv_goto (tgt := 28) hx hb dX5_freshOf_24 (by decide) ?_
    refine lv_astore_n (lv' := [(3, .ref (ad 4 (ν 13 v k - 1))), (2, .int (nI k)), (0, .ref (ad 1 v)), (1, .ref (ad 3 i))]) hx hb dX5_freshOf_28 rfl hl (by decide) rfl (fun ls hl => ?_)
    refine lv_aload_n hx hb dX5_freshOf_29 rfl (lv_at hl 0 rfl) ?_
    refine lv_ifnull hx hb dX5_freshOf_30 ?_
    refine lv_aload_n hx hb dX5_freshOf_33 rfl (lv_at hl 0 rfl) ?_
    refine lv_goto (tgt := 41) hx hb dX5_freshOf_34 (by decide) ?_
    exact W.aret hx hb hr (Or.inl ⟨_, rfl⟩) (Or.inr ⟨_, rfl⟩) (fun t ht _ => ⟨⟨((σ, ν, ρ, lo), ν 13 v k - 1), _, rfl, ⟨rfl, h⟩, rfl, WP.at9 ht hW⟩, hS.F ht⟩) hS.2.2 dX5_freshOf_41 (hlocks := hlocks)

