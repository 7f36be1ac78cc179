/-! View.clear over new cells. Written by wip/gen/hand9.py -/
abbrev vw7 (G : Gl) (a : Nat) (b : Nat → Nat) (md : Int32) (f g : Nat → Int32) (h : Nat → Option Nat) (u w : Nat → Int32) (X : va_W) : va_W :=
  (a, .inr (8, [.ref (b 1), .ref (b 2), .ref (b 3), .ref (b 4), .ref (b 5), .ref (b 6), .ref (b 7), .ref (b 8), .ref (b 9), .int 0, .int 0, .int 0, .int 0])) :: (b 1, .inr (2, [.int md, .ref G.2.2.1, .int 0])) :: (b 2, .inl (G.2.1 0, 40, .inl f)) :: (b 3, .inl (G.2.1 0, 40, .inl g)) :: (b 4, .inl (G.2.1 2, 40, .inr (.inr (.inr (.inr h))))) :: (b 5, .inl (G.2.1 0, 20, .inl u)) :: (b 6, .inl (G.2.1 0, 20, .inl w)) :: X
def ok7 (f g : Nat → Int32) (h : Nat → Option Nat) (n : Nat) : Prop := ∀ j, j < n → f j = -1 ∧ g j = 0 ∧ h j = none
def ok2 (u w : Nat → Int32) (n : Nat) : Prop := ∀ j, j < n → u j = -1 ∧ w j = -1
theorem ok7.step {f g : Nat → Int32} {h : Nat → Option Nat} {n : Nat} (H : ok7 f g h n) : ok7 (upd f n (-1)) (upd g n 0) (va_up h n none) (n + 1) := by
  intro j hj
  by_cases e : j = n
  · simp [upd, va_up, e]
  · have := H j (by omega)
    simp only [upd, va_up, if_neg e]
    exact this
theorem ok2.step {u w : Nat → Int32} {n : Nat} (H : ok2 u w n) : ok2 (upd u n (-1)) (upd w n (-1)) (n + 1) := by
  intro j hj
  by_cases e : j = n
  · simp [upd, e]
  · have := H j (by omega)
    simp only [upd, if_neg e]
    exact this
set_option maxHeartbeats 4000000 in
set_option maxRecDepth 100000 in
theorem miX5_clear (l : Launch) (z : Nat) (G : Gl) (W0 : va_W) (a : Nat) (b : Nat → Nat) (md : Int32) (f g : Nat → Int32) (h : Nat → Option Nat) (u w : Nat → Int32) (X : va_W) : Met l yX5_clear wsX5_clear ({ frames := 1, cells := 0, slots := 0, locals := 23 } : Room) (Pci z G W0 (vw7 G a b md f g h u w X) [.ref a]) (Qci z G W0 (fun u9 => ∃ (f g : Nat → Int32) (h : Nat → Option Nat) (u w : Nat → Int32), ok7 f g h 40 ∧ ok2 u w 20 ∧ u9 = vw7 G a b (md + 1) f g h u w X)) 0 0 (Az z) := by
  refine Met.ofW (cc := cX5_clear) (maxL := 2) (ret := none) (by decide) rfl ?_
  intro p e s m args below meth c s₁ BB hml hv
  obtain ⟨rfl, hz, hW, hE⟩ := hv
  have hx := BB.exec
  have hb := BB.bytes
  have hr := BB.returns
  have hts := atoms_spec (ws := wsX5_clear) BB.pre
  have hown : s.vm.findClass RX5 = some m.cls := findClass_of_methodNamed BB.named
  have hlocks := BB.notSynchronized
  have hS : va_S (Az z) s.heap s.heap [] := va_S.rf
  have hl := lv_entry [.ref a] (n := 2) (Nat.le_of_ble_eq_true rfl)
  rw [lg_entry_eq]
  generalize (lg_sl [.ref a] ++ List.replicate (2 - (lg_sl [.ref a]).length) Slot.unset).toArray = ls at hl ⊢
  have hl : lv_has ls 2 [(0, .ref a)] := hl
  have L49 : ∀ (k n : Nat) (f g : Nat → Int32) (h : Nat → Option Nat) (u w : Nat → Int32) (H : Heap) (locs : List Loc) (ls : Array Slot), n + k = 20 → ok7 f g h 40 → ok2 u w n → CW z G W0 (vw7 G a b (md + 1) f g h u w X) H → va_S (Az z) s.heap H locs → lv_has ls 2 [(0, .ref a), (1, .int (nI n))] → W p l e ({ frames := 1, cells := 0, slots := 0, locals := 23 } : Room) s m #[Value.ref a] below meth c H locs 0 0 (MQ below (Qci z G W0 (fun u9 => ∃ (f g : Nat → Int32) (h : Nat → Option Nat) (u w : Nat → Int32), ok7 f g h 40 ∧ ok2 u w 20 ∧ u9 = vw7 G a b (md + 1) f g h u w X)) #[Value.ref a] s 0 0 (Az z)) (F0 m 49 ls []) := by
    intro k
    induction k with
    | zero =>
      intro n f g h u w H locs ls hn hf hu hW hS hl
      have e : n = 20 := by omega
      subst e
      refine lv_iload_n hx hb dX5_clear_49 rfl (lv_at hl 1 rfl) ?_
      refine lv_bipush (v := (20 : Int32)) hx hb dX5_clear_50 (by decide) ?_
      refine r_icmp_ge hx hb (nI_toInt (by omega)) (show (20 : Int32).toInt = 20 by decide) (tgt := 75) dX5_clear_52 (by decide) (fun c8 => ?_) (fun c8 => absurd c8 (by omega))
      exact W.vret hx hb hr (fun t ht _ => ⟨⟨_, rfl, ⟨f, g, h, u, w, hf, hu, rfl⟩, CW.at9 ht hW⟩, hS.F ht⟩) hS.2.2 dX5_clear_75 (hlocks := hlocks)
    | succ k ih =>
      intro n f g h u w H locs ls hn hf hu hW hS hl
      have hkk : (nI n).toNatClampNeg = n := nI_clamp (by omega)
      refine lv_iload_n hx hb dX5_clear_49 rfl (lv_at hl 1 rfl) ?_
      refine lv_bipush (v := (20 : Int32)) hx hb dX5_clear_50 (by decide) ?_
      refine r_icmp_ge hx hb (nI_toInt (by omega)) (show (20 : Int32).toInt = 20 by decide) (tgt := 75) dX5_clear_52 (by decide) (fun c8 => absurd c8 (by omega)) (fun c8 => ?_)
      refine lv_aload_n hx hb dX5_clear_55 rfl (lv_at hl 0 rfl) ?_
      refine c_get (C := RX5) (T := TX5) (N := 13) (ci := 8) hx hb hts hown hE hW 0 rfl rfl (fun w h => List.mem_cons_of_mem _ (List.mem_append_left _ (List.mem_append_right _ h))) 4 (by decide) (List.mem_of_getElem? (i := 6) rfl) (Or.inl rfl) (v := .ref (b 5)) rfl dX5_clear_56 ?_
      refine lv_iload_n hx hb dX5_clear_59 rfl (lv_at hl 1 rfl) ?_
      refine lv_iconst (v := (-1 : Int32)) hx hb dX5_clear_60 (by decide) ?_
      refine c_iast hx hb hE hW hS 5 rfl (vp_in_nI (by omega) (by decide)) dX5_clear_61 (fun H locs hW hS => ?_)
      have hW : CW z G W0 (vw7 G a b (md + 1) f g h (upd u n (-1)) w X) H := by rw [hkk] at hW; exact hW
      refine lv_aload_n hx hb dX5_clear_62 rfl (lv_at hl 0 rfl) ?_
      refine c_get (C := RX5) (T := TX5) (N := 13) (ci := 8) hx hb hts hown hE hW 0 rfl rfl (fun w h => List.mem_cons_of_mem _ (List.mem_append_left _ (List.mem_append_right _ h))) 5 (by decide) (List.mem_of_getElem? (i := 7) rfl) (Or.inl rfl) (v := .ref (b 6)) rfl dX5_clear_63 ?_
      refine lv_iload_n hx hb dX5_clear_66 rfl (lv_at hl 1 rfl) ?_
      refine lv_iconst (v := (-1 : Int32)) hx hb dX5_clear_67 (by decide) ?_
      refine c_iast hx hb hE hW hS 6 rfl (vp_in_nI (by omega) (by decide)) dX5_clear_68 (fun H locs hW hS => ?_)
      have hW : CW z G W0 (vw7 G a b (md + 1) f g h (upd u n (-1)) (upd w n (-1)) X) H := by rw [hkk] at hW; exact hW
      refine lv_iinc (v := nI (n + 1)) (lv' := [(1, .int (nI (n + 1))), (0, .ref a)]) hx hb dX5_clear_69 hl (k := 1) rfl (nI_1 n) (by decide) rfl (fun ls hl => ?_)
      refine lv_goto (tgt := 49) hx hb dX5_clear_72 (by decide) ?_
      exact ih (n + 1) f g h _ _ H locs ls (by omega) hf hu.step hW hS (lv_sub hl [1, 0] rfl)
  have L14 : ∀ (k n : Nat) (f g : Nat → Int32) (h : Nat → Option Nat) (u w : Nat → Int32) (H : Heap) (locs : List Loc) (ls : Array Slot), n + k = 40 → ok7 f g h n → CW z G W0 (vw7 G a b (md + 1) f g h u w X) H → va_S (Az z) s.heap H locs → lv_has ls 2 [(0, .ref a), (1, .int (nI n))] → W p l e ({ frames := 1, cells := 0, slots := 0, locals := 23 } : Room) s m #[Value.ref a] below meth c H locs 0 0 (MQ below (Qci z G W0 (fun u9 => ∃ (f g : Nat → Int32) (h : Nat → Option Nat) (u w : Nat → Int32), ok7 f g h 40 ∧ ok2 u w 20 ∧ u9 = vw7 G a b (md + 1) f g h u w X)) #[Value.ref a] s 0 0 (Az z)) (F0 m 14 ls []) := by
    intro k
    induction k with
    | zero =>
      intro n f g h u w H locs ls hn hf hW hS hl
      have e : n = 40 := by omega
      subst e
      refine lv_iload_n hx hb dX5_clear_14 rfl (lv_at hl 1 rfl) ?_
      refine lv_bipush (v := (40 : Int32)) hx hb dX5_clear_15 (by decide) ?_
      refine r_icmp_ge hx hb (nI_toInt (by omega)) (show (40 : Int32).toInt = 40 by decide) (tgt := 47) dX5_clear_17 (by decide) (fun c8 => ?_) (fun c8 => absurd c8 (by omega))
      refine lv_iconst (v := (0 : Int32)) hx hb dX5_clear_47 (by decide) ?_
      refine lv_istore_n (lv' := [(1, .int (nI 0)), (0, .ref a)]) hx hb dX5_clear_48 rfl hl (by decide) rfl (fun ls hl => ?_)
      exact L49 20 0 f g h u w H locs ls (by omega) hf (fun j hj => absurd hj (by omega)) hW hS (lv_sub hl [1, 0] rfl)
    | succ k ih =>
      intro n f g h u w H locs ls hn hf hW hS hl
      have hkk : (nI n).toNatClampNeg = n := nI_clamp (by omega)
      refine lv_iload_n hx hb dX5_clear_14 rfl (lv_at hl 1 rfl) ?_
      refine lv_bipush (v := (40 : Int32)) hx hb dX5_clear_15 (by decide) ?_
      refine r_icmp_ge hx hb (nI_toInt (by omega)) (show (40 : Int32).toInt = 40 by decide) (tgt := 47) dX5_clear_17 (by decide) (fun c8 => absurd c8 (by omega)) (fun c8 => ?_)
      refine lv_aload_n hx hb dX5_clear_20 rfl (lv_at hl 0 rfl) ?_
      refine c_get (C := RX5) (T := TX5) (N := 13) (ci := 8) hx hb hts hown hE hW 0 rfl rfl (fun w h => List.mem_cons_of_mem _ (List.mem_append_left _ (List.mem_append_right _ h))) 1 (by decide) (List.mem_of_getElem? (i := 3) rfl) (Or.inl rfl) (v := .ref (b 2)) rfl dX5_clear_21 ?_
      refine lv_iload_n hx hb dX5_clear_24 rfl (lv_at hl 1 rfl) ?_
      refine lv_iconst (v := (-1 : Int32)) hx hb dX5_clear_25 (by decide) ?_
      refine c_iast hx hb hE hW hS 2 rfl (vp_in_nI (by omega) (by decide)) dX5_clear_26 (fun H locs hW hS => ?_)
      have hW : CW z G W0 (vw7 G a b (md + 1) (upd f n (-1)) g h u w X) H := by rw [hkk] at hW; exact hW
      refine lv_aload_n hx hb dX5_clear_27 rfl (lv_at hl 0 rfl) ?_
      refine c_get (C := RX5) (T := TX5) (N := 13) (ci := 8) hx hb hts hown hE hW 0 rfl rfl (fun w h => List.mem_cons_of_mem _ (List.mem_append_left _ (List.mem_append_right _ h))) 2 (by decide) (List.mem_of_getElem? (i := 4) rfl) (Or.inl rfl) (v := .ref (b 3)) rfl dX5_clear_28 ?_
      refine lv_iload_n hx hb dX5_clear_31 rfl (lv_at hl 1 rfl) ?_
      refine lv_iconst (v := (0 : Int32)) hx hb dX5_clear_32 (by decide) ?_
      refine c_iast hx hb hE hW hS 3 rfl (vp_in_nI (by omega) (by decide)) dX5_clear_33 (fun H locs hW hS => ?_)
      have hW : CW z G W0 (vw7 G a b (md + 1) (upd f n (-1)) (upd g n 0) h u w X) H := by rw [hkk] at hW; exact hW
      refine lv_aload_n hx hb dX5_clear_34 rfl (lv_at hl 0 rfl) ?_
      refine c_get (C := RX5) (T := TX5) (N := 13) (ci := 8) hx hb hts hown hE hW 0 rfl rfl (fun w h => List.mem_cons_of_mem _ (List.mem_append_left _ (List.mem_append_right _ h))) 3 (by decide) (List.mem_of_getElem? (i := 5) rfl) (Or.inl rfl) (v := .ref (b 4)) rfl dX5_clear_35 ?_
      refine lv_iload_n hx hb dX5_clear_38 rfl (lv_at hl 1 rfl) ?_
      refine lv_null hx hb dX5_clear_39 ?_
      refine c_astN (C := RX2) hx hb hE hW hS 4 2 rfl rfl (vp_in_nI (by omega) (by decide)) dX5_clear_40 (fun H locs hW hS => ?_)
      have hW : CW z G W0 (vw7 G a b (md + 1) (upd f n (-1)) (upd g n 0) (va_up h n none) u w X) H := by rw [hkk] at hW; exact hW
      refine lv_iinc (v := nI (n + 1)) (lv' := [(1, .int (nI (n + 1))), (0, .ref a)]) hx hb dX5_clear_41 hl (k := 1) rfl (nI_1 n) (by decide) rfl (fun ls hl => ?_)
      refine lv_goto (tgt := 14) hx hb dX5_clear_44 (by decide) ?_
      exact ih (n + 1) _ _ _ u w H locs ls (by omega) hf.step hW hS (lv_sub hl [1, 0] rfl)
  refine lv_aload_n hx hb dX5_clear_0 rfl (lv_at hl 0 rfl) ?_
  refine c_get (C := RX5) (T := TX5) (N := 13) (ci := 8) hx hb hts hown hE hW 0 rfl rfl (fun w h => List.mem_cons_of_mem _ (List.mem_append_left _ (List.mem_append_right _ h))) 0 (by decide) (List.mem_of_getElem? (i := 1) rfl) (Or.inl rfl) (v := .ref (b 1)) rfl dX5_clear_1 ?_
  have hr7 : ∃ cell : Cell, s.heap[b 1]? = some cell ∧ cell.vm.isStatics = false ∧ s.vm.findClass RJx4a65c = some cell.cls := va_recv (q := (RJx4a65c, TJx4a65c, 3)) (q0 := W0.length + 1) hE.1 hW.1 rfl (get_app9.trans rfl)
  have hW := CW.csa (A := [(a, (.inr (8, [.ref (b 1), .ref (b 2), .ref (b 3), .ref (b 4), .ref (b 5), .ref (b 6), .ref (b 7), .ref (b 8), .ref (b 9), .int 0, .int 0, .int 0, .int 0]) : va_E))]) hW
  refine k_CV (rest := []) (As := []) ⟨hx, hb, hml, hown, hts⟩ hE hz hS hW (miJx4a65c_clear_da8c8 l z G _ (b 1) md G.2.2.1 _) (cwV 0 hts gX5_clear_Jx4a65c_clear_da8c8 rfl rfl rfl (by decide +kernel) ⟨Nat.le_of_ble_eq_true rfl, Nat.le_of_ble_eq_true rfl⟩) hr7 rfl hl.1 rfl (Nat.le_of_ble_eq_true rfl) dX5_clear_4 ⟨Nat.le_of_ble_eq_true rfl, Nat.le_of_ble_eq_true rfl⟩ (fun u9 H locs hp hW hS => ?_)
  subst hp
  have hW := CW.asc hW
  have hW : CW z G W0 (vw7 G a b (md + 1) f g h u w X) H := hW
  refine lv_aload_n hx hb dX5_clear_7 rfl (lv_at hl 0 rfl) ?_
  refine lv_iconst (v := (0 : Int32)) hx hb dX5_clear_8 (by decide) ?_
  refine c_put (C := RX5) (T := TX5) (N := 13) (v := .int 0) (ty := .int) hx hb hts hown hE hW hS 0 rfl rfl (fun w h => List.mem_cons_of_mem _ (List.mem_append_left _ (List.mem_append_right _ h))) tyX5_ok nmX5 9 (by decide) (List.mem_of_getElem? (i := 2) rfl) rfl rfl (by decide +kernel) rfl rfl (Nat.le_of_ble_eq_true rfl) dX5_clear_9 (fun H locs hW hS => ?_)
  have hW : CW z G W0 (vw7 G a b (md + 1) f g h u w X) H := hW
  refine lv_iconst (v := (0 : Int32)) hx hb dX5_clear_12 (by decide) ?_
  refine lv_istore_n (lv' := [(1, .int (nI 0)), (0, .ref a)]) hx hb dX5_clear_13 rfl hl (by decide) rfl (fun ls hl => ?_)
  exact L14 40 0 f g h u w H locs ls (by omega) (fun j hj => absurd hj (by omega)) hW hS (lv_sub hl [1, 0] rfl)
