/-! the constructor of View over new cells. Written by wip/gen/hand10.py -/
/-- the cells of a text -/
def tc (G : Gl) (x : Nat × Nat × Nat) : va_W := [(x.1, .inr (7, [.ref x.2.1, .ref x.2.2, .int 0])), (x.2.1, .inl (G.2.1 0, 12, .inl (fun _ => 0))), (x.2.2, .inl (G.2.1 0, 12, .inl (fun _ => 0)))]
def tx (G : Gl) (t : Nat → Nat × Nat × Nat) (n : Nat) : va_W := (List.range n).flatMap (fun j => tc G (t j))
theorem tx_step {G : Gl} {t : Nat → Nat × Nat × Nat} {n : Nat} {x : Nat × Nat × Nat} : tx G t n ++ tc G x = tx G (fun j => if j = n then x else t j) (n + 1) := by
  unfold tx
  rw [List.range_succ, List.flatMap_append]
  have e : (List.range n).flatMap (fun j => tc G (if j = n then x else t j)) = (List.range n).flatMap (fun j => tc G (t j)) := by
    rw [List.flatMap_def, List.flatMap_def]
    refine congrArg List.flatten (List.map_congr_left (fun j hj => ?_))
    have := List.mem_range.mp hj
    rw [if_neg (by omega)]
  rw [e]
  congr 1
  simp
def tar (t : Nat → Nat × Nat × Nat) (n : Nat) : Nat → Option Nat := fun j => if j < n then some (t j).1 else none
theorem tar_0 {t : Nat → Nat × Nat × Nat} : tar t 0 = fun _ => none := by
  funext j
  simp [tar]
theorem tar_step {t : Nat → Nat × Nat × Nat} {n : Nat} {x : Nat × Nat × Nat} : va_up (tar t n) n (some x.1) = tar (fun j => if j = n then x else t j) (n + 1) := by
  funext j
  by_cases e : j = n
  · subst e
    simp [va_up, tar]
  · have h : j < n + 1 ↔ j < n := by omega
    simp only [va_up, tar, if_neg e, h]
abbrev vx5 (G : Gl) (b : Nat → Nat) (t : Nat → Nat × Nat × Nat) (n : Nat) : va_W :=
  (b 7, .inl (G.2.1 3, 20, .inr (.inr (.inr (.inr (tar t n)))))) :: (b 8, .inr (7, [.ref (b 10), .ref (b 11), .int 0])) :: (b 10, .inl (G.2.1 0, 12, .inl (fun _ => 0))) :: (b 11, .inl (G.2.1 0, 12, .inl (fun _ => 0))) :: (b 9, .inl (G.2.1 0, 20, .inl (fun _ => 0))) :: tx G t n
abbrev bb9 (q1 q2 q3 q4 q5 q6 q7 q8 q9 w8 s8 : Nat) : Nat → Nat := fun j => match j with
  | 1 => q1
  | 2 => q2
  | 3 => q3
  | 4 => q4
  | 5 => q5
  | 6 => q6
  | 7 => q7
  | 8 => q8
  | 9 => q9
  | 10 => w8
  | _ => s8
set_option maxHeartbeats 4000000 in
set_option maxRecDepth 100000 in
theorem miX5 (l : Launch) (z : Nat) (G : Gl) (W0 : va_W) (a : Nat) : Met l yX5_init wsX5_init ({ frames := 4, cells := 71, slots := 770, locals := 72 } : Room) (Pci z G W0 [(a, .inr (8, [.null, .null, .null, .null, .null, .null, .null, .null, .null, .int 0, .int 0, .int 0, .int 0]))] [.ref a]) (Qci z G W0 (fun u9 => ∃ (b : Nat → Nat) (t : Nat → Nat × Nat × Nat) (f g : Nat → Int32) (h : Nat → Option Nat) (u w : Nat → Int32), ok7 f g h 40 ∧ ok2 u w 20 ∧ u9 = vw7 G a b (0 + 1) f g h u w (vx5 G b t 20))) 71 770 (Az z) := by
  refine Met.ofW (cc := cX5_init) (maxL := 2) (ret := none) (by decide) rfl ?_
  intro p e s m args below meth c s₁ BB hml hv
  obtain ⟨rfl, hz, hW, hE⟩ := hv
  have hx := BB.exec
  have hb := BB.bytes
  have hr := BB.returns
  have hts := atoms_spec (ws := wsX5_init) BB.pre
  have hown : s.vm.findClass RX5 = some m.cls := findClass_of_methodNamed BB.named
  have hlocks := BB.notSynchronized
  have hin : meth.name = "<init>" := (name_of_methodNamed BB.named BB.method).1
  have hS : va_S (Az z) s.heap s.heap [] := va_S.rf
  have hl := lv_entry [.ref a] (n := 2) (Nat.le_of_ble_eq_true rfl)
  rw [lg_entry_eq]
  generalize (lg_sl [.ref a] ++ List.replicate (2 - (lg_sl [.ref a]).length) Slot.unset).toArray = ls at hl ⊢
  have hl : lv_has ls 2 [(0, .ref a)] := hl
  have L106 : ∀ (k n : Nat) (b : Nat → Nat) (t : Nat → Nat × Nat × Nat) (H : Heap) (locs : List Loc) (ls : Array Slot), n + k = 20 → CW z G W0 (vw7 G a b 0 (fun _ => 0) (fun _ => 0) (fun _ => none) (fun _ => 0) (fun _ => 0) (vx5 G b t n)) H → va_S (Az z) s.heap H locs → lv_has ls 2 [(0, .ref a), (1, .int (nI n))] → W p l e ({ frames := 4, cells := 71, slots := 770, locals := 72 } : Room) s m #[Value.ref a] below meth c H locs (11 + 3 * n) (230 + 27 * n) (MQ below (Qci z G W0 (fun u9 => ∃ (b : Nat → Nat) (t : Nat → Nat × Nat × Nat) (f g : Nat → Int32) (h : Nat → Option Nat) (u w : Nat → Int32), ok7 f g h 40 ∧ ok2 u w 20 ∧ u9 = vw7 G a b (0 + 1) f g h u w (vx5 G b t 20))) #[Value.ref a] s 71 770 (Az z)) (F0 m 106 ls []) := by
    intro k
    induction k with
    | zero =>
      intro n b t H locs ls hn hW hS hl
      have e : n = 20 := by omega
      subst e
      refine lv_iload_n hx hb dX5_init_106 rfl (lv_at hl 1 rfl) ?_
      refine lv_aload_n hx hb dX5_init_107 rfl (lv_at hl 0 rfl) ?_
      refine c_get (C := RX5) (T := TX5) (N := 13) (ci := 8) hx hb hts hown hE hW 0 rfl rfl (fun w h => List.mem_cons_of_mem _ (List.mem_append_left _ (List.mem_append_right _ h))) 6 (by decide) (List.mem_of_getElem? (i := 16) rfl) (Or.inl rfl) (v := .ref (b 7)) rfl dX5_init_108 ?_
      refine c_alen hx hb hE hW 7 3 rfl rfl (v := (20 : Int32)) rfl dX5_init_111 ?_
      refine r_icmp_ge hx hb (nI_toInt (by omega)) (show (20 : Int32).toInt = 20 by decide) (tgt := 134) dX5_init_112 (by decide) (fun c8 => ?_) (fun c8 => absurd c8 (by omega))
      refine lv_aload_n hx hb dX5_init_134 rfl (lv_at hl 0 rfl) ?_
      have hr7 : ∃ cell : Cell, H[a]? = some cell ∧ cell.vm.isStatics = false ∧ s.vm.findClass RX5 = some cell.cls := va_recv (q := (RX5, TX5, 13)) (q0 := W0.length + 0) hE.1 hW.1 rfl (get_app9.trans rfl)
      refine k_CV (rest := []) (As := []) ⟨hx, hb, hml, hown, hts⟩ hE hz hS hW (miX5_clear l z G W0 a b 0 _ _ _ _ _ (vx5 G b t 20)) (cwV 0 hts gX5_init_X5_clear rfl rfl rfl (by decide +kernel) ⟨Nat.le_of_ble_eq_true rfl, Nat.le_of_ble_eq_true rfl⟩) hr7 rfl hl.1 rfl (Nat.le_of_ble_eq_true rfl) dX5_init_135 ⟨Nat.le_of_ble_eq_true rfl, Nat.le_of_ble_eq_true rfl⟩ (fun u9 H locs hp hW hS => ?_)
      obtain ⟨f, g, h, u, w, h1, h2, rfl⟩ := hp
      exact W.vret hx hb hr (fun t9 ht _ => ⟨⟨_, rfl, ⟨b, t, f, g, h, u, w, h1, h2, rfl⟩, CW.at9 ht hW⟩, hS.F ht⟩) hS.2.2 dX5_init_138 (hlocks := hlocks)
    | succ k ih =>
      intro n b t H locs ls hn hW hS hl
      have hkk : (nI n).toNatClampNeg = n := nI_clamp (by omega)
      refine lv_iload_n hx hb dX5_init_106 rfl (lv_at hl 1 rfl) ?_
      refine lv_aload_n hx hb dX5_init_107 rfl (lv_at hl 0 rfl) ?_
      refine c_get (C := RX5) (T := TX5) (N := 13) (ci := 8) hx hb hts hown hE hW 0 rfl rfl (fun w h => List.mem_cons_of_mem _ (List.mem_append_left _ (List.mem_append_right _ h))) 6 (by decide) (List.mem_of_getElem? (i := 16) rfl) (Or.inl rfl) (v := .ref (b 7)) rfl dX5_init_108 ?_
      refine c_alen hx hb hE hW 7 3 rfl rfl (v := (20 : Int32)) rfl dX5_init_111 ?_
      refine r_icmp_ge hx hb (nI_toInt (by omega)) (show (20 : Int32).toInt = 20 by decide) (tgt := 134) dX5_init_112 (by decide) (fun c8 => absurd c8 (by omega)) (fun c8 => ?_)
      refine lv_aload_n hx hb dX5_init_115 rfl (lv_at hl 0 rfl) ?_
      refine c_get (C := RX5) (T := TX5) (N := 13) (ci := 8) hx hb hts hown hE hW 0 rfl rfl (fun w h => List.mem_cons_of_mem _ (List.mem_append_left _ (List.mem_append_right _ h))) 6 (by decide) (List.mem_of_getElem? (i := 16) rfl) (Or.inl rfl) (v := .ref (b 7)) rfl dX5_init_116 ?_
      refine lv_iload_n hx hb dX5_init_119 rfl (lv_at hl 1 rfl) ?_
      refine c_new (C := RX4) (T := TX4) (N := 3) (ci := 7) (fs := [.null, .null, .int 0]) hx hb hts hown hE hz hW hS (fun w h => List.mem_cons_of_mem _ (List.mem_append_right _ h)) tyX4_ok (List.mem_of_getElem? (i := 15) rfl) (List.mem_of_getElem? (i := 17) rfl) (List.mem_of_getElem? (i := 18) rfl) rfl (fun j hj => by rcases (show j = 0 ∨ j = 1 ∨ j = 2 by omega) with rfl | rfl | rfl <;> rfl) (by show 11 + 3 * n + 1 ≤ 71; omega) (by show 230 + 27 * n + 3 ≤ 770; omega) dX5_init_120 (fun q H hW hS => ?_)
      refine lv_dup hx hb dX5_init_123 rfl ?_
      have hW := CW.csa (A := (vw7 G a b 0 (fun _ => 0) (fun _ => 0) (fun _ => none) (fun _ => 0) (fun _ => 0) (vx5 G b t n))) (B := [(q, (.inr (7, [.null, .null, .int 0]) : va_E))]) hW
      refine k_IN (host := "Amendmark") (rest := [.ref q, .int (nI n), .ref (b 7)]) (As := []) ⟨hx, hb, hml, hown, hts⟩ hE hz hS hW (miX4 l z G (W0 ++ (vw7 G a b 0 (fun _ => 0) (fun _ => 0) (fun _ => none) (fun _ => 0) (fun _ => 0) (vx5 G b t n))) q) ⟨va_cnB (host := "Amendmark") 0 hts gX5_init_X4_init_n43 rfl rfl rfl (hE.2.2.2.2.2.2.2.2.2.2.2.2 ("Amendmark$View", 43, ⟨"Amendmark$Text", "<init>", "()V"⟩, "Amendmark") (List.mem_of_getElem? (i := 2) rfl)) (hts _ (List.mem_of_getElem? (i := 18) rfl)) (by decide +kernel) ⟨Nat.le_of_ble_eq_true rfl, Nat.le_of_ble_eq_true rfl⟩, rfl, hts _ (List.mem_of_getElem? (i := 40) rfl)⟩ rfl hl.1 rfl (Nat.le_of_ble_eq_true rfl) dX5_init_124 ⟨by show 11 + 3 * n + 1 + 2 ≤ 71; omega, by show 230 + 27 * n + 3 + 24 ≤ 770; omega⟩ (fun u9 H locs hp hW hS => ?_)
      obtain ⟨w8, s8, rfl⟩ := hp
      have hW := CW.asc hW
      have hW : CW z G W0 (vw7 G a b 0 (fun _ => 0) (fun _ => 0) (fun _ => none) (fun _ => 0) (fun _ => 0) (vx5 G b t n ++ tc G (q, w8, s8))) H := hW
      refine c_ast (r := (RX4, TX4, 3)) (v := q) (vs := [.ref w8, .ref s8, .int 0]) (ci := 7) hx hb hE hW hS 7 3 rfl rfl ?_ rfl (vp_in_nI (by omega) (by decide)) dX5_init_127 (fun H locs hW hS => ?_)
      · iterate 7 refine List.mem_cons_of_mem _ ?_
        exact List.mem_append_right _ List.mem_cons_self
      have hW : CW z G W0 (vw7 G a b 0 (fun _ => 0) (fun _ => 0) (fun _ => none) (fun _ => 0) (fun _ => 0) (vx5 G b (fun j => if j = n then (q, w8, s8) else t j) (n + 1))) H := by
        rw [hkk] at hW
        have e := @tar_step t n (q, w8, s8)
        have e2 := @tx_step G t n (q, w8, s8)
        unfold vx5
        rw [← e, ← e2]
        exact hW
      refine lv_iinc (v := nI (n + 1)) (lv' := [(1, .int (nI (n + 1))), (0, .ref a)]) hx hb dX5_init_128 hl (k := 1) rfl (nI_1 n) (by decide) rfl (fun ls hl => ?_)
      refine lv_goto (tgt := 106) hx hb dX5_init_131 (by decide) ?_
      have h9 := ih (n + 1) b _ H locs ls (by omega) hW hS (lv_sub hl [1, 0] rfl)
      rw [show 11 + 3 * (n + 1) = 11 + 3 * n + 1 + 2 by omega, show 230 + 27 * (n + 1) = 230 + 27 * n + 3 + 24 by omega] at h9
      exact h9
  refine lv_aload_n hx hb dX5_init_0 rfl (lv_at hl 0 rfl) ?_
  refine W.objInit hx hb hown (hts _ (List.mem_of_getElem? (i := 1) rfl)) (hts _ (List.mem_of_getElem? (i := 2) rfl)) (hts _ (List.mem_of_getElem? (i := 3) rfl)) rfl (by rw [hml]; exact hl.1) rfl dX5_init_1 (Nat.le_of_ble_eq_true rfl) (Nat.le_of_ble_eq_true rfl) ?_
  refine W.eq (g2 := F0 m 4 ls []) rfl ?_
  refine lv_aload_n hx hb dX5_init_4 rfl (lv_at hl 0 rfl) ?_
  refine c_new (C := RJx4a65c) (T := TJx4a65c) (N := 3) (ci := 2) (fs := [.int 0, .null, .int 0]) hx hb hts hown hE hz hW hS (fun w h => List.mem_cons_of_mem _ (List.mem_append_left _ (List.mem_append_left _ (List.mem_append_right _ h)))) tyJx4a65c_ok (List.mem_of_getElem? (i := 4) rfl) (List.mem_of_getElem? (i := 5) rfl) (List.mem_of_getElem? (i := 6) rfl) rfl (fun j hj => by rcases (show j = 0 ∨ j = 1 ∨ j = 2 by omega) with rfl | rfl | rfl <;> rfl) (Nat.le_of_ble_eq_true rfl) (Nat.le_of_ble_eq_true rfl) dX5_init_5 (fun q1 H hW hS => ?_)
  have hW : CW z G W0 [(a, .inr (8, [.null, .null, .null, .null, .null, .null, .null, .null, .null, .int 0, .int 0, .int 0, .int 0])), (q1, .inr (2, [.int 0, .null, .int 0]))] H := hW
  refine lv_dup hx hb dX5_init_8 rfl ?_
  have hW := CW.csa (A := [(a, .inr (8, [.null, .null, .null, .null, .null, .null, .null, .null, .null, .int 0, .int 0, .int 0, .int 0]))]) (B := [(q1, .inr (2, [.int 0, .null, .int 0]))]) hW
  refine k_I (rest := [.ref q1, .ref a]) (As := []) ⟨hx, hb, hml, hown, hts⟩ hE hz hS hW (miJx4a65c_init_da8c8 l z G (W0 ++ [(a, .inr (8, [.null, .null, .null, .null, .null, .null, .null, .null, .null, .int 0, .int 0, .int 0, .int 0]))]) q1 []) (cwI 0 hts gX5_init_Jx4a65c_init_da8c8 rfl rfl rfl (hts _ (List.mem_of_getElem? (i := 6) rfl)) (hts _ (List.mem_of_getElem? (i := 25) rfl)) (hts _ (List.mem_of_getElem? (i := 26) rfl)) rfl (by decide +kernel) ⟨Nat.le_of_ble_eq_true rfl, Nat.le_of_ble_eq_true rfl⟩) rfl hl.1 rfl (Nat.le_of_ble_eq_true rfl) dX5_init_9 ⟨Nat.le_of_ble_eq_true rfl, Nat.le_of_ble_eq_true rfl⟩ (fun u9 H locs hp hW hS => ?_)
  subst hp
  have hW := CW.asc hW
  have hW : CW z G W0 [(a, .inr (8, [.null, .null, .null, .null, .null, .null, .null, .null, .null, .int 0, .int 0, .int 0, .int 0])), (q1, .inr (2, [.int 0, .ref G.2.2.1, .int 0]))] H := hW
  refine c_putF (C := RX5) (T := TX5) (N := 13) (v := .ref q1) (ty := .object "java/util/ArrayList") hx hb hts hown hE hW hS 0 rfl rfl (fun w h => List.mem_cons_of_mem _ (List.mem_append_left _ (List.mem_append_right _ h))) tyX5_ok nmX5 0 (by decide) (List.mem_of_getElem? (i := 7) rfl) rfl rfl hin rfl (by decide +kernel) rfl rfl (Nat.le_of_ble_eq_true rfl) dX5_init_12 (fun H locs hW hS => ?_)
  have hW : CW z G W0 [(a, .inr (8, [.ref q1, .null, .null, .null, .null, .null, .null, .null, .null, .int 0, .int 0, .int 0, .int 0])), (q1, .inr (2, [.int 0, .ref G.2.2.1, .int 0]))] H := hW
  refine lv_aload_n hx hb dX5_init_15 rfl (lv_at hl 0 rfl) ?_
  refine lv_bipush (v := (40 : Int32)) hx hb dX5_init_16 (by decide) ?_
  refine c_newa (atype := .int) (ty := .int) (cB := G.2.1 0) hx hb hE hz hW hS (hts (.arrayClass .int) (List.mem_of_getElem? (i := 8) rfl)) 0 rfl rfl (fun _ => uni_int) (N' := 40) (a0 := (40, .inl (fun _ => 0))) (fun _ => rfl) (by decide) (by decide) (by decide) (Nat.le_of_ble_eq_true rfl) (Nat.le_of_ble_eq_true rfl) dX5_init_18 (fun q2 H hW hS => ?_)
  have hW : CW z G W0 [(a, .inr (8, [.ref q1, .null, .null, .null, .null, .null, .null, .null, .null, .int 0, .int 0, .int 0, .int 0])), (q1, .inr (2, [.int 0, .ref G.2.2.1, .int 0])), (q2, .inl (G.2.1 0, 40, .inl (fun _ => 0)))] H := hW
  refine c_putF (C := RX5) (T := TX5) (N := 13) (v := .ref q2) (ty := .array (.int)) hx hb hts hown hE hW hS 0 rfl rfl (fun w h => List.mem_cons_of_mem _ (List.mem_append_left _ (List.mem_append_right _ h))) tyX5_ok nmX5 1 (by decide) (List.mem_of_getElem? (i := 9) rfl) rfl rfl hin rfl (by decide +kernel) rfl rfl (Nat.le_of_ble_eq_true rfl) dX5_init_20 (fun H locs hW hS => ?_)
  have hW : CW z G W0 [(a, .inr (8, [.ref q1, .ref q2, .null, .null, .null, .null, .null, .null, .null, .int 0, .int 0, .int 0, .int 0])), (q1, .inr (2, [.int 0, .ref G.2.2.1, .int 0])), (q2, .inl (G.2.1 0, 40, .inl (fun _ => 0)))] H := hW
  refine lv_aload_n hx hb dX5_init_23 rfl (lv_at hl 0 rfl) ?_
  refine lv_bipush (v := (40 : Int32)) hx hb dX5_init_24 (by decide) ?_
  refine c_newa (atype := .int) (ty := .int) (cB := G.2.1 0) hx hb hE hz hW hS (hts (.arrayClass .int) (List.mem_of_getElem? (i := 8) rfl)) 0 rfl rfl (fun _ => uni_int) (N' := 40) (a0 := (40, .inl (fun _ => 0))) (fun _ => rfl) (by decide) (by decide) (by decide) (Nat.le_of_ble_eq_true rfl) (Nat.le_of_ble_eq_true rfl) dX5_init_26 (fun q3 H hW hS => ?_)
  have hW : CW z G W0 [(a, .inr (8, [.ref q1, .ref q2, .null, .null, .null, .null, .null, .null, .null, .int 0, .int 0, .int 0, .int 0])), (q1, .inr (2, [.int 0, .ref G.2.2.1, .int 0])), (q2, .inl (G.2.1 0, 40, .inl (fun _ => 0))), (q3, .inl (G.2.1 0, 40, .inl (fun _ => 0)))] H := hW
  refine c_putF (C := RX5) (T := TX5) (N := 13) (v := .ref q3) (ty := .array (.int)) hx hb hts hown hE hW hS 0 rfl rfl (fun w h => List.mem_cons_of_mem _ (List.mem_append_left _ (List.mem_append_right _ h))) tyX5_ok nmX5 2 (by decide) (List.mem_of_getElem? (i := 10) rfl) rfl rfl hin rfl (by decide +kernel) rfl rfl (Nat.le_of_ble_eq_true rfl) dX5_init_28 (fun H locs hW hS => ?_)
  have hW : CW z G W0 [(a, .inr (8, [.ref q1, .ref q2, .ref q3, .null, .null, .null, .null, .null, .null, .int 0, .int 0, .int 0, .int 0])), (q1, .inr (2, [.int 0, .ref G.2.2.1, .int 0])), (q2, .inl (G.2.1 0, 40, .inl (fun _ => 0))), (q3, .inl (G.2.1 0, 40, .inl (fun _ => 0)))] H := hW
  refine lv_aload_n hx hb dX5_init_31 rfl (lv_at hl 0 rfl) ?_
  refine lv_bipush (v := (40 : Int32)) hx hb dX5_init_32 (by decide) ?_
  refine c_newq (C := RX2) (cB := G.2.1 2) hx hb hts hown hE hz hW hS (List.mem_of_getElem? (i := 11) rfl) (by decide) 2 rfl (N' := 40) (by decide) (by decide) (by decide) (Nat.le_of_ble_eq_true rfl) (Nat.le_of_ble_eq_true rfl) dX5_init_34 (fun q4 H hW hS => ?_)
  have hW : CW z G W0 [(a, .inr (8, [.ref q1, .ref q2, .ref q3, .null, .null, .null, .null, .null, .null, .int 0, .int 0, .int 0, .int 0])), (q1, .inr (2, [.int 0, .ref G.2.2.1, .int 0])), (q2, .inl (G.2.1 0, 40, .inl (fun _ => 0))), (q3, .inl (G.2.1 0, 40, .inl (fun _ => 0))), (q4, .inl (G.2.1 2, 40, .inr (.inr (.inr (.inr (fun _ => none))))))] H := hW
  refine c_putF (C := RX5) (T := TX5) (N := 13) (v := .ref q4) (ty := .array (.object "Amendmark$Phrase")) hx hb hts hown hE hW hS 0 rfl rfl (fun w h => List.mem_cons_of_mem _ (List.mem_append_left _ (List.mem_append_right _ h))) tyX5_ok nmX5 3 (by decide) (List.mem_of_getElem? (i := 12) rfl) rfl rfl hin rfl (by decide +kernel) rfl rfl (Nat.le_of_ble_eq_true rfl) dX5_init_37 (fun H locs hW hS => ?_)
  have hW : CW z G W0 [(a, .inr (8, [.ref q1, .ref q2, .ref q3, .ref q4, .null, .null, .null, .null, .null, .int 0, .int 0, .int 0, .int 0])), (q1, .inr (2, [.int 0, .ref G.2.2.1, .int 0])), (q2, .inl (G.2.1 0, 40, .inl (fun _ => 0))), (q3, .inl (G.2.1 0, 40, .inl (fun _ => 0))), (q4, .inl (G.2.1 2, 40, .inr (.inr (.inr (.inr (fun _ => none))))))] H := hW
  refine lv_aload_n hx hb dX5_init_40 rfl (lv_at hl 0 rfl) ?_
  refine lv_bipush (v := (20 : Int32)) hx hb dX5_init_41 (by decide) ?_
  refine c_newa (atype := .int) (ty := .int) (cB := G.2.1 0) hx hb hE hz hW hS (hts (.arrayClass .int) (List.mem_of_getElem? (i := 8) rfl)) 0 rfl rfl (fun _ => uni_int) (N' := 20) (a0 := (20, .inl (fun _ => 0))) (fun _ => rfl) (by decide) (by decide) (by decide) (Nat.le_of_ble_eq_true rfl) (Nat.le_of_ble_eq_true rfl) dX5_init_43 (fun q5 H hW hS => ?_)
  have hW : CW z G W0 [(a, .inr (8, [.ref q1, .ref q2, .ref q3, .ref q4, .null, .null, .null, .null, .null, .int 0, .int 0, .int 0, .int 0])), (q1, .inr (2, [.int 0, .ref G.2.2.1, .int 0])), (q2, .inl (G.2.1 0, 40, .inl (fun _ => 0))), (q3, .inl (G.2.1 0, 40, .inl (fun _ => 0))), (q4, .inl (G.2.1 2, 40, .inr (.inr (.inr (.inr (fun _ => none)))))), (q5, .inl (G.2.1 0, 20, .inl (fun _ => 0)))] H := hW
  refine c_putF (C := RX5) (T := TX5) (N := 13) (v := .ref q5) (ty := .array (.int)) hx hb hts hown hE hW hS 0 rfl rfl (fun w h => List.mem_cons_of_mem _ (List.mem_append_left _ (List.mem_append_right _ h))) tyX5_ok nmX5 4 (by decide) (List.mem_of_getElem? (i := 13) rfl) rfl rfl hin rfl (by decide +kernel) rfl rfl (Nat.le_of_ble_eq_true rfl) dX5_init_45 (fun H locs hW hS => ?_)
  have hW : CW z G W0 [(a, .inr (8, [.ref q1, .ref q2, .ref q3, .ref q4, .ref q5, .null, .null, .null, .null, .int 0, .int 0, .int 0, .int 0])), (q1, .inr (2, [.int 0, .ref G.2.2.1, .int 0])), (q2, .inl (G.2.1 0, 40, .inl (fun _ => 0))), (q3, .inl (G.2.1 0, 40, .inl (fun _ => 0))), (q4, .inl (G.2.1 2, 40, .inr (.inr (.inr (.inr (fun _ => none)))))), (q5, .inl (G.2.1 0, 20, .inl (fun _ => 0)))] H := hW
  refine lv_aload_n hx hb dX5_init_48 rfl (lv_at hl 0 rfl) ?_
  refine lv_bipush (v := (20 : Int32)) hx hb dX5_init_49 (by decide) ?_
  refine c_newa (atype := .int) (ty := .int) (cB := G.2.1 0) hx hb hE hz hW hS (hts (.arrayClass .int) (List.mem_of_getElem? (i := 8) rfl)) 0 rfl rfl (fun _ => uni_int) (N' := 20) (a0 := (20, .inl (fun _ => 0))) (fun _ => rfl) (by decide) (by decide) (by decide) (Nat.le_of_ble_eq_true rfl) (Nat.le_of_ble_eq_true rfl) dX5_init_51 (fun q6 H hW hS => ?_)
  have hW : CW z G W0 [(a, .inr (8, [.ref q1, .ref q2, .ref q3, .ref q4, .ref q5, .null, .null, .null, .null, .int 0, .int 0, .int 0, .int 0])), (q1, .inr (2, [.int 0, .ref G.2.2.1, .int 0])), (q2, .inl (G.2.1 0, 40, .inl (fun _ => 0))), (q3, .inl (G.2.1 0, 40, .inl (fun _ => 0))), (q4, .inl (G.2.1 2, 40, .inr (.inr (.inr (.inr (fun _ => none)))))), (q5, .inl (G.2.1 0, 20, .inl (fun _ => 0))), (q6, .inl (G.2.1 0, 20, .inl (fun _ => 0)))] H := hW
  refine c_putF (C := RX5) (T := TX5) (N := 13) (v := .ref q6) (ty := .array (.int)) hx hb hts hown hE hW hS 0 rfl rfl (fun w h => List.mem_cons_of_mem _ (List.mem_append_left _ (List.mem_append_right _ h))) tyX5_ok nmX5 5 (by decide) (List.mem_of_getElem? (i := 14) rfl) rfl rfl hin rfl (by decide +kernel) rfl rfl (Nat.le_of_ble_eq_true rfl) dX5_init_53 (fun H locs hW hS => ?_)
  have hW : CW z G W0 [(a, .inr (8, [.ref q1, .ref q2, .ref q3, .ref q4, .ref q5, .ref q6, .null, .null, .null, .int 0, .int 0, .int 0, .int 0])), (q1, .inr (2, [.int 0, .ref G.2.2.1, .int 0])), (q2, .inl (G.2.1 0, 40, .inl (fun _ => 0))), (q3, .inl (G.2.1 0, 40, .inl (fun _ => 0))), (q4, .inl (G.2.1 2, 40, .inr (.inr (.inr (.inr (fun _ => none)))))), (q5, .inl (G.2.1 0, 20, .inl (fun _ => 0))), (q6, .inl (G.2.1 0, 20, .inl (fun _ => 0)))] H := hW
  refine lv_aload_n hx hb dX5_init_56 rfl (lv_at hl 0 rfl) ?_
  refine lv_bipush (v := (20 : Int32)) hx hb dX5_init_57 (by decide) ?_
  refine c_newq (C := RX4) (cB := G.2.1 3) hx hb hts hown hE hz hW hS (List.mem_of_getElem? (i := 15) rfl) (by decide) 3 rfl (N' := 20) (by decide) (by decide) (by decide) (Nat.le_of_ble_eq_true rfl) (Nat.le_of_ble_eq_true rfl) dX5_init_59 (fun q7 H hW hS => ?_)
  have hW : CW z G W0 [(a, .inr (8, [.ref q1, .ref q2, .ref q3, .ref q4, .ref q5, .ref q6, .null, .null, .null, .int 0, .int 0, .int 0, .int 0])), (q1, .inr (2, [.int 0, .ref G.2.2.1, .int 0])), (q2, .inl (G.2.1 0, 40, .inl (fun _ => 0))), (q3, .inl (G.2.1 0, 40, .inl (fun _ => 0))), (q4, .inl (G.2.1 2, 40, .inr (.inr (.inr (.inr (fun _ => none)))))), (q5, .inl (G.2.1 0, 20, .inl (fun _ => 0))), (q6, .inl (G.2.1 0, 20, .inl (fun _ => 0))), (q7, .inl (G.2.1 3, 20, .inr (.inr (.inr (.inr (fun _ => none))))))] H := hW
  refine c_putF (C := RX5) (T := TX5) (N := 13) (v := .ref q7) (ty := .array (.object "Amendmark$Text")) hx hb hts hown hE hW hS 0 rfl rfl (fun w h => List.mem_cons_of_mem _ (List.mem_append_left _ (List.mem_append_right _ h))) tyX5_ok nmX5 6 (by decide) (List.mem_of_getElem? (i := 16) rfl) rfl rfl hin rfl (by decide +kernel) rfl rfl (Nat.le_of_ble_eq_true rfl) dX5_init_62 (fun H locs hW hS => ?_)
  have hW : CW z G W0 [(a, .inr (8, [.ref q1, .ref q2, .ref q3, .ref q4, .ref q5, .ref q6, .ref q7, .null, .null, .int 0, .int 0, .int 0, .int 0])), (q1, .inr (2, [.int 0, .ref G.2.2.1, .int 0])), (q2, .inl (G.2.1 0, 40, .inl (fun _ => 0))), (q3, .inl (G.2.1 0, 40, .inl (fun _ => 0))), (q4, .inl (G.2.1 2, 40, .inr (.inr (.inr (.inr (fun _ => none)))))), (q5, .inl (G.2.1 0, 20, .inl (fun _ => 0))), (q6, .inl (G.2.1 0, 20, .inl (fun _ => 0))), (q7, .inl (G.2.1 3, 20, .inr (.inr (.inr (.inr (fun _ => none))))))] H := hW
  refine lv_aload_n hx hb dX5_init_65 rfl (lv_at hl 0 rfl) ?_
  refine c_new (C := RX4) (T := TX4) (N := 3) (ci := 7) (fs := [.null, .null, .int 0]) hx hb hts hown hE hz hW hS (fun w h => List.mem_cons_of_mem _ (List.mem_append_right _ h)) tyX4_ok (List.mem_of_getElem? (i := 15) rfl) (List.mem_of_getElem? (i := 17) rfl) (List.mem_of_getElem? (i := 18) rfl) rfl (fun j hj => by rcases (show j = 0 ∨ j = 1 ∨ j = 2 by omega) with rfl | rfl | rfl <;> rfl) (Nat.le_of_ble_eq_true rfl) (Nat.le_of_ble_eq_true rfl) dX5_init_66 (fun q8 H hW hS => ?_)
  have hW : CW z G W0 [(a, .inr (8, [.ref q1, .ref q2, .ref q3, .ref q4, .ref q5, .ref q6, .ref q7, .null, .null, .int 0, .int 0, .int 0, .int 0])), (q1, .inr (2, [.int 0, .ref G.2.2.1, .int 0])), (q2, .inl (G.2.1 0, 40, .inl (fun _ => 0))), (q3, .inl (G.2.1 0, 40, .inl (fun _ => 0))), (q4, .inl (G.2.1 2, 40, .inr (.inr (.inr (.inr (fun _ => none)))))), (q5, .inl (G.2.1 0, 20, .inl (fun _ => 0))), (q6, .inl (G.2.1 0, 20, .inl (fun _ => 0))), (q7, .inl (G.2.1 3, 20, .inr (.inr (.inr (.inr (fun _ => none)))))), (q8, .inr (7, [.null, .null, .int 0]))] H := hW
  refine lv_dup hx hb dX5_init_69 rfl ?_
  have hW := CW.csa (A := [(a, .inr (8, [.ref q1, .ref q2, .ref q3, .ref q4, .ref q5, .ref q6, .ref q7, .null, .null, .int 0, .int 0, .int 0, .int 0])), (q1, .inr (2, [.int 0, .ref G.2.2.1, .int 0])), (q2, .inl (G.2.1 0, 40, .inl (fun _ => 0))), (q3, .inl (G.2.1 0, 40, .inl (fun _ => 0))), (q4, .inl (G.2.1 2, 40, .inr (.inr (.inr (.inr (fun _ => none)))))), (q5, .inl (G.2.1 0, 20, .inl (fun _ => 0))), (q6, .inl (G.2.1 0, 20, .inl (fun _ => 0))), (q7, .inl (G.2.1 3, 20, .inr (.inr (.inr (.inr (fun _ => none))))))]) (B := [(q8, .inr (7, [.null, .null, .int 0]))]) hW
  refine k_IN (host := "Amendmark") (rest := [.ref q8, .ref a]) (As := []) ⟨hx, hb, hml, hown, hts⟩ hE hz hS hW (miX4 l z G (W0 ++ [(a, .inr (8, [.ref q1, .ref q2, .ref q3, .ref q4, .ref q5, .ref q6, .ref q7, .null, .null, .int 0, .int 0, .int 0, .int 0])), (q1, .inr (2, [.int 0, .ref G.2.2.1, .int 0])), (q2, .inl (G.2.1 0, 40, .inl (fun _ => 0))), (q3, .inl (G.2.1 0, 40, .inl (fun _ => 0))), (q4, .inl (G.2.1 2, 40, .inr (.inr (.inr (.inr (fun _ => none)))))), (q5, .inl (G.2.1 0, 20, .inl (fun _ => 0))), (q6, .inl (G.2.1 0, 20, .inl (fun _ => 0))), (q7, .inl (G.2.1 3, 20, .inr (.inr (.inr (.inr (fun _ => none))))))]) q8) ⟨va_cnB (host := "Amendmark") 0 hts gX5_init_X4_init_n43 rfl rfl rfl (hE.2.2.2.2.2.2.2.2.2.2.2.2 ("Amendmark$View", 43, ⟨"Amendmark$Text", "<init>", "()V"⟩, "Amendmark") (List.mem_of_getElem? (i := 2) rfl)) (hts _ (List.mem_of_getElem? (i := 18) rfl)) (by decide +kernel) ⟨Nat.le_of_ble_eq_true rfl, Nat.le_of_ble_eq_true rfl⟩, rfl, hts _ (List.mem_of_getElem? (i := 40) rfl)⟩ rfl hl.1 rfl (Nat.le_of_ble_eq_true rfl) dX5_init_70 ⟨Nat.le_of_ble_eq_true rfl, Nat.le_of_ble_eq_true rfl⟩ (fun u9 H locs hp hW hS => ?_)
  obtain ⟨w8, s8, rfl⟩ := hp
  have hW := CW.asc hW
  have hW : CW z G W0 [(a, .inr (8, [.ref q1, .ref q2, .ref q3, .ref q4, .ref q5, .ref q6, .ref q7, .null, .null, .int 0, .int 0, .int 0, .int 0])), (q1, .inr (2, [.int 0, .ref G.2.2.1, .int 0])), (q2, .inl (G.2.1 0, 40, .inl (fun _ => 0))), (q3, .inl (G.2.1 0, 40, .inl (fun _ => 0))), (q4, .inl (G.2.1 2, 40, .inr (.inr (.inr (.inr (fun _ => none)))))), (q5, .inl (G.2.1 0, 20, .inl (fun _ => 0))), (q6, .inl (G.2.1 0, 20, .inl (fun _ => 0))), (q7, .inl (G.2.1 3, 20, .inr (.inr (.inr (.inr (fun _ => none)))))), (q8, .inr (7, [.ref w8, .ref s8, .int 0])), (w8, .inl (G.2.1 0, 12, .inl (fun _ => 0))), (s8, .inl (G.2.1 0, 12, .inl (fun _ => 0)))] H := hW
  refine c_putF (C := RX5) (T := TX5) (N := 13) (v := .ref q8) (ty := .object "Amendmark$Text") hx hb hts hown hE hW hS 0 rfl rfl (fun w h => List.mem_cons_of_mem _ (List.mem_append_left _ (List.mem_append_right _ h))) tyX5_ok nmX5 7 (by decide) (List.mem_of_getElem? (i := 19) rfl) rfl rfl hin rfl (by decide +kernel) rfl rfl (Nat.le_of_ble_eq_true rfl) dX5_init_73 (fun H locs hW hS => ?_)
  have hW : CW z G W0 [(a, .inr (8, [.ref q1, .ref q2, .ref q3, .ref q4, .ref q5, .ref q6, .ref q7, .ref q8, .null, .int 0, .int 0, .int 0, .int 0])), (q1, .inr (2, [.int 0, .ref G.2.2.1, .int 0])), (q2, .inl (G.2.1 0, 40, .inl (fun _ => 0))), (q3, .inl (G.2.1 0, 40, .inl (fun _ => 0))), (q4, .inl (G.2.1 2, 40, .inr (.inr (.inr (.inr (fun _ => none)))))), (q5, .inl (G.2.1 0, 20, .inl (fun _ => 0))), (q6, .inl (G.2.1 0, 20, .inl (fun _ => 0))), (q7, .inl (G.2.1 3, 20, .inr (.inr (.inr (.inr (fun _ => none)))))), (q8, .inr (7, [.ref w8, .ref s8, .int 0])), (w8, .inl (G.2.1 0, 12, .inl (fun _ => 0))), (s8, .inl (G.2.1 0, 12, .inl (fun _ => 0)))] H := hW
  refine lv_aload_n hx hb dX5_init_76 rfl (lv_at hl 0 rfl) ?_
  refine lv_bipush (v := (20 : Int32)) hx hb dX5_init_77 (by decide) ?_
  refine c_newa (atype := .int) (ty := .int) (cB := G.2.1 0) hx hb hE hz hW hS (hts (.arrayClass .int) (List.mem_of_getElem? (i := 8) rfl)) 0 rfl rfl (fun _ => uni_int) (N' := 20) (a0 := (20, .inl (fun _ => 0))) (fun _ => rfl) (by decide) (by decide) (by decide) (Nat.le_of_ble_eq_true rfl) (Nat.le_of_ble_eq_true rfl) dX5_init_79 (fun q9 H hW hS => ?_)
  have hW : CW z G W0 [(a, .inr (8, [.ref q1, .ref q2, .ref q3, .ref q4, .ref q5, .ref q6, .ref q7, .ref q8, .null, .int 0, .int 0, .int 0, .int 0])), (q1, .inr (2, [.int 0, .ref G.2.2.1, .int 0])), (q2, .inl (G.2.1 0, 40, .inl (fun _ => 0))), (q3, .inl (G.2.1 0, 40, .inl (fun _ => 0))), (q4, .inl (G.2.1 2, 40, .inr (.inr (.inr (.inr (fun _ => none)))))), (q5, .inl (G.2.1 0, 20, .inl (fun _ => 0))), (q6, .inl (G.2.1 0, 20, .inl (fun _ => 0))), (q7, .inl (G.2.1 3, 20, .inr (.inr (.inr (.inr (fun _ => none)))))), (q8, .inr (7, [.ref w8, .ref s8, .int 0])), (w8, .inl (G.2.1 0, 12, .inl (fun _ => 0))), (s8, .inl (G.2.1 0, 12, .inl (fun _ => 0))), (q9, .inl (G.2.1 0, 20, .inl (fun _ => 0)))] H := hW
  refine c_putF (C := RX5) (T := TX5) (N := 13) (v := .ref q9) (ty := .array (.int)) hx hb hts hown hE hW hS 0 rfl rfl (fun w h => List.mem_cons_of_mem _ (List.mem_append_left _ (List.mem_append_right _ h))) tyX5_ok nmX5 8 (by decide) (List.mem_of_getElem? (i := 20) rfl) rfl rfl hin rfl (by decide +kernel) rfl rfl (Nat.le_of_ble_eq_true rfl) dX5_init_81 (fun H locs hW hS => ?_)
  have hW : CW z G W0 [(a, .inr (8, [.ref q1, .ref q2, .ref q3, .ref q4, .ref q5, .ref q6, .ref q7, .ref q8, .ref q9, .int 0, .int 0, .int 0, .int 0])), (q1, .inr (2, [.int 0, .ref G.2.2.1, .int 0])), (q2, .inl (G.2.1 0, 40, .inl (fun _ => 0))), (q3, .inl (G.2.1 0, 40, .inl (fun _ => 0))), (q4, .inl (G.2.1 2, 40, .inr (.inr (.inr (.inr (fun _ => none)))))), (q5, .inl (G.2.1 0, 20, .inl (fun _ => 0))), (q6, .inl (G.2.1 0, 20, .inl (fun _ => 0))), (q7, .inl (G.2.1 3, 20, .inr (.inr (.inr (.inr (fun _ => none)))))), (q8, .inr (7, [.ref w8, .ref s8, .int 0])), (w8, .inl (G.2.1 0, 12, .inl (fun _ => 0))), (s8, .inl (G.2.1 0, 12, .inl (fun _ => 0))), (q9, .inl (G.2.1 0, 20, .inl (fun _ => 0)))] H := hW
  refine lv_aload_n hx hb dX5_init_84 rfl (lv_at hl 0 rfl) ?_
  refine lv_iconst (v := (0 : Int32)) hx hb dX5_init_85 (by decide) ?_
  refine c_put (C := RX5) (T := TX5) (N := 13) (v := .int 0) (ty := .int) hx hb hts hown hE hW hS 0 rfl rfl (fun w h => List.mem_cons_of_mem _ (List.mem_append_left _ (List.mem_append_right _ h))) tyX5_ok nmX5 9 (by decide) (List.mem_of_getElem? (i := 21) rfl) rfl rfl (by decide +kernel) rfl rfl (Nat.le_of_ble_eq_true rfl) dX5_init_86 (fun H locs hW hS => ?_)
  have hW : CW z G W0 [(a, .inr (8, [.ref q1, .ref q2, .ref q3, .ref q4, .ref q5, .ref q6, .ref q7, .ref q8, .ref q9, .int 0, .int 0, .int 0, .int 0])), (q1, .inr (2, [.int 0, .ref G.2.2.1, .int 0])), (q2, .inl (G.2.1 0, 40, .inl (fun _ => 0))), (q3, .inl (G.2.1 0, 40, .inl (fun _ => 0))), (q4, .inl (G.2.1 2, 40, .inr (.inr (.inr (.inr (fun _ => none)))))), (q5, .inl (G.2.1 0, 20, .inl (fun _ => 0))), (q6, .inl (G.2.1 0, 20, .inl (fun _ => 0))), (q7, .inl (G.2.1 3, 20, .inr (.inr (.inr (.inr (fun _ => none)))))), (q8, .inr (7, [.ref w8, .ref s8, .int 0])), (w8, .inl (G.2.1 0, 12, .inl (fun _ => 0))), (s8, .inl (G.2.1 0, 12, .inl (fun _ => 0))), (q9, .inl (G.2.1 0, 20, .inl (fun _ => 0)))] H := hW
  refine lv_aload_n hx hb dX5_init_89 rfl (lv_at hl 0 rfl) ?_
  refine lv_iconst (v := (0 : Int32)) hx hb dX5_init_90 (by decide) ?_
  refine c_put (C := RX5) (T := TX5) (N := 13) (v := .int 0) (ty := .int) hx hb hts hown hE hW hS 0 rfl rfl (fun w h => List.mem_cons_of_mem _ (List.mem_append_left _ (List.mem_append_right _ h))) tyX5_ok nmX5 10 (by decide) (List.mem_of_getElem? (i := 22) rfl) rfl rfl (by decide +kernel) rfl rfl (Nat.le_of_ble_eq_true rfl) dX5_init_91 (fun H locs hW hS => ?_)
  have hW : CW z G W0 [(a, .inr (8, [.ref q1, .ref q2, .ref q3, .ref q4, .ref q5, .ref q6, .ref q7, .ref q8, .ref q9, .int 0, .int 0, .int 0, .int 0])), (q1, .inr (2, [.int 0, .ref G.2.2.1, .int 0])), (q2, .inl (G.2.1 0, 40, .inl (fun _ => 0))), (q3, .inl (G.2.1 0, 40, .inl (fun _ => 0))), (q4, .inl (G.2.1 2, 40, .inr (.inr (.inr (.inr (fun _ => none)))))), (q5, .inl (G.2.1 0, 20, .inl (fun _ => 0))), (q6, .inl (G.2.1 0, 20, .inl (fun _ => 0))), (q7, .inl (G.2.1 3, 20, .inr (.inr (.inr (.inr (fun _ => none)))))), (q8, .inr (7, [.ref w8, .ref s8, .int 0])), (w8, .inl (G.2.1 0, 12, .inl (fun _ => 0))), (s8, .inl (G.2.1 0, 12, .inl (fun _ => 0))), (q9, .inl (G.2.1 0, 20, .inl (fun _ => 0)))] H := hW
  refine lv_aload_n hx hb dX5_init_94 rfl (lv_at hl 0 rfl) ?_
  refine lv_iconst (v := (0 : Int32)) hx hb dX5_init_95 (by decide) ?_
  refine c_put (C := RX5) (T := TX5) (N := 13) (v := .int 0) (ty := .int) hx hb hts hown hE hW hS 0 rfl rfl (fun w h => List.mem_cons_of_mem _ (List.mem_append_left _ (List.mem_append_right _ h))) tyX5_ok nmX5 11 (by decide) (List.mem_of_getElem? (i := 23) rfl) rfl rfl (by decide +kernel) rfl rfl (Nat.le_of_ble_eq_true rfl) dX5_init_96 (fun H locs hW hS => ?_)
  have hW : CW z G W0 [(a, .inr (8, [.ref q1, .ref q2, .ref q3, .ref q4, .ref q5, .ref q6, .ref q7, .ref q8, .ref q9, .int 0, .int 0, .int 0, .int 0])), (q1, .inr (2, [.int 0, .ref G.2.2.1, .int 0])), (q2, .inl (G.2.1 0, 40, .inl (fun _ => 0))), (q3, .inl (G.2.1 0, 40, .inl (fun _ => 0))), (q4, .inl (G.2.1 2, 40, .inr (.inr (.inr (.inr (fun _ => none)))))), (q5, .inl (G.2.1 0, 20, .inl (fun _ => 0))), (q6, .inl (G.2.1 0, 20, .inl (fun _ => 0))), (q7, .inl (G.2.1 3, 20, .inr (.inr (.inr (.inr (fun _ => none)))))), (q8, .inr (7, [.ref w8, .ref s8, .int 0])), (w8, .inl (G.2.1 0, 12, .inl (fun _ => 0))), (s8, .inl (G.2.1 0, 12, .inl (fun _ => 0))), (q9, .inl (G.2.1 0, 20, .inl (fun _ => 0)))] H := hW
  refine lv_aload_n hx hb dX5_init_99 rfl (lv_at hl 0 rfl) ?_
  refine lv_iconst (v := (0 : Int32)) hx hb dX5_init_100 (by decide) ?_
  refine c_put (C := RX5) (T := TX5) (N := 13) (v := .int 0) (ty := .int) hx hb hts hown hE hW hS 0 rfl rfl (fun w h => List.mem_cons_of_mem _ (List.mem_append_left _ (List.mem_append_right _ h))) tyX5_ok nmX5 12 (by decide) (List.mem_of_getElem? (i := 24) rfl) rfl rfl (by decide +kernel) rfl rfl (Nat.le_of_ble_eq_true rfl) dX5_init_101 (fun H locs hW hS => ?_)
  have hW : CW z G W0 [(a, .inr (8, [.ref q1, .ref q2, .ref q3, .ref q4, .ref q5, .ref q6, .ref q7, .ref q8, .ref q9, .int 0, .int 0, .int 0, .int 0])), (q1, .inr (2, [.int 0, .ref G.2.2.1, .int 0])), (q2, .inl (G.2.1 0, 40, .inl (fun _ => 0))), (q3, .inl (G.2.1 0, 40, .inl (fun _ => 0))), (q4, .inl (G.2.1 2, 40, .inr (.inr (.inr (.inr (fun _ => none)))))), (q5, .inl (G.2.1 0, 20, .inl (fun _ => 0))), (q6, .inl (G.2.1 0, 20, .inl (fun _ => 0))), (q7, .inl (G.2.1 3, 20, .inr (.inr (.inr (.inr (fun _ => none)))))), (q8, .inr (7, [.ref w8, .ref s8, .int 0])), (w8, .inl (G.2.1 0, 12, .inl (fun _ => 0))), (s8, .inl (G.2.1 0, 12, .inl (fun _ => 0))), (q9, .inl (G.2.1 0, 20, .inl (fun _ => 0)))] H := hW
  refine lv_iconst (v := (0 : Int32)) hx hb dX5_init_104 (by decide) ?_
  refine lv_istore_n (lv' := [(1, .int (nI 0)), (0, .ref a)]) hx hb dX5_init_105 rfl hl (by decide) rfl (fun ls hl => ?_)
  refine L106 20 0 (bb9 q1 q2 q3 q4 q5 q6 q7 q8 q9 w8 s8) (fun _ => (0, 0, 0)) H locs ls (by omega) ?_ hS (lv_sub hl [1, 0] rfl)
  unfold vx5
  rw [tar_0]
  exact hW
