/-! the law from its entry, out of the text of the whole row. -/
theorem str_uni : ∀ q ∈ STR, ∀ q' ∈ STR, q.1 = q'.1 → q = q' := by decide +kernel
set_option maxHeartbeats 4000000 in
set_option maxRecDepth 100000 in
theorem str_tbl : ∀ q ∈ STR, Cond.stringRef RX6 q.1 q.2 ∈ lw_tbl := by decide +kernel
set_option maxHeartbeats 4000000 in
set_option maxRecDepth 100000 in
/-- what the tables and the Statement give of the machine -/
theorem ev_start {p : Program} {s : State} {m : MethodId} {meth : Method} {c : Code} {b L : Nat} {xs : Nat → Int32} (C0 : lw_At p s m meth c b L xs) : ∃ G : Gl, Ev s.heap.size G s := by
  obtain ⟨hx, hb, hr, hml, hown, hts, hX, hbl, hlocks, hgv⟩ := C0
  have hA : ∀ a : Nat, a < s.heap.size → ¬ Az s.heap.size a := fun a h => Nat.not_le.mpr h
  have hg := flat_of_before _ hgv
  obtain ⟨c0, i0, k0⟩ := u_known (C := RJ0) (T := TJ0) (N := 4) (n := 4) hts (by decide +kernel) (hts (.instantiable RJ0 4) (by decide +kernel))
  obtain ⟨c1, i1, k1⟩ := u_known (C := RJ4) (T := TJ4) (N := 4) (n := 4) hts (by decide +kernel) (hts (.instantiable RJ4 4) (by decide +kernel))
  obtain ⟨c2, i2, k2⟩ := u_known (C := RJx4a65c) (T := TJx4a65c) (N := 3) (n := 3) hts inJx4a65c (hts (.instantiable RJx4a65c 3) (by decide +kernel))
  obtain ⟨c3, i3, k3⟩ := u_known (C := RX0) (T := TX0) (N := 13) (n := 13) hts inX0 (hts (.instantiable RX0 13) (by decide +kernel))
  obtain ⟨c4, i4, k4⟩ := u_known (C := RX1) (T := TX1) (N := 3) (n := 3) hts inX1 (hts (.instantiable RX1 3) (by decide +kernel))
  obtain ⟨c5, i5, k5⟩ := u_known (C := RX2) (T := TX2) (N := 2) (n := 2) hts inX2 (hts (.instantiable RX2 2) (by decide +kernel))
  obtain ⟨c6, i6, k6⟩ := u_known (C := RX3) (T := TX3) (N := 4) (n := 4) hts inX3 (hts (.instantiable RX3 4) (by decide +kernel))
  obtain ⟨c7, i7, k7⟩ := u_known (C := RX4) (T := TX4) (N := 3) (n := 3) hts inX4 (hts (.instantiable RX4 3) (by decide +kernel))
  obtain ⟨c8, i8, k8⟩ := u_known (C := RX5) (T := TX5) (N := 13) (n := 13) hts inX5 (hts (.instantiable RX5 13) (by decide +kernel))
  obtain ⟨c9, i9, k9⟩ := u_known (C := RX6) (T := TX6) (N := 8) (n := 8) hts inX6 (hts (.instantiable RX6 8) (by decide +kernel))
  obtain ⟨a0, ka0, m0, e0, f0, g0⟩ := Cond.arrayClass_spec (hts (.arrayClass .int) (by decide +kernel))
  obtain ⟨m2, a2, ka2, e2, -, f2, g2, h2⟩ := Cond.arrayOver_spec (hts (.arrayOver (.object RX2)) (by decide +kernel))
  obtain ⟨m3, a3, ka3, e3, -, f3, g3, h3⟩ := Cond.arrayOver_spec (hts (.arrayOver (.object RX4)) (by decide +kernel))
  obtain ⟨m4, a4, ka4, e4, -, f4, g4, h4⟩ := Cond.arrayOver_spec (hts (.arrayOver (.object "java/lang/Object")) (by decide +kernel))
  obtain ⟨t9, ht9, hT9⟩ := va_Tof (tm := .static RJx4a65c "DEFAULTCAPACITY_EMPTY_ELEMENTDATA" "[Ljava/lang/Object;") (ty := .object "java/lang/Object") (N := 0) (f := fun _ => .null) (by decide) (hg (.arrayOf (.static RJx4a65c "DEFAULTCAPACITY_EMPTY_ELEMENTDATA" "[Ljava/lang/Object;") (.object "java/lang/Object")) (by decide +kernel)) (va_eqt (hg (.eq (.length (.static RJx4a65c "DEFAULTCAPACITY_EMPTY_ELEMENTDATA" "[Ljava/lang/Object;")) (.int 0)) (by decide +kernel))) (fun j hj => absurd hj (Nat.not_lt_zero _)) hA
  have hstr : ∀ k : Nat, ∃ a : Nat, ∀ q ∈ STR, q.1 = k → vk_R RX6 q.1 q.2 a s := by
    intro k
    by_cases h : ∃ q ∈ STR, q.1 = k
    · obtain ⟨q, hq, rfl⟩ := h
      obtain ⟨-, -, -, a, -, -, -, -, -, hev⟩ := Cond.stringRef_spec k9.2.1 (hts _ (str_tbl q hq))
      refine ⟨a, fun q' hq' e => ?_⟩
      obtain rfl := str_uni q' hq' q hq e
      exact vk_R.of (hts _ (str_tbl q' hq')) hev
    · exact ⟨0, fun q hq e => absurd ⟨q, hq, e⟩ h⟩
  obtain ⟨sa, hsa⟩ := Classical.skolem.mp hstr
  let dC : Nat → ClassId := fun k => match k with
    | 0 => c0
    | 1 => c1
    | 2 => c2
    | 3 => c3
    | 4 => c4
    | 5 => c5
    | 6 => c6
    | 7 => c7
    | 8 => c8
    | _ => c9
  let dI : Nat → Nat → Nat := fun k => match k with
    | 0 => i0
    | 1 => i1
    | 2 => i2
    | 3 => i3
    | 4 => i4
    | 5 => i5
    | 6 => i6
    | 7 => i7
    | 8 => i8
    | _ => i9
  let aC : Nat → ClassId := fun k => match k with
    | 0 => a0
    | 1 => a0
    | 2 => a2
    | 3 => a3
    | 4 => a4
    | _ => a0
  refine ⟨((dC, dI), aC, t9, sa), ⟨?_, ?_⟩, ?_, hT9, ?_, ?_, fun q hq => hsa q.1 q hq rfl, ?_, ?_, ?_, ?_, ?_, ?_, ?_⟩
  · intro k q hq
    match k, hq with
    | 0, hq =>
      obtain rfl : (RJ0, TJ0, 4) = q := Option.some.inj hq
      exact k0
    | 1, hq =>
      obtain rfl : (RJ4, TJ4, 4) = q := Option.some.inj hq
      exact k1
    | 2, hq =>
      obtain rfl : (RJx4a65c, TJx4a65c, 3) = q := Option.some.inj hq
      exact k2
    | 3, hq =>
      obtain rfl : (RX0, TX0, 13) = q := Option.some.inj hq
      exact k3
    | 4, hq =>
      obtain rfl : (RX1, TX1, 3) = q := Option.some.inj hq
      exact k4
    | 5, hq =>
      obtain rfl : (RX2, TX2, 2) = q := Option.some.inj hq
      exact k5
    | 6, hq =>
      obtain rfl : (RX3, TX3, 4) = q := Option.some.inj hq
      exact k6
    | 7, hq =>
      obtain rfl : (RX4, TX4, 3) = q := Option.some.inj hq
      exact k7
    | 8, hq =>
      obtain rfl : (RX5, TX5, 13) = q := Option.some.inj hq
      exact k8
    | 9, hq =>
      obtain rfl : (RX6, TX6, 8) = q := Option.some.inj hq
      exact k9
    | k + 10, hq => simp [vwCl] at hq
  · intro k q hq
    match k, hq with
    | 0, hq =>
      obtain rfl : (aC 0, (.int : FieldType)) = q := Option.some.inj hq
      exact ⟨fun n z => ⟨fun k h => (by cases h), ka0, f0, m0, g0⟩, e0⟩
    | 1, hq =>
      obtain rfl : (aC 1, (.int : FieldType)) = q := Option.some.inj hq
      exact ⟨fun n z => ⟨fun k h => (by cases h), ka0, f0, m0, g0⟩, e0⟩
    | 2, hq =>
      obtain rfl : (aC 2, (.object RX2 : FieldType)) = q := Option.some.inj hq
      exact ⟨fun n z => ⟨fun k h => (by cases h), ka2, f2, m2, g2⟩, ka2, m2, f2, g2, e2, h2⟩
    | 3, hq =>
      obtain rfl : (aC 3, (.object RX4 : FieldType)) = q := Option.some.inj hq
      exact ⟨fun n z => ⟨fun k h => (by cases h), ka3, f3, m3, g3⟩, ka3, m3, f3, g3, e3, h3⟩
    | 4, hq =>
      obtain rfl : (aC 4, (.object "java/lang/Object" : FieldType)) = q := Option.some.inj hq
      exact ⟨fun n z => ⟨fun k h => (by cases h), ka4, f4, m4, g4⟩, ka4, m4, f4, g4, e4, h4⟩
    | 5, hq =>
      obtain rfl : (aC 5, (.int : FieldType)) = q := Option.some.inj hq
      exact ⟨fun n z => ⟨fun k h => (by cases h), ka0, f0, m0, g0⟩, e0⟩
    | k + 6, hq => simp [TY] at hq
  · exact va_Zof (hts (.laysStatic RJx4a65c "DEFAULTCAPACITY_EMPTY_ELEMENTDATA" "[Ljava/lang/Object;") (by decide +kernel)) (hts (.initialized RJx4a65c) (by decide +kernel)) ht9 hA
  · exact vx_Zqof (hts (.laysStatic Bundle.tN "UNASSIGNED_STACK" Bundle.steD) (by decide +kernel)) (hts (.initialized Bundle.tN) (by decide +kernel)) (hg (.isRef (.static Bundle.tN "UNASSIGNED_STACK" Bundle.steD)) (by decide +kernel)) hA
  · exact vx_Zqof (hts (.laysStatic Bundle.tN "SUPPRESSED_SENTINEL" Bundle.listD) (by decide +kernel)) (hts (.initialized Bundle.tN) (by decide +kernel)) (hg (.isRef (.static Bundle.tN "SUPPRESSED_SENTINEL" Bundle.listD)) (by decide +kernel)) hA
  · have h : ∀ q ∈ CAS.tail, Cond.castable q.1 q.2 ∈ lw_tbl := by decide +kernel
    have hf := k3.2.1
    have ha := va_assign k3.2
    have h0 : (Cond.castable RX0 RX0).before #[] s = true := by
      simp [Cond.before, Cond.holds, Cond.value, hf, ha]
    intro q hq
    rcases List.mem_cons.mp hq with rfl | hq
    · exact h0
    · exact va_Nw.of rfl (hts _ (h q hq))
  · have h : ∀ q ∈ NCA, Cond.not (.castable q.1 q.2) ∈ flatC (Cond.and given_1 narrow_1) := by decide +kernel
    exact fun q hq => va_Nc.of (hg _ (h q hq))
  · have h : ∀ q ∈ AOV, Cond.arrayOver (.object q) ∈ lw_tbl := by decide +kernel
    exact fun q hq => va_AO.of (hts _ (h q hq))
  · exact va_Mi.of (hg (.isRef (.mirror "[Ljava/lang/Object;")) (by decide +kernel))
  · have h : ∀ q ∈ DCL, Cond.declares q ∈ lw_tbl := by decide +kernel
    exact fun q hq => va_Nw.of rfl (hts _ (h q hq))
  · have h : ∀ q ∈ NST, Cond.fieldLinkNest q.1 q.2.1 q.2.2.1 q.2.2.2.1 q.2.2.2.2.1 q.2.2.2.2.2 ∈ lw_tbl := by decide +kernel
    exact fun q hq => va_Nw.of rfl (hts _ (h q hq))
  · have h : ∀ q ∈ NSM, Cond.methodLinkNest q.1 q.2.1 q.2.2.1 q.2.2.2 ∈ lw_tbl := by decide +kernel
    exact fun q hq => va_Nw.of rfl (hts _ (h q hq))
set_option maxHeartbeats 4000000 in
set_option maxRecDepth 100000 in
theorem whole_start {p : Program} {e : Env} {s : State} {m : MethodId} {below : List Frame} {meth : Method} {c : Code} (l : Launch) (hflags : l.flags = flags0) {b L : Nat} {xs : Nat → Int32} (hL : L ≤ 260) (C0 : lw_At p s m meth c b L xs) : W p l e room_1 s m #[Value.ref b] below meth c s.heap [] 0 0 (lw_Z below #[Value.ref b] s) (entryFrame m ([Value.ref b] : List Value).toArray 23) := by
  obtain ⟨G, hE⟩ := ev_start C0
  obtain ⟨hx, hb, hr, hml, hown, hts, hX, hbl, hlocks, hgv⟩ := id C0
  have hlt : l.stackTraces = false := by
    unfold Launch.stackTraces
    rw [hflags]
    decide +kernel
  have hown : s.vm.findClass RL = some m.cls := hown
  have hb : c.code = cL_law := hb
  have ht2 : ∀ w ∈ wsL_law, w.before #[Value.ref b] s = true := fun w h => hts w (wsL_law_in w h)
  obtain ⟨z, hze⟩ : ∃ z : Nat, z = s.heap.size := ⟨_, rfl⟩
  rw [← hze] at hE
  have hz : z ≤ s.heap.size := by omega
  have X : LCX p l e s m below meth c b L xs z G := ⟨hx, hb, hml, hown, ht2, hE, hz, hlt, hX, hbl, by show ¬ z ≤ b; omega, hL, hr, hlocks, hze⟩
  have hS : va_S (Az z) s.heap s.heap [] := va_S.rf
  have hW : CW z G [] [] s.heap := ⟨fun k q h => by simp at h, fun i j p q h => by simp at h, fun k q h => by simp at h⟩
  have hl := lv_entry ([.ref b]) (n := 23) (Nat.le_of_ble_eq_true rfl)
  rw [lg_entry_eq]
  generalize (lg_sl ([.ref b]) ++ List.replicate (23 - (lg_sl ([.ref b])).length) Slot.unset).toArray = ls at hl ⊢
  have hl : lv_has ls 23 [(0, .ref b)] := hl
  refine c_new (C := RX6) (T := TX6) (N := 8) (ci := 9) (fs := [.null, .null, .null, .null, .int 0, .int 0, .int 0, .int 0]) hx hb hts hown hE hz hW hS inX6 tyX6_ok (index := 10) (by decide +kernel) (by decide +kernel) (by decide +kernel) rfl (fun j hj => by rcases (show j = 0 ∨ j = 1 ∨ j = 2 ∨ j = 3 ∨ j = 4 ∨ j = 5 ∨ j = 6 ∨ j = 7 by omega) with rfl | rfl | rfl | rfl | rfl | rfl | rfl | rfl <;> rfl) (Nat.le_of_ble_eq_true rfl) (Nat.le_of_ble_eq_true rfl) dL_law_0 (fun a H hW hS => ?_)
  have hW : CW z G [] [(a, .inr (9, [.null, .null, .null, .null, .int 0, .int 0, .int 0, .int 0]))] H := hW
  refine lv_dup hx hb dL_law_3 rfl ?_
  refine k_I (rest := [.ref a]) (As := []) ⟨hx, hb, hml, hown, ht2⟩ hE hz hS hW (miX6 l z G [] a) (cwI 0 ht2 gL_law_X6_init rfl rfl rfl (hts (.initialized RX6) (by decide +kernel)) (hts (.methodLink RL 123 yX6_init) (by decide +kernel)) (hts (.instanceMethod yX6_init) (by decide +kernel)) rfl (by decide +kernel) ⟨Nat.le_of_ble_eq_true rfl, Nat.le_of_ble_eq_true rfl⟩) rfl hl.1 rfl (Nat.le_of_ble_eq_true rfl) dL_law_4 ⟨Nat.le_of_ble_eq_true rfl, Nat.le_of_ble_eq_true rfl⟩ (fun U H locs hA hW hS => ?_)
  refine lv_astore_n (lv' := [(1, .ref a), (0, .ref b)]) hx hb dL_law_7 rfl hl (by decide) rfl (fun ls hl => ?_)
  refine lv_bipush (v := (14 : Int32)) hx hb dL_law_8 (by decide) ?_
  refine c_newa (atype := .int) (ty := .int) (cB := G.2.1 0) hx hb hE hz hW hS (hts (.arrayClass .int) (by decide +kernel)) 0 rfl rfl (fun _ => uni_int) (N' := 14) (a0 := (14, .inl (fun _ => 0))) (fun _ => rfl) (by decide) (by decide) (by decide) (Nat.le_of_ble_eq_true rfl) (Nat.le_of_ble_eq_true rfl) dL_law_10 (fun m0 H hW hS => ?_)
  refine lv_astore_n (lv' := [(2, .ref m0), (1, .ref a), (0, .ref b)]) hx hb dL_law_12 rfl hl (by decide) rfl (fun ls hl => ?_)
  refine lv_bipush (v := (40 : Int32)) hx hb dL_law_13 (by decide) ?_
  refine c_newa (atype := .int) (ty := .int) (cB := G.2.1 0) hx hb hE hz hW hS (hts (.arrayClass .int) (by decide +kernel)) 0 rfl rfl (fun _ => uni_int) (N' := 40) (a0 := (40, .inl (fun _ => 0))) (fun _ => rfl) (by decide) (by decide) (by decide) (Nat.le_of_ble_eq_true rfl) (Nat.le_of_ble_eq_true rfl) dL_law_15 (fun m1 H hW hS => ?_)
  refine lv_astore_n (lv' := [(3, .ref m1), (2, .ref m0), (1, .ref a), (0, .ref b)]) hx hb dL_law_17 rfl hl (by decide) rfl (fun ls hl => ?_)
  refine lv_bipush (v := (40 : Int32)) hx hb dL_law_18 (by decide) ?_
  refine c_newa (atype := .int) (ty := .int) (cB := G.2.1 0) hx hb hE hz hW hS (hts (.arrayClass .int) (by decide +kernel)) 0 rfl rfl (fun _ => uni_int) (N' := 40) (a0 := (40, .inl (fun _ => 0))) (fun _ => rfl) (by decide) (by decide) (by decide) (Nat.le_of_ble_eq_true rfl) (Nat.le_of_ble_eq_true rfl) dL_law_20 (fun m2 H hW hS => ?_)
  refine lv_astore (lv' := [(4, .ref m2), (3, .ref m1), (2, .ref m0), (1, .ref a), (0, .ref b)]) hx hb dL_law_22 hl (by decide) rfl (fun ls hl => ?_)
  refine lv_bipush (v := (40 : Int32)) hx hb dL_law_24 (by decide) ?_
  refine c_newa (atype := .int) (ty := .int) (cB := G.2.1 0) hx hb hE hz hW hS (hts (.arrayClass .int) (by decide +kernel)) 0 rfl rfl (fun _ => uni_int) (N' := 40) (a0 := (40, .inl (fun _ => 0))) (fun _ => rfl) (by decide) (by decide) (by decide) (Nat.le_of_ble_eq_true rfl) (Nat.le_of_ble_eq_true rfl) dL_law_26 (fun m3 H hW hS => ?_)
  refine lv_astore (lv' := [(5, .ref m3), (4, .ref m2), (3, .ref m1), (2, .ref m0), (1, .ref a), (0, .ref b)]) hx hb dL_law_28 hl (by decide) rfl (fun ls hl => ?_)
  obtain ⟨ad, σ, ν, e1, e2, e3, e4, e5, hW, hZ⟩ := first_world hA hW
  exact law_main X (fun r => r = 1) (fun _ h => h) _ _ (by omega) (by omega) hW hS (by rw [e1, e2, e3, e4, e5]; exact lv_sub hl [5, 4, 3, 2, 1, 0] rfl) (q_law hZ (fun _ _ => rfl) rfl rfl rfl rfl rfl rfl rfl rfl rfl rfl rfl rfl)
