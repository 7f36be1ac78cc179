theorem narrow_bo {v : Int32} (h : v = 0 ∨ v = 1) : narrow .boolean (.int v) = .int v := by
  rcases h with rfl | rfl <;> rfl
theorem vp_lt {i : Int32} {n : Nat} (h : vp_in i n) : i.toNatClampNeg < n := Nat.not_le.mp fun q => h (Or.inr q)
theorem ti_eq {x y : Int32} : x.toInt = y.toInt ↔ x = y := Int32.toInt_inj
theorem ti_lt0 {x : Int32} : x.toInt < 0 ↔ x < 0 := by rw [Int32.lt_iff_toInt_lt, show (0 : Int32).toInt = 0 by decide]
theorem ti_le0 {x : Int32} : x.toInt ≤ 0 ↔ x ≤ 0 := by rw [Int32.le_iff_toInt_le, show (0 : Int32).toInt = 0 by decide]
section RC
variable {p : Program} {l : Launch} {e : Env} {R : Room} {s : State} {m : MethodId} {args : Array Value} {below : List Frame} {meth : Method} {c : Code} {H : Heap} {locs : List Loc} {cells slots : Nat} {Q : State → Prop}
variable {cc : ByteArray} {pc : Nat} {ls : Array Slot} {rest : List Value}
theorem r_icmp_eq (hx : p.tables.exec = Jvm.exec) (hb : c.code = cc) {x y : Int32} {a b : Int} (ea : x.toInt = a) (eb : y.toInt = b) {off : Int} {tgt : Nat} (hdg : decode cc pc = .ok (.if_icmp .eq off, 3)) (ht : (pc : Int) + off = (tgt : Int))
    (kt : a = b → W p l e R s m args below meth c H locs cells slots Q (F0 m tgt ls rest)) (kf : ¬ a = b → W p l e R s m args below meth c H locs cells slots Q (F0 m (pc + 3) ls rest)) : W p l e R s m args below meth c H locs cells slots Q (F0 m pc ls (.int y :: .int x :: rest)) := by
  subst ea eb
  have hc : (x.toInt = y.toInt) ↔ (x = y) := ti_eq
  exact lv_icmp_eq hx hb hdg ht (fun h => kt (hc.mpr h)) (fun h => kf (fun q => h (hc.mp q)))
theorem r_if_eq (hx : p.tables.exec = Jvm.exec) (hb : c.code = cc) {x : Int32} {a : Int} (ea : x.toInt = a) {off : Int} {tgt : Nat} (hdg : decode cc pc = .ok (.ifCond .eq off, 3)) (ht : (pc : Int) + off = (tgt : Int))
    (kt : a = 0 → W p l e R s m args below meth c H locs cells slots Q (F0 m tgt ls rest)) (kf : ¬ a = 0 → W p l e R s m args below meth c H locs cells slots Q (F0 m (pc + 3) ls rest)) : W p l e R s m args below meth c H locs cells slots Q (F0 m pc ls (.int x :: rest)) := by
  subst ea
  have hc : (x.toInt = 0) ↔ (x = 0) := ti_eq (y := 0)
  exact lv_if_eq hx hb hdg ht (fun h => kt (hc.mpr h)) (fun h => kf (fun q => h (hc.mp q)))
theorem r_icmp_ne (hx : p.tables.exec = Jvm.exec) (hb : c.code = cc) {x y : Int32} {a b : Int} (ea : x.toInt = a) (eb : y.toInt = b) {off : Int} {tgt : Nat} (hdg : decode cc pc = .ok (.if_icmp .ne off, 3)) (ht : (pc : Int) + off = (tgt : Int))
    (kt : ¬ a = b → W p l e R s m args below meth c H locs cells slots Q (F0 m tgt ls rest)) (kf : a = b → W p l e R s m args below meth c H locs cells slots Q (F0 m (pc + 3) ls rest)) : W p l e R s m args below meth c H locs cells slots Q (F0 m pc ls (.int y :: .int x :: rest)) := by
  subst ea eb
  have hc : (x.toInt = y.toInt) ↔ (x = y) := ti_eq
  exact lv_icmp_ne hx hb hdg ht (fun h => kt (fun q => h (hc.mp q))) (fun h => kf (hc.mpr h))
theorem r_if_ne (hx : p.tables.exec = Jvm.exec) (hb : c.code = cc) {x : Int32} {a : Int} (ea : x.toInt = a) {off : Int} {tgt : Nat} (hdg : decode cc pc = .ok (.ifCond .ne off, 3)) (ht : (pc : Int) + off = (tgt : Int))
    (kt : ¬ a = 0 → W p l e R s m args below meth c H locs cells slots Q (F0 m tgt ls rest)) (kf : a = 0 → W p l e R s m args below meth c H locs cells slots Q (F0 m (pc + 3) ls rest)) : W p l e R s m args below meth c H locs cells slots Q (F0 m pc ls (.int x :: rest)) := by
  subst ea
  have hc : (x.toInt = 0) ↔ (x = 0) := ti_eq (y := 0)
  exact lv_if_ne hx hb hdg ht (fun h => kt (fun q => h (hc.mp q))) (fun h => kf (hc.mpr h))
theorem r_icmp_lt (hx : p.tables.exec = Jvm.exec) (hb : c.code = cc) {x y : Int32} {a b : Int} (ea : x.toInt = a) (eb : y.toInt = b) {off : Int} {tgt : Nat} (hdg : decode cc pc = .ok (.if_icmp .lt off, 3)) (ht : (pc : Int) + off = (tgt : Int))
    (kt : a < b → W p l e R s m args below meth c H locs cells slots Q (F0 m tgt ls rest)) (kf : ¬ a < b → W p l e R s m args below meth c H locs cells slots Q (F0 m (pc + 3) ls rest)) : W p l e R s m args below meth c H locs cells slots Q (F0 m pc ls (.int y :: .int x :: rest)) := by
  subst ea eb
  have hc : (x.toInt < y.toInt) ↔ (x < y) := Int32.lt_iff_toInt_lt.symm
  exact lv_icmp_lt hx hb hdg ht (fun h => kt (hc.mpr h)) (fun h => kf (fun q => h (hc.mp q)))
theorem r_if_lt (hx : p.tables.exec = Jvm.exec) (hb : c.code = cc) {x : Int32} {a : Int} (ea : x.toInt = a) {off : Int} {tgt : Nat} (hdg : decode cc pc = .ok (.ifCond .lt off, 3)) (ht : (pc : Int) + off = (tgt : Int))
    (kt : a < 0 → W p l e R s m args below meth c H locs cells slots Q (F0 m tgt ls rest)) (kf : ¬ a < 0 → W p l e R s m args below meth c H locs cells slots Q (F0 m (pc + 3) ls rest)) : W p l e R s m args below meth c H locs cells slots Q (F0 m pc ls (.int x :: rest)) := by
  subst ea
  have hc : (x.toInt < 0) ↔ (x < 0) := ti_lt0
  exact lv_if_lt hx hb hdg ht (fun h => kt (hc.mpr h)) (fun h => kf (fun q => h (hc.mp q)))
theorem r_icmp_ge (hx : p.tables.exec = Jvm.exec) (hb : c.code = cc) {x y : Int32} {a b : Int} (ea : x.toInt = a) (eb : y.toInt = b) {off : Int} {tgt : Nat} (hdg : decode cc pc = .ok (.if_icmp .ge off, 3)) (ht : (pc : Int) + off = (tgt : Int))
    (kt : ¬ a < b → W p l e R s m args below meth c H locs cells slots Q (F0 m tgt ls rest)) (kf : a < b → W p l e R s m args below meth c H locs cells slots Q (F0 m (pc + 3) ls rest)) : W p l e R s m args below meth c H locs cells slots Q (F0 m pc ls (.int y :: .int x :: rest)) := by
  subst ea eb
  have hc : (x.toInt < y.toInt) ↔ (x < y) := Int32.lt_iff_toInt_lt.symm
  exact lv_icmp_ge hx hb hdg ht (fun h => kt (fun q => absurd (hc.mp q) (Int32.not_lt.mpr h))) (fun h => kf (hc.mpr (Int32.not_le.mp h)))
theorem r_if_ge (hx : p.tables.exec = Jvm.exec) (hb : c.code = cc) {x : Int32} {a : Int} (ea : x.toInt = a) {off : Int} {tgt : Nat} (hdg : decode cc pc = .ok (.ifCond .ge off, 3)) (ht : (pc : Int) + off = (tgt : Int))
    (kt : ¬ a < 0 → W p l e R s m args below meth c H locs cells slots Q (F0 m tgt ls rest)) (kf : a < 0 → W p l e R s m args below meth c H locs cells slots Q (F0 m (pc + 3) ls rest)) : W p l e R s m args below meth c H locs cells slots Q (F0 m pc ls (.int x :: rest)) := by
  subst ea
  have hc : (x.toInt < 0) ↔ (x < 0) := ti_lt0
  exact lv_if_ge hx hb hdg ht (fun h => kt (fun q => absurd (hc.mp q) (Int32.not_lt.mpr h))) (fun h => kf (hc.mpr (Int32.not_le.mp h)))
theorem r_icmp_gt (hx : p.tables.exec = Jvm.exec) (hb : c.code = cc) {x y : Int32} {a b : Int} (ea : x.toInt = a) (eb : y.toInt = b) {off : Int} {tgt : Nat} (hdg : decode cc pc = .ok (.if_icmp .gt off, 3)) (ht : (pc : Int) + off = (tgt : Int))
    (kt : ¬ a ≤ b → W p l e R s m args below meth c H locs cells slots Q (F0 m tgt ls rest)) (kf : a ≤ b → W p l e R s m args below meth c H locs cells slots Q (F0 m (pc + 3) ls rest)) : W p l e R s m args below meth c H locs cells slots Q (F0 m pc ls (.int y :: .int x :: rest)) := by
  subst ea eb
  have hc : (x.toInt ≤ y.toInt) ↔ (x ≤ y) := Int32.le_iff_toInt_le.symm
  exact lv_icmp_gt hx hb hdg ht (fun h => kt (fun q => absurd (hc.mp q) (Int32.not_le.mpr h))) (fun h => kf (hc.mpr (Int32.not_lt.mp h)))
theorem r_if_gt (hx : p.tables.exec = Jvm.exec) (hb : c.code = cc) {x : Int32} {a : Int} (ea : x.toInt = a) {off : Int} {tgt : Nat} (hdg : decode cc pc = .ok (.ifCond .gt off, 3)) (ht : (pc : Int) + off = (tgt : Int))
    (kt : ¬ a ≤ 0 → W p l e R s m args below meth c H locs cells slots Q (F0 m tgt ls rest)) (kf : a ≤ 0 → W p l e R s m args below meth c H locs cells slots Q (F0 m (pc + 3) ls rest)) : W p l e R s m args below meth c H locs cells slots Q (F0 m pc ls (.int x :: rest)) := by
  subst ea
  have hc : (x.toInt ≤ 0) ↔ (x ≤ 0) := ti_le0
  exact lv_if_gt hx hb hdg ht (fun h => kt (fun q => absurd (hc.mp q) (Int32.not_le.mpr h))) (fun h => kf (hc.mpr (Int32.not_lt.mp h)))
theorem r_icmp_le (hx : p.tables.exec = Jvm.exec) (hb : c.code = cc) {x y : Int32} {a b : Int} (ea : x.toInt = a) (eb : y.toInt = b) {off : Int} {tgt : Nat} (hdg : decode cc pc = .ok (.if_icmp .le off, 3)) (ht : (pc : Int) + off = (tgt : Int))
    (kt : a ≤ b → W p l e R s m args below meth c H locs cells slots Q (F0 m tgt ls rest)) (kf : ¬ a ≤ b → W p l e R s m args below meth c H locs cells slots Q (F0 m (pc + 3) ls rest)) : W p l e R s m args below meth c H locs cells slots Q (F0 m pc ls (.int y :: .int x :: rest)) := by
  subst ea eb
  have hc : (x.toInt ≤ y.toInt) ↔ (x ≤ y) := Int32.le_iff_toInt_le.symm
  exact lv_icmp_le hx hb hdg ht (fun h => kt (hc.mpr h)) (fun h => kf (fun q => h (hc.mp q)))
theorem r_if_le (hx : p.tables.exec = Jvm.exec) (hb : c.code = cc) {x : Int32} {a : Int} (ea : x.toInt = a) {off : Int} {tgt : Nat} (hdg : decode cc pc = .ok (.ifCond .le off, 3)) (ht : (pc : Int) + off = (tgt : Int))
    (kt : a ≤ 0 → W p l e R s m args below meth c H locs cells slots Q (F0 m tgt ls rest)) (kf : ¬ a ≤ 0 → W p l e R s m args below meth c H locs cells slots Q (F0 m (pc + 3) ls rest)) : W p l e R s m args below meth c H locs cells slots Q (F0 m pc ls (.int x :: rest)) := by
  subst ea
  have hc : (x.toInt ≤ 0) ↔ (x ≤ 0) := ti_le0
  exact lv_if_le hx hb hdg ht (fun h => kt (hc.mpr h)) (fun h => kf (fun q => h (hc.mp q)))
theorem r_goto (hx : p.tables.exec = Jvm.exec) (hb : c.code = cc) {off : Int} {tgt : Nat} (hdg : decode cc pc = .ok (.goto off, 3)) (ht : (pc : Int) + off = (tgt : Int)) (k : W p l e R s m args below meth c H locs cells slots Q (F0 m tgt ls rest)) : W p l e R s m args below meth c H locs cells slots Q (F0 m pc ls rest) := lv_goto hx hb hdg ht k
variable {z : Nat} {G : Gl} {ad : Nat → Nat → Nat} {S : St} {Ts : List Cond} {own ref C : String} {T : u_T} {N ci index : Nat} {σ : SG} {ν : NU} {ρ : RH} {lo : Int64}
/-- a number of an object of ours -/
theorem r_putC (hx : p.tables.exec = Jvm.exec) (hb : c.code = cc) (hts : ∀ w ∈ Ts, w.before args s = true) (hown : s.vm.findClass own = some m.cls) (hE : Ev z G s) (hW : WP z G ad (σ, ν, ρ, lo) H) (hS : va_S (Az z) s.heap H locs) (k o : Nat) (he : ex ν k o) {fl : (Nat → Int32) → List Value} (hc : ∀ t : SG, ct G ad (t, ν, ρ, lo) k o = .inr (ci, fl (t k o))) (hcl : vwCl[ci]? = some (C, T, N)) (hin : ∀ w ∈ u_ws C T N, w ∈ Ts)
    {ty0 : Nat → FieldType} (hty : ∀ k, k < N → parseFieldDescriptor (T k).2.2.1 = some (ty0 k)) (hnm : ∀ a, a < N → ∀ b, b < N → a ≠ b → (T a).2.1 ≠ (T b).2.1) (j : Nat) (hj : j < N)
    (hlink : Cond.fieldLink own index ref (T j).2.1 (T j).2.2.1 ∈ Ts) (hsame : (T j).1 = ref) (hfin : (T j).2.2.2 = false) (hd : parseFieldDescriptor (T j).2.2.1 = some .int) (hl : j < (fl (σ k o)).length) {x : Int32}
    (hf : fl (upd (σ k o) j x) = (fl (σ k o)).set j (.int x)) (hdg : decode cc pc = .ok (.putfield index, 3))
    (kk : ∀ (σ1 : SG), σ1 = u3 σ k o j x → ∀ (H1 : Heap) (locs1 : List Loc), WP z G ad (σ1, ν, ρ, lo) H1 → va_S (Az z) s.heap H1 locs1 → W p l e R s m args below meth c H1 locs1 cells slots Q (F0 m (pc + 3) ls rest)) : W p l e R s m args below meth c H locs cells slots Q (F0 m pc ls (.int x :: .ref (ad k o) :: rest)) :=
  r_put hx hb hts hown hE hW hS k o he (hc σ) hcl hin hty hnm j hj hlink hsame hfin hd rfl rfl hl (u3 σ k o j x, ν, ρ, lo) ((hc _).trans (by rw [u3_row, hf])) (fun _ _ => Iff.rfl) (fun _ _ _ h => ct_sg (u3_oth h)) hdg (kk _ rfl)
theorem r_iastC (hx : p.tables.exec = Jvm.exec) (hb : c.code = cc) (hE : Ev z G s) (hW : WP z G ad (σ, ν, ρ, lo) H) (hS : va_S (Az z) s.heap H locs) (k o : Nat) (he : ex ν k o) {n : Nat} (hc : ∀ t : SG, ct G ad (t, ν, ρ, lo) k o = .inl (G.2.1 0, n, .inl (t k o))) {i x : Int32} (hin : vp_in i n) (hdg : decode cc pc = .ok (.iastore, 1))
    (kk : ∀ (σ1 : SG), σ1 = u3 σ k o i.toNatClampNeg x → ∀ (H1 : Heap) (locs1 : List Loc), WP z G ad (σ1, ν, ρ, lo) H1 → va_S (Az z) s.heap H1 locs1 → W p l e R s m args below meth c H1 locs1 cells slots Q (F0 m (pc + 1) ls rest)) : W p l e R s m args below meth c H locs cells slots Q (F0 m pc ls (.int x :: .int i :: .ref (ad k o) :: rest)) :=
  r_iast hx hb hE hW hS k o he (hc σ) hin (u3 σ k o i.toNatClampNeg x, ν, ρ, lo) (hc _) u3_row (fun _ _ => Iff.rfl) (fun _ _ _ h => ct_sg (u3_oth h)) hdg (kk _ rfl)
/-- a row of the reference changes: the other cells stay -/
theorem ct_rh {ρ' : RH} {j : Nat} (h30 : fl_30 ad ν ρ' 0 (σ 30 0) = fl_30 ad ν ρ 0 (σ 30 0)) (h : ∀ a, a ≠ j → ρ' a = ρ a) : ∀ a b, ex ν a b → ¬ (a = 100 + j ∧ b = 0) → ct G ad (σ, ν, ρ', lo) a b = ct G ad (σ, ν, ρ, lo) a b := by
  intro a b he hn
  show ctr G ad ν ρ' lo a b (σ a b) = ctr G ad ν ρ lo a b (σ a b)
  unfold ctr
  split
  all_goals first
    | rfl
    | (have hb0 : b = 0 := he
       subst hb0
       rw [h30])
    | skip
  rename_i k
  have hk : b = 0 ∧ 100 ≤ a ∧ 0 < mlen (a - 100) := by
    revert he
    unfold ex
    split <;> first | contradiction | exact fun q => q
  rw [h (a - 100) (fun q => hn ⟨by omega, hk.1⟩)]

theorem r_iastM (hx : p.tables.exec = Jvm.exec) (hb : c.code = cc) (hE : Ev z G s) (hW : WP z G ad (σ, ν, ρ, lo) H) (hS : va_S (Az z) s.heap H locs) (j : Nat) {k : Nat} (hk : k = 100 + j) (he : ex ν k 0) {n : Nat} (hc : ∀ t : RH, ct G ad (σ, ν, t, lo) k 0 = .inl (G.2.1 0, n, .inl (t j))) (h30 : ∀ t : RH, (∀ a, a ≠ j → t a = ρ a) → fl_30 ad ν t 0 (σ 30 0) = fl_30 ad ν ρ 0 (σ 30 0)) {i x : Int32} (hin : vp_in i n) (hdg : decode cc pc = .ok (.iastore, 1))
    (kk : ∀ (ρ1 : RH), ρ1 = u2 ρ j i.toNatClampNeg x → ∀ (H1 : Heap) (locs1 : List Loc), WP z G ad (σ, ν, ρ1, lo) H1 → va_S (Az z) s.heap H1 locs1 → W p l e R s m args below meth c H1 locs1 cells slots Q (F0 m (pc + 1) ls rest)) : W p l e R s m args below meth c H locs cells slots Q (F0 m pc ls (.int x :: .int i :: .ref (ad k 0) :: rest)) := by
  subst hk
  exact r_iast hx hb hE hW hS (100 + j) 0 he (hc ρ) hin (σ, ν, u2 ρ j i.toNatClampNeg x, lo) (hc _) u2_row (fun _ _ => Iff.rfl) (ct_rh (h30 _ (fun a h => u2_oth h)) (fun a h => u2_oth h)) hdg (kk _ rfl)
theorem r_zastM (hx : p.tables.exec = Jvm.exec) (hb : c.code = cc) (hE : Ev z G s) (hW : WP z G ad (σ, ν, ρ, lo) H) (hS : va_S (Az z) s.heap H locs) (j : Nat) {k : Nat} (hk : k = 100 + j) (he : ex ν k 0) {n : Nat} (hc : ∀ t : RH, ct G ad (σ, ν, t, lo) k 0 = .inl (G.2.1 1, n, .inl (t j))) (h30 : ∀ t : RH, (∀ a, a ≠ j → t a = ρ a) → fl_30 ad ν t 0 (σ 30 0) = fl_30 ad ν ρ 0 (σ 30 0)) {i x : Int32} (hin : vp_in i n) (hdg : decode cc pc = .ok (.bastore, 1))
    (kk : ∀ (ρ1 : RH), ρ1 = u2 ρ j i.toNatClampNeg (vp_nar .boolean x) → ∀ (H1 : Heap) (locs1 : List Loc), WP z G ad (σ, ν, ρ1, lo) H1 → va_S (Az z) s.heap H1 locs1 → W p l e R s m args below meth c H1 locs1 cells slots Q (F0 m (pc + 1) ls rest)) : W p l e R s m args below meth c H locs cells slots Q (F0 m pc ls (.int x :: .int i :: .ref (ad k 0) :: rest)) := by
  subst hk
  exact r_zast hx hb hE hW hS (100 + j) 0 he (hc ρ) hin (σ, ν, u2 ρ j i.toNatClampNeg (vp_nar .boolean x), lo) (hc _) u2_row (fun _ _ => Iff.rfl) (ct_rh (h30 _ (fun a h => u2_oth h)) (fun a h => u2_oth h)) hdg (kk _ rfl)
theorem r_putM (hx : p.tables.exec = Jvm.exec) (hb : c.code = cc) (hts : ∀ w ∈ Ts, w.before args s = true) (hown : s.vm.findClass own = some m.cls) (hE : Ev z G s) (hW : WP z G ad (σ, ν, ρ, lo) H) (hS : va_S (Az z) s.heap H locs) (hin : ∀ w ∈ u_ws RX7 TX7 49, w ∈ Ts) (j : Nat) (hj : j < 49)
    (hlink : Cond.fieldLink own index ref (TX7 j).2.1 (TX7 j).2.2.1 ∈ Ts) (hsame : (TX7 j).1 = ref) (hfin : (TX7 j).2.2.2 = false) (hd : parseFieldDescriptor (TX7 j).2.2.1 = some .int) {x : Int32}
    (hf : fl_30 ad ν (u2 ρ j 0 x) 0 (σ 30 0) = (fl_30 ad ν ρ 0 (σ 30 0)).set j (.int x)) (h0 : mlen j = 0) (hdg : decode cc pc = .ok (.putfield index, 3))
    (kk : ∀ (ρ1 : RH), ρ1 = u2 ρ j 0 x → ∀ (H1 : Heap) (locs1 : List Loc), WP z G ad (σ, ν, ρ1, lo) H1 → va_S (Az z) s.heap H1 locs1 → W p l e R s m args below meth c H1 locs1 cells slots Q (F0 m (pc + 3) ls rest)) : W p l e R s m args below meth c H locs cells slots Q (F0 m pc ls (.int x :: .ref (ad 30 0) :: rest)) := by
  refine r_put (C := RX7) (T := TX7) (N := 49) (ci := 10) (fs := fl_30 ad ν ρ 0 (σ 30 0)) hx hb hts hown hE hW hS 30 0 rfl rfl rfl hin tyX7_ok nmX7 j hj hlink hsame hfin hd rfl rfl hj (σ, ν, u2 ρ j 0 x, lo) (congrArg (fun q => Sum.inr (10, q)) hf) (fun _ _ => Iff.rfl) ?_ hdg (kk _ rfl)
  intro a b he hn
  show ctr G ad ν (u2 ρ j 0 x) lo a b (σ a b) = ctr G ad ν ρ lo a b (σ a b)
  unfold ctr
  split
  all_goals first
    | rfl
    | exact absurd ⟨rfl, he⟩ hn
    | skip
  rename_i k
  have hk : b = 0 ∧ 100 ≤ a ∧ 0 < mlen (a - 100) := by
    revert he
    unfold ex
    split <;> first | contradiction | exact fun q => q
  rw [u2_oth (fun q : a - 100 = j => by rw [q, h0] at hk; exact absurd hk.2.2 (Nat.lt_irrefl 0))]
theorem r_recv (hE : Ev z G s) (hW : WP z G ad S H) (k o : Nat) (he : ex S.2.1 k o) {fs : List Value} (hc : ct G ad S k o = .inr (ci, fs)) (hcl : vwCl[ci]? = some (C, T, N)) : ∃ cell : Cell, H[ad k o]? = some cell ∧ cell.vm.isStatics = false ∧ s.vm.findClass C = some cell.cls := by
  obtain ⟨L, q, hL, hP, hD, hq, hq2⟩ := WP_at hW he
  rw [hc] at hq2
  exact va_recv hE.1 hP hcl hq2
theorem Bc.of {U : State} (hE : Ev z G s) (hz : z ≤ s.heap.size) (hW : WP z G ad S H) (hS : va_S (Az z) s.heap H locs) (hU : U.heap = H) (hw : s.WarmedH U.vm) : Bc z G ad S U := by
  refine ⟨?_, ?_, hE.warm hS hU hw⟩
  · rw [hU]; exact Nat.le_trans hz hS.1
  · rw [hU]; exact hW

theorem vx_callr9 {pc : Nat} {rest st0 : List Value} {a : Array Value} {A0 A1 : Nat → Prop} {H0 : Heap} {mc ms : Nat} {free : Addr → Prop} {X9 SX : Type} {post : X9 → Prop} {px : SX → Prop} {B : X9 → Nat → State → Prop} {BX : String → SX → State → Prop} {AX : Nat → Prop} (hr : vx_Run p l e R s m args below meth c H locs cells slots mc ms (F0 m pc ls st0) rest (va_Qr post B A1 a) (vx_X px BX AX) free) (hS : va_S A0 H0 H locs) (hA : ∀ q, q < H.size → A1 q → A0 q) (hf : ∀ q, free q → A0 q) (hAX : ∀ q, q < H.size → AX q → A0 q)
    (kx : ∀ (E : String) (ce : Cell) (q9 : Addr) (u : SX) (t : State) (H1 : Heap) (locs1 : List Loc), t.heap = H1 → s.vm.Alike t.vm → px u → BX E u t → H.size ≤ H1.size → (∀ q : Nat, q < H.size → ¬ AX q → H1[q]? = H[q]?) → va_S A0 H0 H1 locs1 → H1[q9]? = some ce → ce.vm = .none → s.vm.findClass E = some ce.cls → vx_W p l e R s m args below meth c H1 locs1 (cells + mc) (slots + ms) Q (F0 m pc ls rest) q9)
    (kk : ∀ (u : X9) (ra : Nat) (t : State) (H1 : Heap) (locs1 : List Loc), t.heap = H1 → s.vm.Alike t.vm → post u → B u ra t → H.size ≤ H1.size → (∀ q : Nat, q < H.size → ¬ A1 q → H1[q]? = H[q]?) → va_S A0 H0 H1 locs1 → W p l e R s m args below meth c H1 locs1 (cells + mc) (slots + ms) Q (F0 m (pc + 3) ls (.ref ra :: rest))) : W p l e R s m args below meth c H locs cells slots Q (F0 m pc ls st0) := by
  intro T hT X
  rcases hr T hT X with ⟨v, st₀, t, T', L, h0, X', hL, e1, e2, ⟨⟨u, ra, hv, hp, hb⟩, hF⟩, st⟩ | ⟨q, st₀, t, T', L, E, ce, h0, X', hL, e1, e2, ⟨u, hp, hb, hF⟩, hce, hcv, hcl, st⟩
  · cases hv
    obtain ⟨k1, k2, k3⟩ := vx_keep h0 e1 hS hA hf hL hF
    obtain ⟨t2, a1, b1⟩ := kk u ra t T'.heap (locs ++ L) e1.symm (by rw [← e2]; exact X'.warmed.alike) hp hb k1 k2 k3 T' rfl X'
    exact ⟨t2, st t2 a1, b1⟩
  · obtain ⟨k1, k2, k3⟩ := vx_keep h0 e1 hS hAX hf hL hF
    obtain ⟨t2, a1, b1⟩ := kx E ce q u t T'.heap (locs ++ L) e1.symm (by rw [← e2]; exact X'.warmed.alike) hp hb k1 k2 k3 (by rw [e1]; exact hce) hcv hcl T' rfl X'
    exact ⟨t2, st.trans a1, b1⟩

theorem k_Vi {y : MethodName} {bytes : ByteArray} {maxL nL mc ms n : Nat} {ret : Option FieldType} {ws : List Cond} {rm : Room} {b : Nat} {As st0 : List Value} {post : Int32 → St → Prop} (SS : CallFix p m c cc nL s args Ts own) (hE : Ev z G s) (hz : z ≤ s.heap.size) (hS : va_S (Az z) s.heap H locs) (hW : WP z G ad S H) (hM : Met l y ws rm (Pcs z G ad S (.ref b :: As)) (Qis z G ad post) mc ms (Az z)) (cw : CallW R s args own C index y bytes maxL ret ws rm mc ms n) (hr : ∃ cell : Cell, H[b]? = some cell ∧ cell.vm.isStatics = false ∧ s.vm.findClass C = some cell.cls) (hn : As.length = n) (hsz : ls.size = nL) (hst : st0 = As.reverse ++ .ref b :: rest) (hrm : (rest.map fun v => v.category).sum ≤ 8) (hdg : decode cc pc = .ok (.invokevirtual index, 3)) (hf : cells + mc ≤ R.cells ∧ slots + ms ≤ R.slots)
    (kk : ∀ (r : Int32) (S' : St) (H1 : Heap) (locs1 : List Loc), post r S' → WP z G ad S' H1 → va_S (Az z) s.heap H1 locs1 → W p l e R s m args below meth c H1 locs1 (cells + mc) (slots + ms) Q (F0 m (pc + 3) ls (.int r :: rest))) : W p l e R s m args below meth c H locs cells slots Q (F0 m pc ls st0) := by
  subst hst
  exact va_calli (va_runV (As := As) (rest := rest) SS hM cw ⟨Pcs.blind, hr, fun U hU hw => ⟨rfl, Bc.of hE hz hW hS hU hw⟩⟩ rfl hn hsz rfl (lv_room hrm) hdg hf) hS (fun _ _ h => h) (fun _ h => h) (fun r u t H1 locs1 ht _ hp hB _ _ hS1 => kk r u H1 locs1 hp (by rw [← ht]; exact hB) hS1)
theorem x_Vi {y : MethodName} {bytes : ByteArray} {maxL nL mc ms n : Nat} {ret : Option FieldType} {ws : List Cond} {rm : Room} {b : Nat} {As st0 : List Value} {post : Int32 → St → Prop} {px px0 : String → St → Prop} {Qc : Array Value → State → Outcome → State → Prop} {mc0 ms0 : Nat} (SS : CallFix p m c cc nL s args Ts own) (hE : Ev z G s) (hz : z ≤ s.heap.size) (hS : va_S (Az z) s.heap H locs) (hW : WP z G ad S H) (hM : vx_Met l y ws rm (Pcs z G ad S (.ref b :: As)) (Qis z G ad post) (XCs z G ad px) mc ms (Az z)) (cw : CallW R s args own C index y bytes maxL ret ws rm mc ms n) (hr : ∃ cell : Cell, H[b]? = some cell ∧ cell.vm.isStatics = false ∧ s.vm.findClass C = some cell.cls) (hn : As.length = n) (hsz : ls.size = nL) (hst : st0 = As.reverse ++ .ref b :: rest) (hrm : (rest.map fun v => v.category).sum ≤ 8) (hdg : decode cc pc = .ok (.invokevirtual index, 3)) (hf : cells + mc ≤ R.cells ∧ slots + ms ≤ R.slots) (hlk : meth.locks = false) (htb : ∀ x ∈ c.exceptionTable.toList, False) (hpx : ∀ E S', px E S' → px0 E S') (h0 : cells + mc ≤ mc0 ∧ slots + ms ≤ ms0)
    (kk : ∀ (r : Int32) (S' : St) (H1 : Heap) (locs1 : List Loc), post r S' → WP z G ad S' H1 → va_S (Az z) s.heap H1 locs1 → W p l e R s m args below meth c H1 locs1 (cells + mc) (slots + ms) (vx_MQ below Qc (XCs z G ad px0) args s mc0 ms0 (Az z)) (F0 m (pc + 3) ls (.int r :: rest))) : W p l e R s m args below meth c H locs cells slots (vx_MQ below Qc (XCs z G ad px0) args s mc0 ms0 (Az z)) (F0 m pc ls st0) := by
  subst hst
  refine vx_calli (vx_runV (As := As) (rest := rest) SS hM cw ⟨Pcs.blind, hr, fun U hU hw => ⟨rfl, Bc.of hE hz hW hS hU hw⟩⟩ rfl hn hsz rfl (lv_room hrm) hdg hf) hS (fun _ _ h => h) (fun _ h => h) (fun _ _ h => h) (fun E ce q9 u t H1 locs1 ht _ hp hB _ _ hS1 hce hv hcl => ?_) (fun r u t H1 locs1 ht _ hp hB _ _ hS1 => kk r u H1 locs1 hp (by rw [← ht]; exact hB) hS1)
  refine vx_out (fun x hx9 => absurd hx9 (fun q => htb x q)) hlk hce hv hcl (fun t1 ht1 _ => ⟨u, hpx _ _ hp, ⟨hB.1, by rw [ht1, ← ht]; exact hB.2⟩, hS1.F ht1⟩) hS1.2.2 h0.1 h0.2
theorem k_Vl {y : MethodName} {bytes : ByteArray} {maxL nL mc ms n : Nat} {ret : Option FieldType} {ws : List Cond} {rm : Room} {b : Nat} {As st0 : List Value} {post : Int64 → St → Prop} (SS : CallFix p m c cc nL s args Ts own) (hE : Ev z G s) (hz : z ≤ s.heap.size) (hS : va_S (Az z) s.heap H locs) (hW : WP z G ad S H) (hM : Met l y ws rm (Pcs z G ad S (.ref b :: As)) (Qls z G ad post) mc ms (Az z)) (cw : CallW R s args own C index y bytes maxL ret ws rm mc ms n) (hr : ∃ cell : Cell, H[b]? = some cell ∧ cell.vm.isStatics = false ∧ s.vm.findClass C = some cell.cls) (hn : As.length = n) (hsz : ls.size = nL) (hst : st0 = As.reverse ++ .ref b :: rest) (hrm : (rest.map fun v => v.category).sum ≤ 8) (hdg : decode cc pc = .ok (.invokevirtual index, 3)) (hf : cells + mc ≤ R.cells ∧ slots + ms ≤ R.slots)
    (kk : ∀ (r : Int64) (S' : St) (H1 : Heap) (locs1 : List Loc), post r S' → WP z G ad S' H1 → va_S (Az z) s.heap H1 locs1 → W p l e R s m args below meth c H1 locs1 (cells + mc) (slots + ms) Q (F0 m (pc + 3) ls (.long r :: rest))) : W p l e R s m args below meth c H locs cells slots Q (F0 m pc ls st0) := by
  subst hst
  exact va_calll (va_runV (As := As) (rest := rest) SS hM cw ⟨Pcs.blind, hr, fun U hU hw => ⟨rfl, Bc.of hE hz hW hS hU hw⟩⟩ rfl hn hsz rfl (lv_room hrm) hdg hf) hS (fun _ _ h => h) (fun _ h => h) (fun r u t H1 locs1 ht _ hp hB _ _ hS1 => kk r u H1 locs1 hp (by rw [← ht]; exact hB) hS1)
theorem k_Vv {y : MethodName} {bytes : ByteArray} {maxL nL mc ms n : Nat} {ret : Option FieldType} {ws : List Cond} {rm : Room} {b : Nat} {As st0 : List Value} {post : St → Prop} (SS : CallFix p m c cc nL s args Ts own) (hE : Ev z G s) (hz : z ≤ s.heap.size) (hS : va_S (Az z) s.heap H locs) (hW : WP z G ad S H) (hM : Met l y ws rm (Pcs z G ad S (.ref b :: As)) (Qvs z G ad post) mc ms (Az z)) (cw : CallW R s args own C index y bytes maxL ret ws rm mc ms n) (hr : ∃ cell : Cell, H[b]? = some cell ∧ cell.vm.isStatics = false ∧ s.vm.findClass C = some cell.cls) (hn : As.length = n) (hsz : ls.size = nL) (hst : st0 = As.reverse ++ .ref b :: rest) (hrm : (rest.map fun v => v.category).sum ≤ 8) (hdg : decode cc pc = .ok (.invokevirtual index, 3)) (hf : cells + mc ≤ R.cells ∧ slots + ms ≤ R.slots)
    (kk : ∀ (S' : St) (H1 : Heap) (locs1 : List Loc), post S' → WP z G ad S' H1 → va_S (Az z) s.heap H1 locs1 → W p l e R s m args below meth c H1 locs1 (cells + mc) (slots + ms) Q (F0 m (pc + 3) ls (rest))) : W p l e R s m args below meth c H locs cells slots Q (F0 m pc ls st0) := by
  subst hst
  exact va_callv (va_runV (As := As) (rest := rest) SS hM cw ⟨Pcs.blind, hr, fun U hU hw => ⟨rfl, Bc.of hE hz hW hS hU hw⟩⟩ rfl hn hsz rfl (lv_room hrm) hdg hf) hS (fun _ _ h => h) (fun _ h => h) (fun u t H1 locs1 ht _ hp hB _ _ hS1 => kk u H1 locs1 hp (by rw [← ht]; exact hB) hS1)
theorem x_Vv {y : MethodName} {bytes : ByteArray} {maxL nL mc ms n : Nat} {ret : Option FieldType} {ws : List Cond} {rm : Room} {b : Nat} {As st0 : List Value} {post : St → Prop} {px px0 : String → St → Prop} {Qc : Array Value → State → Outcome → State → Prop} {mc0 ms0 : Nat} (SS : CallFix p m c cc nL s args Ts own) (hE : Ev z G s) (hz : z ≤ s.heap.size) (hS : va_S (Az z) s.heap H locs) (hW : WP z G ad S H) (hM : vx_Met l y ws rm (Pcs z G ad S (.ref b :: As)) (Qvs z G ad post) (XCs z G ad px) mc ms (Az z)) (cw : CallW R s args own C index y bytes maxL ret ws rm mc ms n) (hr : ∃ cell : Cell, H[b]? = some cell ∧ cell.vm.isStatics = false ∧ s.vm.findClass C = some cell.cls) (hn : As.length = n) (hsz : ls.size = nL) (hst : st0 = As.reverse ++ .ref b :: rest) (hrm : (rest.map fun v => v.category).sum ≤ 8) (hdg : decode cc pc = .ok (.invokevirtual index, 3)) (hf : cells + mc ≤ R.cells ∧ slots + ms ≤ R.slots) (hlk : meth.locks = false) (htb : ∀ x ∈ c.exceptionTable.toList, False) (hpx : ∀ E S', px E S' → px0 E S') (h0 : cells + mc ≤ mc0 ∧ slots + ms ≤ ms0)
    (kk : ∀ (S' : St) (H1 : Heap) (locs1 : List Loc), post S' → WP z G ad S' H1 → va_S (Az z) s.heap H1 locs1 → W p l e R s m args below meth c H1 locs1 (cells + mc) (slots + ms) (vx_MQ below Qc (XCs z G ad px0) args s mc0 ms0 (Az z)) (F0 m (pc + 3) ls (rest))) : W p l e R s m args below meth c H locs cells slots (vx_MQ below Qc (XCs z G ad px0) args s mc0 ms0 (Az z)) (F0 m pc ls st0) := by
  subst hst
  refine vx_callv (vx_runV (As := As) (rest := rest) SS hM cw ⟨Pcs.blind, hr, fun U hU hw => ⟨rfl, Bc.of hE hz hW hS hU hw⟩⟩ rfl hn hsz rfl (lv_room hrm) hdg hf) hS (fun _ _ h => h) (fun _ h => h) (fun _ _ h => h) (fun E ce q9 u t H1 locs1 ht _ hp hB _ _ hS1 hce hv hcl => ?_) (fun u t H1 locs1 ht _ hp hB _ _ hS1 => kk u H1 locs1 hp (by rw [← ht]; exact hB) hS1)
  refine vx_out (fun x hx9 => absurd hx9 (fun q => htb x q)) hlk hce hv hcl (fun t1 ht1 _ => ⟨u, hpx _ _ hp, ⟨hB.1, by rw [ht1, ← ht]; exact hB.2⟩, hS1.F ht1⟩) hS1.2.2 h0.1 h0.2
theorem k_Vr {y : MethodName} {bytes : ByteArray} {maxL nL mc ms n : Nat} {ret : Option FieldType} {ws : List Cond} {rm : Room} {b : Nat} {As st0 : List Value} {K : Nat} {post : Nat → St → Prop} (SS : CallFix p m c cc nL s args Ts own) (hE : Ev z G s) (hz : z ≤ s.heap.size) (hS : va_S (Az z) s.heap H locs) (hW : WP z G ad S H) (hM : Met l y ws rm (Pcs z G ad S (.ref b :: As)) (Qrs z G ad K post) mc ms (Az z)) (cw : CallW R s args own C index y bytes maxL ret ws rm mc ms n) (hr : ∃ cell : Cell, H[b]? = some cell ∧ cell.vm.isStatics = false ∧ s.vm.findClass C = some cell.cls) (hn : As.length = n) (hsz : ls.size = nL) (hst : st0 = As.reverse ++ .ref b :: rest) (hrm : (rest.map fun v => v.category).sum ≤ 8) (hdg : decode cc pc = .ok (.invokevirtual index, 3)) (hf : cells + mc ≤ R.cells ∧ slots + ms ≤ R.slots)
    (kk : ∀ (r : Nat) (S' : St) (H1 : Heap) (locs1 : List Loc), post r S' → WP z G ad S' H1 → va_S (Az z) s.heap H1 locs1 → W p l e R s m args below meth c H1 locs1 (cells + mc) (slots + ms) Q (F0 m (pc + 3) ls (.ref (ad K r) :: rest))) : W p l e R s m args below meth c H locs cells slots Q (F0 m pc ls st0) := by
  subst hst
  exact va_callr (va_runV (As := As) (rest := rest) SS hM cw ⟨Pcs.blind, hr, fun U hU hw => ⟨rfl, Bc.of hE hz hW hS hU hw⟩⟩ rfl hn hsz rfl (lv_room hrm) hdg hf) hS (fun _ _ h => h) (fun _ h => h) (fun u ra t H1 locs1 ht _ hp hB _ _ hS1 => by rw [hB.1]; exact kk u.2 u.1 H1 locs1 hp (by rw [← ht]; exact hB.2) hS1)
theorem x_Vr {y : MethodName} {bytes : ByteArray} {maxL nL mc ms n : Nat} {ret : Option FieldType} {ws : List Cond} {rm : Room} {b : Nat} {As st0 : List Value} {K : Nat} {post : Nat → St → Prop} {px px0 : String → St → Prop} {Qc : Array Value → State → Outcome → State → Prop} {mc0 ms0 : Nat} (SS : CallFix p m c cc nL s args Ts own) (hE : Ev z G s) (hz : z ≤ s.heap.size) (hS : va_S (Az z) s.heap H locs) (hW : WP z G ad S H) (hM : vx_Met l y ws rm (Pcs z G ad S (.ref b :: As)) (Qrs z G ad K post) (XCs z G ad px) mc ms (Az z)) (cw : CallW R s args own C index y bytes maxL ret ws rm mc ms n) (hr : ∃ cell : Cell, H[b]? = some cell ∧ cell.vm.isStatics = false ∧ s.vm.findClass C = some cell.cls) (hn : As.length = n) (hsz : ls.size = nL) (hst : st0 = As.reverse ++ .ref b :: rest) (hrm : (rest.map fun v => v.category).sum ≤ 8) (hdg : decode cc pc = .ok (.invokevirtual index, 3)) (hf : cells + mc ≤ R.cells ∧ slots + ms ≤ R.slots) (hlk : meth.locks = false) (htb : ∀ x ∈ c.exceptionTable.toList, False) (hpx : ∀ E S', px E S' → px0 E S') (h0 : cells + mc ≤ mc0 ∧ slots + ms ≤ ms0)
    (kk : ∀ (r : Nat) (S' : St) (H1 : Heap) (locs1 : List Loc), post r S' → WP z G ad S' H1 → va_S (Az z) s.heap H1 locs1 → W p l e R s m args below meth c H1 locs1 (cells + mc) (slots + ms) (vx_MQ below Qc (XCs z G ad px0) args s mc0 ms0 (Az z)) (F0 m (pc + 3) ls (.ref (ad K r) :: rest))) : W p l e R s m args below meth c H locs cells slots (vx_MQ below Qc (XCs z G ad px0) args s mc0 ms0 (Az z)) (F0 m pc ls st0) := by
  subst hst
  refine vx_callr9 (vx_runV (As := As) (rest := rest) SS hM cw ⟨Pcs.blind, hr, fun U hU hw => ⟨rfl, Bc.of hE hz hW hS hU hw⟩⟩ rfl hn hsz rfl (lv_room hrm) hdg hf) hS (fun _ _ h => h) (fun _ h => h) (fun _ _ h => h) (fun E ce q9 u t H1 locs1 ht _ hp hB _ _ hS1 hce hv hcl => ?_) (fun u ra t H1 locs1 ht _ hp hB _ _ hS1 => by rw [hB.1]; exact kk u.2 u.1 H1 locs1 hp (by rw [← ht]; exact hB.2) hS1)
  refine vx_out (fun x hx9 => absurd hx9 (fun q => htb x q)) hlk hce hv hcl (fun t1 ht1 _ => ⟨u, hpx _ _ hp, ⟨hB.1, by rw [ht1, ← ht]; exact hB.2⟩, hS1.F ht1⟩) hS1.2.2 h0.1 h0.2
theorem k_Si {y : MethodName} {bytes : ByteArray} {maxL nL mc ms n : Nat} {ret : Option FieldType} {ws : List Cond} {rm : Room} {As st0 : List Value} {post : Int32 → St → Prop} (SS : CallFix p m c cc nL s args Ts own) (hE : Ev z G s) (hz : z ≤ s.heap.size) (hS : va_S (Az z) s.heap H locs) (hW : WP z G ad S H) (hM : Met l y ws rm (Pcs z G ad S As) (Qis z G ad post) mc ms (Az z)) (cw : CallB R s args own index y bytes maxL ret ws rm mc ms n ∧ (Cond.static y).before args s = true) (hn : As.length = n) (hsz : ls.size = nL) (hst : st0 = As.reverse ++ rest) (hrm : (rest.map fun v => v.category).sum ≤ 8) (hdg : decode cc pc = .ok (.invokestatic index, 3)) (hf : cells + mc ≤ R.cells ∧ slots + ms ≤ R.slots)
    (kk : ∀ (r : Int32) (S' : St) (H1 : Heap) (locs1 : List Loc), post r S' → WP z G ad S' H1 → va_S (Az z) s.heap H1 locs1 → W p l e R s m args below meth c H1 locs1 (cells + mc) (slots + ms) Q (F0 m (pc + 3) ls (.int r :: rest))) : W p l e R s m args below meth c H locs cells slots Q (F0 m pc ls st0) := by
  subst hst
  exact va_calli (va_runS (As := As) (rest := rest) SS hM cw ⟨Pcs.blind, fun U hU hw => ⟨rfl, Bc.of hE hz hW hS hU hw⟩⟩ rfl hn hsz rfl (lv_room hrm) hdg hf) hS (fun _ _ h => h) (fun _ h => h) (fun r u t H1 locs1 ht _ hp hB _ _ hS1 => kk r u H1 locs1 hp (by rw [← ht]; exact hB) hS1)
theorem x_Si {y : MethodName} {bytes : ByteArray} {maxL nL mc ms n : Nat} {ret : Option FieldType} {ws : List Cond} {rm : Room} {As st0 : List Value} {post : Int32 → St → Prop} {px px0 : String → St → Prop} {Qc : Array Value → State → Outcome → State → Prop} {mc0 ms0 : Nat} (SS : CallFix p m c cc nL s args Ts own) (hE : Ev z G s) (hz : z ≤ s.heap.size) (hS : va_S (Az z) s.heap H locs) (hW : WP z G ad S H) (hM : vx_Met l y ws rm (Pcs z G ad S As) (Qis z G ad post) (XCs z G ad px) mc ms (Az z)) (cw : CallB R s args own index y bytes maxL ret ws rm mc ms n ∧ (Cond.static y).before args s = true) (hn : As.length = n) (hsz : ls.size = nL) (hst : st0 = As.reverse ++ rest) (hrm : (rest.map fun v => v.category).sum ≤ 8) (hdg : decode cc pc = .ok (.invokestatic index, 3)) (hf : cells + mc ≤ R.cells ∧ slots + ms ≤ R.slots) (hlk : meth.locks = false) (htb : ∀ x ∈ c.exceptionTable.toList, False) (hpx : ∀ E S', px E S' → px0 E S') (h0 : cells + mc ≤ mc0 ∧ slots + ms ≤ ms0)
    (kk : ∀ (r : Int32) (S' : St) (H1 : Heap) (locs1 : List Loc), post r S' → WP z G ad S' H1 → va_S (Az z) s.heap H1 locs1 → W p l e R s m args below meth c H1 locs1 (cells + mc) (slots + ms) (vx_MQ below Qc (XCs z G ad px0) args s mc0 ms0 (Az z)) (F0 m (pc + 3) ls (.int r :: rest))) : W p l e R s m args below meth c H locs cells slots (vx_MQ below Qc (XCs z G ad px0) args s mc0 ms0 (Az z)) (F0 m pc ls st0) := by
  subst hst
  refine vx_calli (vx_runS (As := As) (rest := rest) SS hM cw ⟨Pcs.blind, fun U hU hw => ⟨rfl, Bc.of hE hz hW hS hU hw⟩⟩ rfl hn hsz rfl (lv_room hrm) hdg hf) hS (fun _ _ h => h) (fun _ h => h) (fun _ _ h => h) (fun E ce q9 u t H1 locs1 ht _ hp hB _ _ hS1 hce hv hcl => ?_) (fun r u t H1 locs1 ht _ hp hB _ _ hS1 => kk r u H1 locs1 hp (by rw [← ht]; exact hB) hS1)
  refine vx_out (fun x hx9 => absurd hx9 (fun q => htb x q)) hlk hce hv hcl (fun t1 ht1 _ => ⟨u, hpx _ _ hp, ⟨hB.1, by rw [ht1, ← ht]; exact hB.2⟩, hS1.F ht1⟩) hS1.2.2 h0.1 h0.2
theorem k_Sl {y : MethodName} {bytes : ByteArray} {maxL nL mc ms n : Nat} {ret : Option FieldType} {ws : List Cond} {rm : Room} {As st0 : List Value} {post : Int64 → St → Prop} (SS : CallFix p m c cc nL s args Ts own) (hE : Ev z G s) (hz : z ≤ s.heap.size) (hS : va_S (Az z) s.heap H locs) (hW : WP z G ad S H) (hM : Met l y ws rm (Pcs z G ad S As) (Qls z G ad post) mc ms (Az z)) (cw : CallB R s args own index y bytes maxL ret ws rm mc ms n ∧ (Cond.static y).before args s = true) (hn : As.length = n) (hsz : ls.size = nL) (hst : st0 = As.reverse ++ rest) (hrm : (rest.map fun v => v.category).sum ≤ 8) (hdg : decode cc pc = .ok (.invokestatic index, 3)) (hf : cells + mc ≤ R.cells ∧ slots + ms ≤ R.slots)
    (kk : ∀ (r : Int64) (S' : St) (H1 : Heap) (locs1 : List Loc), post r S' → WP z G ad S' H1 → va_S (Az z) s.heap H1 locs1 → W p l e R s m args below meth c H1 locs1 (cells + mc) (slots + ms) Q (F0 m (pc + 3) ls (.long r :: rest))) : W p l e R s m args below meth c H locs cells slots Q (F0 m pc ls st0) := by
  subst hst
  exact va_calll (va_runS (As := As) (rest := rest) SS hM cw ⟨Pcs.blind, fun U hU hw => ⟨rfl, Bc.of hE hz hW hS hU hw⟩⟩ rfl hn hsz rfl (lv_room hrm) hdg hf) hS (fun _ _ h => h) (fun _ h => h) (fun r u t H1 locs1 ht _ hp hB _ _ hS1 => kk r u H1 locs1 hp (by rw [← ht]; exact hB) hS1)
theorem k_Sv {y : MethodName} {bytes : ByteArray} {maxL nL mc ms n : Nat} {ret : Option FieldType} {ws : List Cond} {rm : Room} {As st0 : List Value} {post : St → Prop} (SS : CallFix p m c cc nL s args Ts own) (hE : Ev z G s) (hz : z ≤ s.heap.size) (hS : va_S (Az z) s.heap H locs) (hW : WP z G ad S H) (hM : Met l y ws rm (Pcs z G ad S As) (Qvs z G ad post) mc ms (Az z)) (cw : CallB R s args own index y bytes maxL ret ws rm mc ms n ∧ (Cond.static y).before args s = true) (hn : As.length = n) (hsz : ls.size = nL) (hst : st0 = As.reverse ++ rest) (hrm : (rest.map fun v => v.category).sum ≤ 8) (hdg : decode cc pc = .ok (.invokestatic index, 3)) (hf : cells + mc ≤ R.cells ∧ slots + ms ≤ R.slots)
    (kk : ∀ (S' : St) (H1 : Heap) (locs1 : List Loc), post S' → WP z G ad S' H1 → va_S (Az z) s.heap H1 locs1 → W p l e R s m args below meth c H1 locs1 (cells + mc) (slots + ms) Q (F0 m (pc + 3) ls (rest))) : W p l e R s m args below meth c H locs cells slots Q (F0 m pc ls st0) := by
  subst hst
  exact va_callv (va_runS (As := As) (rest := rest) SS hM cw ⟨Pcs.blind, fun U hU hw => ⟨rfl, Bc.of hE hz hW hS hU hw⟩⟩ rfl hn hsz rfl (lv_room hrm) hdg hf) hS (fun _ _ h => h) (fun _ h => h) (fun u t H1 locs1 ht _ hp hB _ _ hS1 => kk u H1 locs1 hp (by rw [← ht]; exact hB) hS1)
theorem x_Sv {y : MethodName} {bytes : ByteArray} {maxL nL mc ms n : Nat} {ret : Option FieldType} {ws : List Cond} {rm : Room} {As st0 : List Value} {post : St → Prop} {px px0 : String → St → Prop} {Qc : Array Value → State → Outcome → State → Prop} {mc0 ms0 : Nat} (SS : CallFix p m c cc nL s args Ts own) (hE : Ev z G s) (hz : z ≤ s.heap.size) (hS : va_S (Az z) s.heap H locs) (hW : WP z G ad S H) (hM : vx_Met l y ws rm (Pcs z G ad S As) (Qvs z G ad post) (XCs z G ad px) mc ms (Az z)) (cw : CallB R s args own index y bytes maxL ret ws rm mc ms n ∧ (Cond.static y).before args s = true) (hn : As.length = n) (hsz : ls.size = nL) (hst : st0 = As.reverse ++ rest) (hrm : (rest.map fun v => v.category).sum ≤ 8) (hdg : decode cc pc = .ok (.invokestatic index, 3)) (hf : cells + mc ≤ R.cells ∧ slots + ms ≤ R.slots) (hlk : meth.locks = false) (htb : ∀ x ∈ c.exceptionTable.toList, False) (hpx : ∀ E S', px E S' → px0 E S') (h0 : cells + mc ≤ mc0 ∧ slots + ms ≤ ms0)
    (kk : ∀ (S' : St) (H1 : Heap) (locs1 : List Loc), post S' → WP z G ad S' H1 → va_S (Az z) s.heap H1 locs1 → W p l e R s m args below meth c H1 locs1 (cells + mc) (slots + ms) (vx_MQ below Qc (XCs z G ad px0) args s mc0 ms0 (Az z)) (F0 m (pc + 3) ls (rest))) : W p l e R s m args below meth c H locs cells slots (vx_MQ below Qc (XCs z G ad px0) args s mc0 ms0 (Az z)) (F0 m pc ls st0) := by
  subst hst
  refine vx_callv (vx_runS (As := As) (rest := rest) SS hM cw ⟨Pcs.blind, fun U hU hw => ⟨rfl, Bc.of hE hz hW hS hU hw⟩⟩ rfl hn hsz rfl (lv_room hrm) hdg hf) hS (fun _ _ h => h) (fun _ h => h) (fun _ _ h => h) (fun E ce q9 u t H1 locs1 ht _ hp hB _ _ hS1 hce hv hcl => ?_) (fun u t H1 locs1 ht _ hp hB _ _ hS1 => kk u H1 locs1 hp (by rw [← ht]; exact hB) hS1)
  refine vx_out (fun x hx9 => absurd hx9 (fun q => htb x q)) hlk hce hv hcl (fun t1 ht1 _ => ⟨u, hpx _ _ hp, ⟨hB.1, by rw [ht1, ← ht]; exact hB.2⟩, hS1.F ht1⟩) hS1.2.2 h0.1 h0.2
theorem k_Sr {y : MethodName} {bytes : ByteArray} {maxL nL mc ms n : Nat} {ret : Option FieldType} {ws : List Cond} {rm : Room} {As st0 : List Value} {K : Nat} {post : Nat → St → Prop} (SS : CallFix p m c cc nL s args Ts own) (hE : Ev z G s) (hz : z ≤ s.heap.size) (hS : va_S (Az z) s.heap H locs) (hW : WP z G ad S H) (hM : Met l y ws rm (Pcs z G ad S As) (Qrs z G ad K post) mc ms (Az z)) (cw : CallB R s args own index y bytes maxL ret ws rm mc ms n ∧ (Cond.static y).before args s = true) (hn : As.length = n) (hsz : ls.size = nL) (hst : st0 = As.reverse ++ rest) (hrm : (rest.map fun v => v.category).sum ≤ 8) (hdg : decode cc pc = .ok (.invokestatic index, 3)) (hf : cells + mc ≤ R.cells ∧ slots + ms ≤ R.slots)
    (kk : ∀ (r : Nat) (S' : St) (H1 : Heap) (locs1 : List Loc), post r S' → WP z G ad S' H1 → va_S (Az z) s.heap H1 locs1 → W p l e R s m args below meth c H1 locs1 (cells + mc) (slots + ms) Q (F0 m (pc + 3) ls (.ref (ad K r) :: rest))) : W p l e R s m args below meth c H locs cells slots Q (F0 m pc ls st0) := by
  subst hst
  exact va_callr (va_runS (As := As) (rest := rest) SS hM cw ⟨Pcs.blind, fun U hU hw => ⟨rfl, Bc.of hE hz hW hS hU hw⟩⟩ rfl hn hsz rfl (lv_room hrm) hdg hf) hS (fun _ _ h => h) (fun _ h => h) (fun u ra t H1 locs1 ht _ hp hB _ _ hS1 => by rw [hB.1]; exact kk u.2 u.1 H1 locs1 hp (by rw [← ht]; exact hB.2) hS1)
def Cx (p : Program) (l : Launch) (e : Env) (s : State) (m : MethodId) (args : Array Value) (below : List Frame) (meth : Method) (c : Code) (cc : ByteArray) (rt : Option FieldType) (nL : Nat) (own : String) (ws : List Cond) (z : Nat) (G : Gl) : Prop :=
  p.tables.exec = Jvm.exec ∧ c.code = cc ∧ meth.sig.returnType = rt ∧ c.maxLocals = nL ∧ s.vm.findClass own = some m.cls ∧ (∀ w ∈ ws, w.before args s = true) ∧ meth.locks = false ∧ Ev z G s ∧ z ≤ s.heap.size
def Cxx (p : Program) (l : Launch) (e : Env) (s : State) (m : MethodId) (args : Array Value) (below : List Frame) (meth : Method) (c : Code) (cc : ByteArray) (rt : Option FieldType) (nL : Nat) (own : String) (ws : List Cond) (z : Nat) (G : Gl) : Prop :=
  p.tables.exec = Jvm.exec ∧ c.code = cc ∧ meth.sig.returnType = rt ∧ c.maxLocals = nL ∧ s.vm.findClass own = some m.cls ∧ (∀ w ∈ ws, w.before args s = true) ∧ meth.locks = false ∧ Ev z G s ∧ z ≤ s.heap.size ∧ (∀ x ∈ c.exceptionTable.toList, False) ∧ l.stackTraces = false

end RC
