/-! java.util.ArrayList over the world, and its helpers. Written by wip/gen/hand.py -/
abbrev fl7 (G : Gl) (ad : Nat → Nat → Nat) (ν : NU) (o : Nat) (s : Nat → Int32) : List Value := [.int (s 0), .ref (if ν 7 o 1 = 0 then G.2.2.1 else ad 8 o), .int (s 2)]
section RJ
variable {p : Program} {l : Launch} {e : Env} {R : Room} {s : State} {m : MethodId} {args : Array Value} {below : List Frame} {meth : Method} {c : Code} {H : Heap} {locs : List Loc} {cells slots : Nat} {Q : State → Prop}
variable {cc : ByteArray} {pc : Nat} {ls : Array Slot} {rest : List Value} {z : Nat} {G : Gl} {ad : Nat → Nat → Nat} {Ts : List Cond} {own : String} {index : Nat} {σ : SG} {ν : NU} {ρ : RH} {lo : Int64}
/-- a field of a list -/
theorem r_get7 (hx : p.tables.exec = Jvm.exec) (hb : c.code = cc) (hts : ∀ w ∈ Ts, w.before args s = true) (hown : s.vm.findClass own = some m.cls) (hE : Ev z G s) (hW : WP z G ad (σ, ν, ρ, lo) H) (o : Nat) (he : o < 3) (hin : ∀ w ∈ u_ws RJx4a65c TJx4a65c 3, w ∈ Ts) (j : Nat) (hj : j < 3)
    (hlink : Cond.fieldLink own index RJx4a65c (TJx4a65c j).2.1 (TJx4a65c j).2.2.1 ∈ Ts) (hsame : (TJx4a65c j).1 = RJx4a65c ∨ Cond.sameField RJx4a65c (TJx4a65c j).1 (TJx4a65c j).2.1 (TJx4a65c j).2.2.1 ∈ Ts) {v : Value} (hv : (fl7 G ad ν o (σ 7 o))[j]? = some v) (hdg : decode cc pc = .ok (.getfield index, 3))
    (kk : W p l e R s m args below meth c H locs cells slots Q (F0 m (pc + 3) ls (v :: rest))) : W p l e R s m args below meth c H locs cells slots Q (F0 m pc ls (.ref (ad 7 o) :: rest)) := by
  obtain ⟨L, q, hL, hP, hD, hq, hq2⟩ := WP_at hW (k := 7) (o := o) he
  refine va_get (C := RJx4a65c) (T := TJx4a65c) (N := 3) (ci := 2) (fs := fl7 G ad ν o (σ 7 o)) hx hb hts hin hown hE.1 hP q hq2 rfl j hj (hts _ hlink) (fun x hx9 => ?_) hv hdg kk
  rcases hsame with h | h
  · rw [h] at hx9; exact hx9
  · exact u_same (hts _ h) x hx9
theorem r_put7 (hx : p.tables.exec = Jvm.exec) (hb : c.code = cc) (hts : ∀ w ∈ Ts, w.before args s = true) (hown : s.vm.findClass own = some m.cls) (hE : Ev z G s) (hW : WP z G ad (σ, ν, ρ, lo) H) (hS : va_S (Az z) s.heap H locs) (o : Nat) (he : o < 3) (hin : ∀ w ∈ u_ws RJx4a65c TJx4a65c 3, w ∈ Ts) (j : Nat) (hj : j < 3)
    (hlink : Cond.fieldLink own index RJx4a65c (TJx4a65c j).2.1 (TJx4a65c j).2.2.1 ∈ Ts) (hsame : (TJx4a65c j).1 = RJx4a65c ∨ Cond.sameField RJx4a65c (TJx4a65c j).1 (TJx4a65c j).2.1 (TJx4a65c j).2.2.1 ∈ Ts) (hfin : (TJx4a65c j).2.2.2 = false) (hd : parseFieldDescriptor (TJx4a65c j).2.2.1 = some .int) {x : Int32}
    (hf : fl7 G ad ν o (upd (σ 7 o) j x) = (fl7 G ad ν o (σ 7 o)).set j (.int x)) (hdg : decode cc pc = .ok (.putfield index, 3))
    (kk : ∀ (σ1 : SG), σ1 = u3 σ 7 o j x → ∀ (H1 : Heap) (locs1 : List Loc), WP z G ad (σ1, ν, ρ, lo) H1 → va_S (Az z) s.heap H1 locs1 → W p l e R s m args below meth c H1 locs1 cells slots Q (F0 m (pc + 3) ls rest)) : W p l e R s m args below meth c H locs cells slots Q (F0 m pc ls (.int x :: .ref (ad 7 o) :: rest)) := by
  obtain ⟨L, q, hL, hP, hD, hq, hq2⟩ := WP_at hW (k := 7) (o := o) he
  refine va_put (C := RJx4a65c) (T := TJx4a65c) (N := 3) (ci := 2) (fs := fl7 G ad ν o (σ 7 o)) (ty := .int) hx hb hts hin tyJx4a65c tyJx4a65c_ok nmJx4a65c hown hE.1 hP hD hS q hq2 rfl j hj (hts _ hlink) (fun x hx9 => ?_) hfin hd rfl rfl (by show j < 3; exact hj) hdg (fun H1 locs1 k1 k2 k3 => kk _ rfl H1 locs1 (WP_set hL hD hq ?_ (fun _ _ => Iff.rfl) (fun _ _ _ h => ct_sg (u3_oth h)) k1 k2) k3)
  · rcases hsame with h | h
    · rw [h] at hx9; exact hx9
    · exact u_same (hts _ h) x hx9
  · show (Sum.inr (2, fl7 G ad ν o (u3 σ 7 o j x 7 o)) : va_E) = _
    rw [u3_row, hf]
theorem e8_oth {o i v : Nat} {a b : Nat} (hn : ¬ (a = 8 ∧ b = o)) : ct G ad (σ, u3 ν 8 o i v, ρ, lo) a b = ct G ad (σ, ν, ρ, lo) a b :=
  ct_nu (u3_ne (by decide)) (u3_ne (by decide)) (u3_ne (by decide)) (fun h8 => u3_oth (fun t => hn ⟨h8, t.2⟩)) (fun h13 => by rw [u3_ne (by decide)])
/-- nothing is put into a list's row -/
theorem r_eldN (hx : p.tables.exec = Jvm.exec) (hb : c.code = cc) (hE : Ev z G s) (hW : WP z G ad (σ, ν, ρ, lo) H) (hS : va_S (Az z) s.heap H locs) (o : Nat) (he : ex ν 8 o) {i : Int32} (hin : vp_in i (ν 7 o 1)) (hdg : decode cc pc = .ok (.aastore, 1))
    (kk : ∀ (ν1 : NU), ν1 = u3 ν 8 o i.toNatClampNeg 0 → ∀ (H1 : Heap) (locs1 : List Loc), WP z G ad (σ, ν1, ρ, lo) H1 → va_S (Az z) s.heap H1 locs1 → W p l e R s m args below meth c H1 locs1 cells slots Q (F0 m (pc + 1) ls rest)) : W p l e R s m args below meth c H locs cells slots Q (F0 m pc ls (.null :: .int i :: .ref (ad 8 o) :: rest)) := by
  obtain ⟨L, q, hL, hP, hD, hq, hq2⟩ := WP_at hW he
  refine va_astqN (C := "java/lang/Object") (n := ν 7 o 1) (f := fun j => opn (ad 3) (ν 8 o j)) hx hb hE.1 hP hD hS q 4 hq2 rfl hin hdg (fun H1 locs1 k1 k2 k3 => kk _ rfl H1 locs1 (WP_set hL hD hq ?_ (ex_congr (ν' := u3 ν 8 o i.toNatClampNeg 0) (ν := ν) (u3_ne (by decide)) (u3_ne (by decide))) (fun a b _ hn => e8_oth hn) k1 k2) k3)
  have e1 : u3 ν 8 o i.toNatClampNeg 0 7 o 1 = ν 7 o 1 := by rw [u3_ne (by decide)]
  show (Sum.inl (G.2.1 4, u3 ν 8 o i.toNatClampNeg 0 7 o 1, Sum.inr (Sum.inr (Sum.inr (Sum.inr (fun j => opn (ad 3) (u3 ν 8 o i.toNatClampNeg 0 8 o j)))))) : va_E) = _
  rw [e1]
  exact congrArg (fun f => (Sum.inl (G.2.1 4, ν 7 o 1, Sum.inr (Sum.inr (Sum.inr (Sum.inr f)))) : va_E)) (by funext j; by_cases h : j = i.toNatClampNeg <;> simp [u3, va_up, opn, h])
/-- an instruction is put into a list's row -/
theorem r_eld (hx : p.tables.exec = Jvm.exec) (hb : c.code = cc) (hE : Ev z G s) (hW : WP z G ad (σ, ν, ρ, lo) H) (hS : va_S (Az z) s.heap H locs) (o : Nat) (he : ex ν 8 o) (w : Nat) (hw : ex ν 3 w) {i : Int32} (hin : vp_in i (ν 7 o 1)) (hdg : decode cc pc = .ok (.aastore, 1))
    (kk : ∀ (ν1 : NU), ν1 = u3 ν 8 o i.toNatClampNeg (w + 1) → ∀ (H1 : Heap) (locs1 : List Loc), WP z G ad (σ, ν1, ρ, lo) H1 → va_S (Az z) s.heap H1 locs1 → W p l e R s m args below meth c H1 locs1 cells slots Q (F0 m (pc + 1) ls rest)) : W p l e R s m args below meth c H locs cells slots Q (F0 m pc ls (.ref (ad 3 w) :: .int i :: .ref (ad 8 o) :: rest)) := by
  obtain ⟨L, hL, hP, hD⟩ := hW
  obtain ⟨q, hq⟩ := List.getElem?_of_mem ((hL 8 o).mp he)
  obtain ⟨q2, hq2⟩ := List.getElem?_of_mem ((hL 3 w).mp hw)
  have g1 : (L.map (cel G ad (σ, ν, ρ, lo)))[q]? = some (ad 8 o, .inl (G.2.1 4, ν 7 o 1, .inr (.inr (.inr (.inr (fun j => opn (ad 3) (ν 8 o j))))))) := by rw [List.getElem?_map, hq]; rfl
  have g2 : (L.map (cel G ad (σ, ν, ρ, lo)))[q2]? = some (ad 3 w, .inr (3, fl_3 ad ν ρ w (σ 3 w))) := by rw [List.getElem?_map, hq2]; rfl
  refine va_astqO (E := "java/lang/Object") (r := (RX0, TX0, 13)) hx hb hE.1 hP hD hS q 4 q2 3 g1 rfl (hE.2.2.2.2.2.2.1 (RX0, "java/lang/Object") (List.mem_of_getElem? (i := 1) rfl)) g2 rfl hin hdg (fun H1 locs1 k1 k2 k3 => kk _ rfl H1 locs1 (WP_set hL hD hq ?_ (ex_congr (ν' := u3 ν 8 o i.toNatClampNeg (w + 1)) (ν := ν) (u3_ne (by decide)) (u3_ne (by decide))) (fun a b _ hn => e8_oth hn) k1 k2) k3)
  have e1 : u3 ν 8 o i.toNatClampNeg (w + 1) 7 o 1 = ν 7 o 1 := by rw [u3_ne (by decide)]
  show (Sum.inl (G.2.1 4, u3 ν 8 o i.toNatClampNeg (w + 1) 7 o 1, Sum.inr (Sum.inr (Sum.inr (Sum.inr (fun j => opn (ad 3) (u3 ν 8 o i.toNatClampNeg (w + 1) 8 o j)))))) : va_E) = _
  rw [e1]
  exact congrArg (fun f => (Sum.inl (G.2.1 4, ν 7 o 1, Sum.inr (Sum.inr (Sum.inr (Sum.inr f)))) : va_E)) (by funext j; by_cases h : j = i.toNatClampNeg <;> simp [u3, va_up, opn, h])
end RJ
def wpJx4a65c_size_8abf5 (σ : SG) (ν : NU) (o : Nat) (post : Int32 → Prop) : Prop := o < 3 ∧ post (σ 7 o 2)
def wpJx4a65c_get_915e3 (σ : SG) (ν : NU) (o : Nat) (i : Int32) (post : Nat → Prop) : Prop := o < 3 ∧ ¬ i.toInt < 0 ∧ i.toInt < (σ 7 o 2).toInt ∧ vp_in i (ν 7 o 1) ∧ ν 8 o i.toNatClampNeg ≠ 0 ∧ post (ν 8 o i.toNatClampNeg - 1)
def wpJx4a65c_clear_da8c8 (σ : SG) (ν : NU) (o : Nat) (post : SG → NU → Prop) : Prop := o < 3 ∧ ∃ n : Nat, σ 7 o 2 = nI n ∧ n ≤ ν 7 o 1 ∧ n ≤ 60 ∧ ν 7 o 1 ≤ 60 ∧ ∀ (σ1 : SG) (ν1 : NU), σ1 = u3 (u3 σ 7 o 0 (σ 7 o 0 + 1)) 7 o 2 0 → ν1 = r3 ν 8 o (fun i => if i < n then 0 else ν 8 o i) → post σ1 ν1
def capn (c : Nat) : Nat := if c = 0 then 10 else c + c / 2
/-- the row behind a new element at the end: room there, or more room -/
def GR (ν ν1 : NU) (o n : Nat) : Prop := ν1 7 o 1 = (if n < ν 7 o 1 then ν 7 o 1 else capn (ν 7 o 1)) ∧ (∀ i, i < n → ν1 8 o i = ν 8 o i) ∧ (∀ i, ν1 8 o i = ν 8 o i ∨ ν1 8 o i = 0) ∧ ∀ a b c, ¬ (a = 7 ∧ b = o ∧ c = 1) → ¬ (a = 8 ∧ b = o) → ν1 a b c = ν a b c
def okc (ν : NU) (o n : Nat) : Prop := n ≤ ν 7 o 1 ∧ ν 7 o 1 ≤ 60 ∧ ν 7 o 1 ≠ 1 ∧ n ≤ 40 ∧ ∀ i, i < n → ν 8 o i ≤ ν 99 0 0
def wpJx4a65c_add_9ea2d (σ : SG) (ν : NU) (o w : Nat) (post : Int32 → SG → NU → Prop) : Prop := o < 3 ∧ w < ν 99 0 0 ∧ ∃ n : Nat, σ 7 o 2 = nI n ∧ okc ν o n ∧ ∀ (σ1 : SG) (ν1 ν2 : NU), σ1 = u3 (u3 σ 7 o 0 (σ 7 o 0 + 1)) 7 o 2 (nI (n + 1)) → GR ν ν1 o n → ν2 = u3 ν1 8 o n (w + 1) → post 1 σ1 ν2
def wpJx4a65c_add_7a177 (σ : SG) (ν : NU) (o : Nat) (i : Int32) (w : Nat) (post : SG → NU → Prop) : Prop := o < 3 ∧ w < ν 99 0 0 ∧ ∃ n k : Nat, σ 7 o 2 = nI n ∧ i = nI k ∧ k ≤ n ∧ okc ν o n ∧ ∀ (σ1 : SG) (ν1 ν2 : NU), σ1 = u3 (u3 σ 7 o 0 (σ 7 o 0 + 1)) 7 o 2 (nI (n + 1)) → GR ν ν1 o n → ν2 = u3 (r3 ν1 8 o (va_cpy (ν1 8 o) (ν1 8 o) k (k + 1) (n - k))) 8 o k (w + 1) → post σ1 ν2

set_option maxHeartbeats 4000000 in
set_option maxRecDepth 100000 in
theorem mtJx4a65c_size_8abf5 (l : Launch) (z : Nat) (G : Gl) (ad : Nat → Nat → Nat) (σ : SG) (ν : NU) (ρ : RH) (lo : Int64) (o0 : Nat) (post : Int32 → Prop) (h : wpJx4a65c_size_8abf5 σ ν o0 post) : Met l yJx4a65c_size_8abf5 wsJx4a65c_size_8abf5 ({ frames := 0, cells := 0, slots := 0, locals := 0 } : Room) (Pcs z G ad (σ, ν, ρ, lo) [.ref (ad 7 o0)]) (Qis z G ad (fun r S1 => S1 = (σ, ν, ρ, lo) ∧ post r)) 0 0 (Az z) := by
  refine Met.ofW (cc := cJx4a65c_size_8abf5) (maxL := 1) (ret := (some .int)) (by decide) rfl ?_
  intro p e s m args below meth c s₁ B hml hv
  obtain ⟨rfl, hz, hW, hE⟩ := hv
  have hx := B.exec
  have hb := B.bytes
  have hr := B.returns
  have hts := atoms_spec (ws := wsJx4a65c_size_8abf5) B.pre
  have hown : s.vm.findClass RJx4a65c = some m.cls := findClass_of_methodNamed B.named
  have hlocks := B.notSynchronized
  have hS : va_S (Az z) s.heap s.heap [] := va_S.rf
  have hl := lv_entry [.ref (ad 7 o0)] (n := 1) (Nat.le_of_ble_eq_true rfl)
  rw [lg_entry_eq]
  generalize (lg_sl [.ref (ad 7 o0)] ++ List.replicate (1 - (lg_sl [.ref (ad 7 o0)]).length) Slot.unset).toArray = ls at hl ⊢
  have hl : lv_has ls 1 [(0, .ref (ad 7 o0))] := hl
  obtain ⟨g1, h⟩ := h
  refine lv_aload_n hx hb dJx4a65c_size_8abf5_0 rfl (lv_at hl 0 rfl) ?_
  refine r_get7 hx hb hts hown hE hW o0 g1 (fun w h => List.mem_cons_of_mem _ (List.mem_append_right _ h)) 2 (by decide) (List.mem_of_getElem? (i := 1) rfl) (Or.inl rfl) (v := .int (σ 7 o0 2)) rfl dJx4a65c_size_8abf5_1 ?_
  exact W.iret (v := σ 7 o0 2) hx hb hr (fun t ht _ => ⟨⟨_, (σ, ν, ρ, lo), rfl, ⟨rfl, h⟩, WP.at9 ht hW⟩, hS.F ht⟩) hS.2.2 dJx4a65c_size_8abf5_4 (hlocks := hlocks)

set_option maxHeartbeats 4000000 in
set_option maxRecDepth 100000 in
theorem mtJ3_checkIndex_8e157 (l : Launch) (z : Nat) (G : Gl) (ad : Nat → Nat → Nat) (σ : SG) (ν : NU) (ρ : RH) (lo : Int64) (i n : Int32) (h1 : ¬ i.toInt < 0) (h2 : i.toInt < n.toInt) : Met l yJ3_checkIndex_8e157 wsJ3_checkIndex_8e157 ({ frames := 0, cells := 0, slots := 0, locals := 0 } : Room) (Pcs z G ad (σ, ν, ρ, lo) [.int i, .int n, .null]) (Qis z G ad (fun r S1 => S1 = (σ, ν, ρ, lo) ∧ r = i)) 0 0 (Az z) := by
  refine Met.ofW (cc := cJ3_checkIndex_8e157) (maxL := 3) (ret := (some .int)) (by decide) rfl ?_
  intro p e s m args below meth c s₁ B hml hv
  obtain ⟨rfl, hz, hW, hE⟩ := hv
  have hx := B.exec
  have hb := B.bytes
  have hr := B.returns
  have hts := atoms_spec (ws := wsJ3_checkIndex_8e157) B.pre
  have hown : s.vm.findClass RJ3 = some m.cls := findClass_of_methodNamed B.named
  have hlocks := B.notSynchronized
  have hS : va_S (Az z) s.heap s.heap [] := va_S.rf
  have hl := lv_entry [.int i, .int n, .null] (n := 3) (Nat.le_of_ble_eq_true rfl)
  rw [lg_entry_eq]
  generalize (lg_sl [.int i, .int n, .null] ++ List.replicate (3 - (lg_sl [.int i, .int n, .null]).length) Slot.unset).toArray = ls at hl ⊢
  have hl : lv_has ls 3 [(0, .int i), (1, .int n), (2, .null)] := hl
  refine lv_iload_n hx hb dJ3_checkIndex_8e157_0 rfl (lv_at hl 0 rfl) ?_
  refine r_if_lt hx hb rfl (tgt := 9) dJ3_checkIndex_8e157_1 (by decide) (fun c1 => absurd c1 h1) (fun _ => ?_)
  refine lv_iload_n hx hb dJ3_checkIndex_8e157_4 rfl (lv_at hl 0 rfl) ?_
  refine lv_iload_n hx hb dJ3_checkIndex_8e157_5 rfl (lv_at hl 1 rfl) ?_
  refine r_icmp_lt hx hb rfl rfl (tgt := 16) dJ3_checkIndex_8e157_6 (by decide) (fun _ => ?_) (fun c1 => absurd h2 c1)
  refine lv_iload_n hx hb dJ3_checkIndex_8e157_16 rfl (lv_at hl 0 rfl) ?_
  exact W.iret (v := i) hx hb hr (fun t ht _ => ⟨⟨_, (σ, ν, ρ, lo), rfl, ⟨rfl, rfl⟩, WP.at9 ht hW⟩, hS.F ht⟩) hS.2.2 dJ3_checkIndex_8e157_17 (hlocks := hlocks)

set_option maxHeartbeats 4000000 in
set_option maxRecDepth 100000 in
theorem mtJ15_checkIndex_7cf53 (l : Launch) (z : Nat) (G : Gl) (ad : Nat → Nat → Nat) (σ : SG) (ν : NU) (ρ : RH) (lo : Int64) (i n : Int32) (h1 : ¬ i.toInt < 0) (h2 : i.toInt < n.toInt) : Met l yJ15_checkIndex_7cf53 wsJ15_checkIndex_7cf53 ({ frames := 1, cells := 0, slots := 0, locals := 22 } : Room) (Pcs z G ad (σ, ν, ρ, lo) [.int i, .int n]) (Qis z G ad (fun r S1 => S1 = (σ, ν, ρ, lo) ∧ r = i)) 0 0 (Az z) := by
  refine Met.ofW (cc := cJ15_checkIndex_7cf53) (maxL := 2) (ret := (some .int)) (by decide) rfl ?_
  intro p e s m args below meth c s₁ B hml hv
  obtain ⟨rfl, hz, hW, hE⟩ := hv
  have hx := B.exec
  have hb := B.bytes
  have hr := B.returns
  have hts := atoms_spec (ws := wsJ15_checkIndex_7cf53) B.pre
  have hown : s.vm.findClass RJ15 = some m.cls := findClass_of_methodNamed B.named
  have hlocks := B.notSynchronized
  have hS : va_S (Az z) s.heap s.heap [] := va_S.rf
  have hl := lv_entry [.int i, .int n] (n := 2) (Nat.le_of_ble_eq_true rfl)
  rw [lg_entry_eq]
  generalize (lg_sl [.int i, .int n] ++ List.replicate (2 - (lg_sl [.int i, .int n]).length) Slot.unset).toArray = ls at hl ⊢
  have hl : lv_has ls 2 [(0, .int i), (1, .int n)] := hl
  refine lv_iload_n hx hb dJ15_checkIndex_7cf53_0 rfl (lv_at hl 0 rfl) ?_
  refine lv_iload_n hx hb dJ15_checkIndex_7cf53_1 rfl (lv_at hl 1 rfl) ?_
  refine lv_null hx hb dJ15_checkIndex_7cf53_2 ?_
  refine k_Si (rest := []) (As := [.int i, .int n, .null]) ⟨hx, hb, hml, hown, hts⟩ hE hz hS hW (mtJ3_checkIndex_8e157 l z G ad σ ν ρ lo i n h1 h2) (va_cwS 3 hts gJ15_checkIndex_7cf53_J3_checkIndex_8e157 rfl rfl rfl (by decide +kernel) ⟨Nat.le_of_ble_eq_true rfl, Nat.le_of_ble_eq_true rfl⟩) rfl hl.1 rfl (Nat.le_of_ble_eq_true rfl) dJ15_checkIndex_7cf53_3 ⟨Nat.le_of_ble_eq_true rfl, Nat.le_of_ble_eq_true rfl⟩ (fun r S1 H locs hp hW hS => ?_)
  obtain ⟨rfl, rfl⟩ := hp
  exact W.iret (v := r) hx hb hr (fun t ht _ => ⟨⟨_, (σ, ν, ρ, lo), rfl, ⟨rfl, rfl⟩, WP.at9 ht hW⟩, hS.F ht⟩) hS.2.2 dJ15_checkIndex_7cf53_6 (hlocks := hlocks)

set_option maxHeartbeats 4000000 in
set_option maxRecDepth 100000 in
theorem mtJx4a65c_elementData_915e3 (l : Launch) (z : Nat) (G : Gl) (ad : Nat → Nat → Nat) (σ : SG) (ν : NU) (ρ : RH) (lo : Int64) (o0 : Nat) (i : Int32) (g1 : o0 < 3) (g2 : vp_in i (ν 7 o0 1)) (g3 : ν 8 o0 i.toNatClampNeg ≠ 0) : Met l yJx4a65c_elementData_915e3 wsJx4a65c_elementData_915e3 ({ frames := 0, cells := 0, slots := 0, locals := 0 } : Room) (Pcs z G ad (σ, ν, ρ, lo) [.ref (ad 7 o0), .int i]) (Qrs z G ad 3 (fun r S1 => S1 = (σ, ν, ρ, lo) ∧ r = ν 8 o0 i.toNatClampNeg - 1)) 0 0 (Az z) := by
  refine Met.ofW (cc := cJx4a65c_elementData_915e3) (maxL := 2) (ret := (some (.object "java/lang/Object"))) (by decide) rfl ?_
  intro p e s m args below meth c s₁ B hml hv
  obtain ⟨rfl, hz, hW, hE⟩ := hv
  have hx := B.exec
  have hb := B.bytes
  have hr := B.returns
  have hts := atoms_spec (ws := wsJx4a65c_elementData_915e3) B.pre
  have hown : s.vm.findClass RJx4a65c = some m.cls := findClass_of_methodNamed B.named
  have hlocks := B.notSynchronized
  have hS : va_S (Az z) s.heap s.heap [] := va_S.rf
  have hl := lv_entry [.ref (ad 7 o0), .int i] (n := 2) (Nat.le_of_ble_eq_true rfl)
  rw [lg_entry_eq]
  generalize (lg_sl [.ref (ad 7 o0), .int i] ++ List.replicate (2 - (lg_sl [.ref (ad 7 o0), .int i]).length) Slot.unset).toArray = ls at hl ⊢
  have hl : lv_has ls 2 [(0, .ref (ad 7 o0)), (1, .int i)] := hl
  have g4 := vp_lt g2
  have g5 : ν 7 o0 1 ≠ 0 := by omega
  refine lv_aload_n hx hb dJx4a65c_elementData_915e3_0 rfl (lv_at hl 0 rfl) ?_
  refine r_get7 hx hb hts hown hE hW o0 g1 (fun w h => List.mem_cons_of_mem _ (List.mem_append_right _ h)) 1 (by decide) (List.mem_of_getElem? (i := 1) rfl) (Or.inl rfl) (v := .ref (ad 8 o0)) (by simp [fl7, g5]) dJx4a65c_elementData_915e3_1 ?_
  refine lv_iload_n hx hb dJx4a65c_elementData_915e3_4 rfl (lv_at hl 1 rfl) ?_
  refine r_aldq hx hb hE hW 8 o0 (show o0 < 3 ∧ 0 < ν 7 o0 1 by omega) (n := ν 7 o0 1) (f := fun i => opn (ad 3) (ν 8 o0 i)) rfl 4 rfl g2 (v := .ref (ad 3 (ν 8 o0 i.toNatClampNeg - 1))) (by simp [opn, g3, va_rf]) dJx4a65c_elementData_915e3_5 ?_
  exact W.aret hx hb hr (Or.inl ⟨_, rfl⟩) (Or.inr ⟨_, rfl⟩) (fun t ht _ => ⟨⟨((σ, ν, ρ, lo), ν 8 o0 i.toNatClampNeg - 1), _, rfl, ⟨rfl, rfl⟩, rfl, WP.at9 ht hW⟩, hS.F ht⟩) hS.2.2 dJx4a65c_elementData_915e3_6 (hlocks := hlocks)

set_option maxHeartbeats 4000000 in
set_option maxRecDepth 100000 in
theorem mtJx4a65c_get_915e3 (l : Launch) (z : Nat) (G : Gl) (ad : Nat → Nat → Nat) (σ : SG) (ν : NU) (ρ : RH) (lo : Int64) (o0 : Nat) (i : Int32) (post : Nat → Prop) (h : wpJx4a65c_get_915e3 σ ν o0 i post) : Met l yJx4a65c_get_915e3 wsJx4a65c_get_915e3 ({ frames := 2, cells := 0, slots := 0, locals := 43 } : Room) (Pcs z G ad (σ, ν, ρ, lo) [.ref (ad 7 o0), .int i]) (Qrs z G ad 3 (fun r S1 => S1 = (σ, ν, ρ, lo) ∧ post r)) 0 0 (Az z) := by
  refine Met.ofW (cc := cJx4a65c_get_915e3) (maxL := 2) (ret := (some (.object "java/lang/Object"))) (by decide) rfl ?_
  intro p e s m args below meth c s₁ B hml hv
  obtain ⟨rfl, hz, hW, hE⟩ := hv
  have hx := B.exec
  have hb := B.bytes
  have hr := B.returns
  have hts := atoms_spec (ws := wsJx4a65c_get_915e3) B.pre
  have hown : s.vm.findClass RJx4a65c = some m.cls := findClass_of_methodNamed B.named
  have hlocks := B.notSynchronized
  have hS : va_S (Az z) s.heap s.heap [] := va_S.rf
  have hl := lv_entry [.ref (ad 7 o0), .int i] (n := 2) (Nat.le_of_ble_eq_true rfl)
  rw [lg_entry_eq]
  generalize (lg_sl [.ref (ad 7 o0), .int i] ++ List.replicate (2 - (lg_sl [.ref (ad 7 o0), .int i]).length) Slot.unset).toArray = ls at hl ⊢
  have hl : lv_has ls 2 [(0, .ref (ad 7 o0)), (1, .int i)] := hl
  obtain ⟨g1, g2, g3, g4, g5, h⟩ := h
  refine lv_iload_n hx hb dJx4a65c_get_915e3_0 rfl (lv_at hl 1 rfl) ?_
  refine lv_aload_n hx hb dJx4a65c_get_915e3_1 rfl (lv_at hl 0 rfl) ?_
  refine r_get7 hx hb hts hown hE hW o0 g1 (fun w h => List.mem_cons_of_mem _ (List.mem_append_right _ h)) 2 (by decide) (List.mem_of_getElem? (i := 1) rfl) (Or.inl rfl) (v := .int (σ 7 o0 2)) rfl dJx4a65c_get_915e3_2 ?_
  refine k_Si (rest := []) (As := [.int i, .int (σ 7 o0 2)]) ⟨hx, hb, hml, hown, hts⟩ hE hz hS hW (mtJ15_checkIndex_7cf53 l z G ad σ ν ρ lo i (σ 7 o0 2) g2 g3) (va_cwS 2 hts gJx4a65c_get_915e3_J15_checkIndex_7cf53 rfl rfl rfl (by decide +kernel) ⟨Nat.le_of_ble_eq_true rfl, Nat.le_of_ble_eq_true rfl⟩) rfl hl.1 rfl (Nat.le_of_ble_eq_true rfl) dJx4a65c_get_915e3_5 ⟨Nat.le_of_ble_eq_true rfl, Nat.le_of_ble_eq_true rfl⟩ (fun r S1 H locs hp hW hS => ?_)
  obtain ⟨rfl, rfl⟩ := hp
  refine lv_pop hx hb dJx4a65c_get_915e3_8 rfl ?_
  refine lv_aload_n hx hb dJx4a65c_get_915e3_9 rfl (lv_at hl 0 rfl) ?_
  refine lv_iload_n hx hb dJx4a65c_get_915e3_10 rfl (lv_at hl 1 rfl) ?_
  refine k_Vr (rest := []) (As := [.int r]) ⟨hx, hb, hml, hown, hts⟩ hE hz hS hW (mtJx4a65c_elementData_915e3 l z G ad σ ν ρ lo o0 r g1 g4 g5) (cwV 1 hts gJx4a65c_get_915e3_Jx4a65c_elementData_915e3 rfl rfl rfl (by decide +kernel) ⟨Nat.le_of_ble_eq_true rfl, Nat.le_of_ble_eq_true rfl⟩) (r_recv hE hW 7 o0 g1 (ci := 2) rfl rfl) rfl hl.1 rfl (Nat.le_of_ble_eq_true rfl) dJx4a65c_get_915e3_11 ⟨Nat.le_of_ble_eq_true rfl, Nat.le_of_ble_eq_true rfl⟩ (fun r2 S1 H locs hp hW hS => ?_)
  obtain ⟨rfl, rfl⟩ := hp
  exact W.aret hx hb hr (Or.inl ⟨_, rfl⟩) (Or.inr ⟨_, rfl⟩) (fun t ht _ => ⟨⟨((σ, ν, ρ, lo), ν 8 o0 r.toNatClampNeg - 1), _, rfl, ⟨rfl, h⟩, rfl, WP.at9 ht hW⟩, hS.F ht⟩) hS.2.2 dJx4a65c_get_915e3_14 (hlocks := hlocks)

theorem tJx4a65c_clear_27 {p : Program} {l : Launch} {e : Env} {s : State} {m : MethodId} {args : Array Value} {below : List Frame} {meth : Method} {c : Code} {z : Nat} {G : Gl} {ad : Nat → Nat → Nat} {σ : SG} {ν : NU} {ρ : RH} {lo : Int64} {R : Room} {Q : State → Prop} {o n E : Nat} (hx : p.tables.exec = Jvm.exec) (hb : c.code = cJx4a65c_clear_da8c8) (hE : Ev z G s) (ho : o < 3) (hn : n ≤ ν 7 o 1) (hn2 : n ≤ 60) (hcap : ν 7 o 1 ≤ 60) (hEl : n = 0 ∨ E = ad 8 o)
    (hk : ∀ {H : Heap} {locs : List Loc} {ls : Array Slot}, WP z G ad (σ, r3 ν 8 o (fun i => if i < n then 0 else ν 8 o i), ρ, lo) H → va_S (Az z) s.heap H locs → W p l e R s m args below meth c H locs 0 0 Q (F0 m 42 ls [])) :
    ∀ (d j : Nat), j + d = n → ∀ {H : Heap} {locs : List Loc} {ls : Array Slot}, WP z G ad (σ, r3 ν 8 o (fun i => if i < j then 0 else ν 8 o i), ρ, lo) H → va_S (Az z) s.heap H locs → lv_has ls 4 [(3, .int (nI j)), (2, .int (nI n)), (1, .ref E)] → W p l e R s m args below meth c H locs 0 0 Q (F0 m 27 ls []) := by
  intro d
  induction d with
  | zero =>
    intro j hj H locs ls hW hS hl
    have hjn : j = n := by omega
    subst hjn
    refine lv_iload_n hx hb dJx4a65c_clear_da8c8_27 rfl (lv_at hl 0 rfl) ?_
    refine lv_iload_n hx hb dJx4a65c_clear_da8c8_28 rfl (lv_at hl 1 rfl) ?_
    refine lv_icmp_ge (tgt := 42) hx hb dJx4a65c_clear_da8c8_29 (by decide) (fun _ => hk hW hS) (fun q => absurd (Int32.le_refl _) q)
  | succ d ih =>
    intro j hj H locs ls hW hS hl
    have hjn : j < n := by omega
    refine lv_iload_n hx hb dJx4a65c_clear_da8c8_27 rfl (lv_at hl 0 rfl) ?_
    refine lv_iload_n hx hb dJx4a65c_clear_da8c8_28 rfl (lv_at hl 1 rfl) ?_
    refine lv_icmp_ge (tgt := 42) hx hb dJx4a65c_clear_da8c8_29 (by decide) (fun q => absurd q (nI_ge hjn (by omega))) (fun _ => ?_)
    have hE2 : E = ad 8 o := hEl.resolve_left (by omega)
    subst hE2
    have e7 : (r3 ν 8 o (fun i => if i < j then 0 else ν 8 o i)) 7 o 1 = ν 7 o 1 := by rw [r3_oth (fun q => absurd q.1 (by decide))]
    refine lv_aload_n hx hb dJx4a65c_clear_da8c8_32 rfl (lv_at hl 2 rfl) ?_
    refine lv_iload_n hx hb dJx4a65c_clear_da8c8_33 rfl (lv_at hl 0 rfl) ?_
    refine lv_null hx hb dJx4a65c_clear_da8c8_34 ?_
    refine r_eldN hx hb hE hW hS o (show o < 3 ∧ 0 < _ by rw [e7]; omega) (by rw [e7]; exact vp_in_nI (by omega) (Nat.lt_of_le_of_lt hcap (by decide))) dJx4a65c_clear_da8c8_35 (fun ν1 e1 H locs hW hS => ?_)
    refine lv_iinc (v := nI (j + 1)) (lv' := [(3, .int (nI (j + 1))), (2, .int (nI n)), (1, .ref (ad 8 o))]) hx hb dJx4a65c_clear_da8c8_36 hl (k := 0) rfl (nI_1 j) (by decide) rfl (fun ls hl => ?_)
    refine lv_goto (tgt := 27) hx hb dJx4a65c_clear_da8c8_39 (by decide) ?_
    have e2 : ν1 = r3 ν 8 o (fun i => if i < j + 1 then 0 else ν 8 o i) := by
      rw [e1, nI_clamp (by omega)]
      funext a b i
      by_cases h : a = 8 ∧ b = o
      · obtain ⟨rfl, rfl⟩ := h
        by_cases hi : i = j
        · subst hi; simp [u3, r3]
        · have : (i < j + 1) ↔ (i < j) := by omega
          simp [u3, r3, hi, this]
      · rw [u3_oth h, r3_oth h, r3_oth h]
    rw [e2] at hW
    exact ih (j + 1) (by omega) hW hS hl

set_option maxHeartbeats 4000000 in
set_option maxRecDepth 100000 in
theorem mtJx4a65c_clear_da8c8 (l : Launch) (z : Nat) (G : Gl) (ad : Nat → Nat → Nat) (σ : SG) (ν : NU) (ρ : RH) (lo : Int64) (o0 : Nat) (post : SG → NU → Prop) (h : wpJx4a65c_clear_da8c8 σ ν o0 post) : Met l yJx4a65c_clear_da8c8 wsJx4a65c_clear_da8c8 ({ frames := 0, cells := 0, slots := 0, locals := 0 } : Room) (Pcs z G ad (σ, ν, ρ, lo) [.ref (ad 7 o0)]) (Qvs z G ad (fun S1 => ∃ (t : SG) (u : NU), S1 = (t, u, ρ, lo) ∧ u 99 = ν 99 ∧ post t u)) 0 0 (Az z) := by
  refine Met.ofW (cc := cJx4a65c_clear_da8c8) (maxL := 4) (ret := none) (by decide) rfl ?_
  intro p e s m args below meth c s₁ B hml hv
  obtain ⟨rfl, hz, hW, hE⟩ := hv
  have hx := B.exec
  have hb := B.bytes
  have hr := B.returns
  have hts := atoms_spec (ws := wsJx4a65c_clear_da8c8) B.pre
  have hown : s.vm.findClass RJx4a65c = some m.cls := findClass_of_methodNamed B.named
  have hlocks := B.notSynchronized
  have hS : va_S (Az z) s.heap s.heap [] := va_S.rf
  have hl := lv_entry [.ref (ad 7 o0)] (n := 4) (Nat.le_of_ble_eq_true rfl)
  rw [lg_entry_eq]
  generalize (lg_sl [.ref (ad 7 o0)] ++ List.replicate (4 - (lg_sl [.ref (ad 7 o0)]).length) Slot.unset).toArray = ls at hl ⊢
  have hl : lv_has ls 4 [(0, .ref (ad 7 o0))] := hl
  obtain ⟨g1, n, g2, g3, g4, g5, h⟩ := h
  refine lv_aload_n hx hb dJx4a65c_clear_da8c8_0 rfl (lv_at hl 0 rfl) ?_
  refine lv_dup hx hb dJx4a65c_clear_da8c8_1 rfl ?_
  refine r_get7 hx hb hts hown hE hW o0 g1 (fun w h => List.mem_cons_of_mem _ (List.mem_append_right _ h)) 0 (by decide) (List.mem_of_getElem? (i := 1) rfl) (Or.inr (List.mem_of_getElem? (i := 2) rfl)) (v := .int (σ 7 o0 0)) rfl dJx4a65c_clear_da8c8_2 ?_
  refine lv_iconst (v := (1 : Int32)) hx hb dJx4a65c_clear_da8c8_5 (by decide) ?_
  refine lv_iadd hx hb dJx4a65c_clear_da8c8_6 ?_
  refine r_put7 hx hb hts hown hE hW hS o0 g1 (fun w h => List.mem_cons_of_mem _ (List.mem_append_right _ h)) 0 (by decide) (List.mem_of_getElem? (i := 1) rfl) (Or.inr (List.mem_of_getElem? (i := 2) rfl)) rfl rfl (x := σ 7 o0 0 + 1) rfl dJx4a65c_clear_da8c8_7 (fun σ1 e1 H locs hW hS => ?_)
  refine lv_aload_n hx hb dJx4a65c_clear_da8c8_10 rfl (lv_at hl 0 rfl) ?_
  refine r_get7 hx hb hts hown hE hW o0 g1 (fun w h => List.mem_cons_of_mem _ (List.mem_append_right _ h)) 1 (by decide) (List.mem_of_getElem? (i := 3) rfl) (Or.inl rfl) (v := .ref (if ν 7 o0 1 = 0 then G.2.2.1 else ad 8 o0)) rfl dJx4a65c_clear_da8c8_11 ?_
  refine lv_astore_n (lv' := [(1, .ref (if ν 7 o0 1 = 0 then G.2.2.1 else ad 8 o0)), (0, .ref (ad 7 o0))]) hx hb dJx4a65c_clear_da8c8_14 rfl hl (by decide) rfl (fun ls hl => ?_)
  refine lv_aload_n hx hb dJx4a65c_clear_da8c8_15 rfl (lv_at hl 1 rfl) ?_
  have e2 : σ1 7 o0 2 = nI n := by rw [e1, ← g2]; simp [u3]
  refine r_get7 hx hb hts hown hE hW o0 g1 (fun w h => List.mem_cons_of_mem _ (List.mem_append_right _ h)) 2 (by decide) (List.mem_of_getElem? (i := 4) rfl) (Or.inl rfl) (v := .int (nI n)) (by simp [fl7, e2]) dJx4a65c_clear_da8c8_16 ?_
  refine lv_istore_n (lv' := [(2, .int (nI n)), (1, .ref (if ν 7 o0 1 = 0 then G.2.2.1 else ad 8 o0)), (0, .ref (ad 7 o0))]) hx hb dJx4a65c_clear_da8c8_19 rfl hl (by decide) rfl (fun ls hl => ?_)
  refine lv_aload_n hx hb dJx4a65c_clear_da8c8_20 rfl (lv_at hl 2 rfl) ?_
  refine lv_iconst (v := (0 : Int32)) hx hb dJx4a65c_clear_da8c8_21 (by decide) ?_
  refine lv_dup_x1 hx hb dJx4a65c_clear_da8c8_22 rfl rfl ?_
  refine r_put7 hx hb hts hown hE hW hS o0 g1 (fun w h => List.mem_cons_of_mem _ (List.mem_append_right _ h)) 2 (by decide) (List.mem_of_getElem? (i := 4) rfl) (Or.inl rfl) rfl rfl (x := 0) rfl dJx4a65c_clear_da8c8_23 (fun σ2 e3 H locs hW hS => ?_)
  refine lv_istore_n (lv' := [(3, .int 0), (2, .int (nI n)), (1, .ref (if ν 7 o0 1 = 0 then G.2.2.1 else ad 8 o0)), (0, .ref (ad 7 o0))]) hx hb dJx4a65c_clear_da8c8_26 rfl hl (by decide) rfl (fun ls hl => ?_)
  have e4 : r3 ν 8 o0 (fun i => if i < 0 then 0 else ν 8 o0 i) = ν := by
    funext a b i
    by_cases h : a = 8 ∧ b = o0
    · obtain ⟨rfl, rfl⟩ := h; simp [r3]
    · rw [r3_oth h]
  refine tJx4a65c_clear_27 (σ := σ2) (ad := ad) (n := n) hx hb hE g1 g3 g4 g5 (if q : ν 7 o0 1 = 0 then Or.inl (by omega) else Or.inr (if_neg q)) (fun {H locs ls} hW hS => ?_) n 0 (by omega) (by rw [e4]; exact hW) hS (lv_sub hl [0, 1, 2] rfl)
  have h := h σ2 _ (by rw [e3, e1]) rfl
  exact W.vret hx hb hr (fun t ht _ => ⟨⟨(σ2, _, ρ, lo), rfl, ⟨_, _, rfl, by rw [show (r3 ν 8 o0 (fun i => if i < n then 0 else ν 8 o0 i)) 99 = ν 99 from funext fun b => r3_oth (fun q => absurd q.1 (by decide))], h⟩, WP.at9 ht hW⟩, hS.F ht⟩) hS.2.2 dJx4a65c_clear_da8c8_42 (hlocks := hlocks)

