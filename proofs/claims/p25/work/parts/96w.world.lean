/-! the first world, out of the text of the whole row. -/
section CG
variable {D : va_G} {cl : List vw_C} {H : Heap}
/-- the same cells, but for what lies behind an array's end -/
def cong9 (D : va_G) (cl : List vw_C) (H : Heap) (A B : va_W) : Prop := A.length = B.length ∧ ∀ (i : Nat) (x : Nat × va_E), B[i]? = some x → ∃ x0 : Nat × va_E, A[i]? = some x0 ∧ x0.1 = x.1 ∧ (va_at D cl x0 H → va_at D cl x H)
theorem cong9.nil : cong9 D cl H [] [] := ⟨rfl, fun i x h => by simp at h⟩
theorem cong9.cons {x y : Nat × va_E} {A B : va_W} (h1 : x.1 = y.1) (h2 : va_at D cl x H → va_at D cl y H) (h : cong9 D cl H A B) : cong9 D cl H (x :: A) (y :: B) := by
  refine ⟨by rw [List.length_cons, List.length_cons, h.1], fun i z hz => ?_⟩
  cases i with
  | zero =>
    rw [List.getElem?_cons_zero] at hz
    cases hz
    exact ⟨x, rfl, h1, h2⟩
  | succ i =>
    rw [List.getElem?_cons_succ] at hz
    rw [List.getElem?_cons_succ]
    exact h.2 i z hz
theorem cong9.app {A B A' B' : va_W} (h : cong9 D cl H A B) (h' : cong9 D cl H A' B') : cong9 D cl H (A ++ A') (B ++ B') := by
  refine ⟨by rw [List.length_append, List.length_append, h.1, h'.1], fun i z hz => ?_⟩
  by_cases hi : i < B.length
  · rw [List.getElem?_append_left hi] at hz
    rw [List.getElem?_append_left (by rw [h.1]; exact hi)]
    exact h.2 i z hz
  · rw [List.getElem?_append_right (by omega)] at hz
    rw [List.getElem?_append_right (by rw [h.1]; omega), h.1]
    exact h'.2 _ z hz
theorem cong9.rf {A : va_W} : cong9 D cl H A A := ⟨rfl, fun _ x h => ⟨x, h, rfl, id⟩⟩
theorem cong9.of {A B : va_W} (e : A = B) : cong9 D cl H A B := e ▸ cong9.rf
theorem va_at_q {a n : Nat} {cA : ClassId} {f f' : Nat → Option Nat} (h : ∀ j, j < n → f j = f' j) (hq : va_at D cl (a, .inl (cA, n, .inr (.inr (.inr (.inr f))))) H) : va_at D cl (a, .inl (cA, n, .inr (.inr (.inr (.inr f'))))) H := by
  have e : (fun j : Fin n => va_rf (f j.val)) = fun j : Fin n => va_rf (f' j.val) := funext fun j => by rw [h j.1 j.2]
  have hq : H[a]? = some ({ cls := cA, slots := Array.ofFn (n := n) fun j => va_rf (f j.val), vm := .none } : Cell) := hq
  show H[a]? = some ({ cls := cA, slots := Array.ofFn (n := n) fun j => va_rf (f' j.val), vm := .none } : Cell)
  rw [hq, e]
theorem CW.cong {z : Nat} {G : Gl} {A B : va_W} (h : CW z G [] A H) (hc : cong9 G.1 vwCl H A B) : CW z G [] B H := by
  obtain ⟨hP, hD⟩ := h
  rw [List.nil_append] at hP hD
  refine ⟨?_, ?_⟩
  · rw [List.nil_append]
    intro k q hk
    obtain ⟨x0, h0, -, h2⟩ := hc.2 k q hk
    exact h2 (hP k x0 h0)
  · rw [List.nil_append]
    refine ⟨fun i j p q hi hj he => ?_, fun k q hk => ?_⟩
    · obtain ⟨p0, a1, a2, -⟩ := hc.2 i p hi
      obtain ⟨q0, b1, b2, -⟩ := hc.2 j q hj
      exact hD.1 i j p0 q0 a1 b1 (by rw [a2, b2, he])
    · obtain ⟨q0, b1, b2, -⟩ := hc.2 k q hk
      rw [← b2]
      exact hD.2 k q0 b1
end CG
/-- the state of the first world -/
def sg0 (FF GG UU WW : Nat → Nat → Int32) : SG := fun k o i => match k with
  | 0 => if i = 6 then -1 else 0
  | 3 => -1
  | 5 => if i = 2 then 7 else if i = 3 then -1 else 0
  | 6 => -1
  | 7 => if o = 0 then 0 else if i = 0 then 0 + 1 else 0
  | 11 => FF o i
  | 12 => GG o i
  | 14 => UU o i
  | 15 => WW o i
  | _ => 0
def nu0 : NU := fun k _ _ => if k = 99 then 1 else 0
def rh0 : RH := fun j _ => match j with
  | 5 => 7
  | 6 => -1
  | _ => 0
def rl0 : RH := fun _ _ => 0
def ad0 (a q0 : Nat) (VA : Nat → Nat) (BB : Nat → Nat → Nat) (TT : Nat → Nat → Nat × Nat × Nat) (i0 t0 : Nat) (pp : Nat → Nat) (mm : Nat → Nat) : Nat → Nat → Nat := fun k o => match k with
  | 0 => a
  | 1 => VA o
  | 2 => if o % 21 = 0 then BB (o / 21) 8 else (TT (o / 21) (o % 21 - 1)).1
  | 3 => i0
  | 4 => pp (2 * o + 1)
  | 5 => t0
  | 6 => pp (5 + o)
  | 7 => if o = 0 then q0 else BB (o - 1) 1
  | 11 => BB o 2
  | 12 => BB o 3
  | 13 => BB o 4
  | 14 => BB o 5
  | 15 => BB o 6
  | 16 => BB o 7
  | 18 => BB o 9
  | 20 => if o % 21 = 0 then BB (o / 21) 10 else (TT (o / 21) (o % 21 - 1)).2.1
  | 21 => if o % 21 = 0 then BB (o / 21) 11 else (TT (o / 21) (o % 21 - 1)).2.2
  | 22 => pp (2 * o + 2)
  | k => mm (k - 100)
def LT9 (v : Nat) : List (Nat × Nat) := (List.range 20).flatMap fun p => [(2, 21 * v + 1 + p), (20, 21 * v + 1 + p), (21, 21 * v + 1 + p)]
def LW9 (v : Nat) : List (Nat × Nat) := (1, v) :: (7, 1 + v) :: (11, v) :: (12, v) :: (13, v) :: (14, v) :: (15, v) :: (16, v) :: (2, 21 * v) :: (20, 21 * v) :: (21, 21 * v) :: (18, v) :: LT9 v
def LP9 : List (Nat × Nat) := [(3, 0), (4, 0), (22, 0), (4, 1), (22, 1), (6, 0), (6, 1), (6, 2)]
def LA9 : List (Nat × Nat) := (0, 0) :: (((([(7, 0)] ++ LW9 0) ++ LW9 1) ++ [(5, 0)]) ++ LP9)
def LX9 : List (Nat × Nat) := (((LA9 ++ [(100, 0)]) ++ [(101, 0)]) ++ [(102, 0)]) ++ [(103, 0)]
section W0
variable {a q0 : Nat} {VA : Nat → Nat} {BB : Nat → Nat → Nat} {TT : Nat → Nat → Nat × Nat × Nat} {i0 t0 : Nat} {pp : Nat → Nat} {mm : Nat → Nat} {FF GG UU WW : Nat → Nat → Int32} {G : Gl} {D : va_G} {cl : List vw_C} {H : Heap}
theorem ad0_t {v p : Nat} (hp : p < 20) : (ad0 a q0 VA BB TT i0 t0 pp mm) 2 (21 * v + 1 + p) = (TT v p).1 ∧ (ad0 a q0 VA BB TT i0 t0 pp mm) 20 (21 * v + 1 + p) = (TT v p).2.1 ∧ (ad0 a q0 VA BB TT i0 t0 pp mm) 21 (21 * v + 1 + p) = (TT v p).2.2 := by
  have h1 : ¬ (21 * v + 1 + p) % 21 = 0 := by omega
  have h2 : (21 * v + 1 + p) / 21 = v := by omega
  have h3 : (21 * v + 1 + p) % 21 - 1 = p := by omega
  refine ⟨?_, ?_, ?_⟩
  · show (if _ then _ else _) = _
    rw [if_neg h1, h2, h3]
  · show (if _ then _ else _) = _
    rw [if_neg h1, h2, h3]
  · show (if _ then _ else _) = _
    rw [if_neg h1, h2, h3]
theorem txt_eq {v : Nat} : tx G (TT v) 20 = (LT9 v).map (cel G (ad0 a q0 VA BB TT i0 t0 pp mm) ((sg0 FF GG UU WW, nu0, rl0, (0 : Int64)) : St)) := by
  unfold tx LT9
  rw [List.map_flatMap, List.flatMap_def, List.flatMap_def]
  refine congrArg List.flatten (List.map_congr_left (fun p hp => ?_))
  obtain ⟨e1, e2, e3⟩ := @ad0_t a q0 VA BB TT i0 t0 pp mm v p (List.mem_range.mp hp)
  show tc G (TT v p) = [((ad0 a q0 VA BB TT i0 t0 pp mm) 2 (21 * v + 1 + p), (.inr (7, [.ref ((ad0 a q0 VA BB TT i0 t0 pp mm) 20 (21 * v + 1 + p)), .ref ((ad0 a q0 VA BB TT i0 t0 pp mm) 21 (21 * v + 1 + p)), .int 0]) : va_E)), ((ad0 a q0 VA BB TT i0 t0 pp mm) 20 (21 * v + 1 + p), .inl (G.2.1 0, 12, .inl (fun _ => 0))), ((ad0 a q0 VA BB TT i0 t0 pp mm) 21 (21 * v + 1 + p), .inl (G.2.1 0, 12, .inl (fun _ => 0)))]
  rw [e1, e2, e3]
  rfl
theorem view_cong {v : Nat} (hv : v < 2) {h : Nat → Option Nat} (hh : ∀ j, j < 40 → h j = none) : cong9 D cl H (vw7 G (VA v) (BB v) (0 + 1) (FF v) (GG v) h (UU v) (WW v) (vx5 G (BB v) (TT v) 20)) ((LW9 v).map (cel G (ad0 a q0 VA BB TT i0 t0 pp mm) ((sg0 FF GG UU WW, nu0, rl0, (0 : Int64)) : St))) := by
  rcases (show v = 0 ∨ v = 1 by omega) with rfl | rfl
  all_goals
    refine .cons rfl id (.cons rfl id (.cons rfl id (.cons rfl id (.cons rfl (va_at_q hh) (.cons rfl id (.cons rfl id (.cons rfl (va_at_q (fun j hj => ?_)) (.cons rfl id (.cons rfl id (.cons rfl id (.cons rfl id (.of txt_eq))))))))))))
    unfold tar
    rw [if_pos hj]
    exact congrArg some (ad0_t hj).1.symm
theorem class_cong {V0 V1 : va_W} (h0 : cong9 D cl H V0 ((LW9 0).map (cel G (ad0 a q0 VA BB TT i0 t0 pp mm) ((sg0 FF GG UU WW, nu0, rl0, (0 : Int64)) : St)))) (h1 : cong9 D cl H V1 ((LW9 1).map (cel G (ad0 a q0 VA BB TT i0 t0 pp mm) ((sg0 FF GG UU WW, nu0, rl0, (0 : Int64)) : St)))) : cong9 D cl H ((a, (.inr (9, [.ref q0, .ref (VA 0), .ref (VA 1), .ref i0, .int 0, .int 0, .int (-1), .int 0]) : va_E)) :: (((([(q0, (.inr (2, [.int 0, .ref G.2.2.1, .int 0]) : va_E))] ++ V0) ++ V1) ++ [(t0, (.inr (6, [.int 0, .int 0, .int 7, .int (-1)]) : va_E))]) ++ [(i0, (.inr (3, [.int (-1), .int (-1), .int (-1), .int (-1), .int (-1), .int (-1), .int (-1), .ref t0, .ref (pp 1), .ref (pp 3), .ref (pp 5), .ref (pp 6), .ref (pp 7)]) : va_E)), (pp 1, .inr (5, [.ref (pp 2), .int 0])), (pp 2, .inl (G.2.1 0, 4, .inl (fun _ => 0))), (pp 3, .inr (5, [.ref (pp 4), .int 0])), (pp 4, .inl (G.2.1 0, 4, .inl (fun _ => 0))), (pp 5, .inr (4, [.int (-1), .int (-1), .int (-1)])), (pp 6, .inr (4, [.int (-1), .int (-1), .int (-1)])), (pp 7, .inr (4, [.int (-1), .int (-1), .int (-1)]))])) (LA9.map (cel G (ad0 a q0 VA BB TT i0 t0 pp mm) ((sg0 FF GG UU WW, nu0, rl0, (0 : Int64)) : St))) := by
  have e : LA9.map (cel G (ad0 a q0 VA BB TT i0 t0 pp mm) ((sg0 FF GG UU WW, nu0, rl0, (0 : Int64)) : St)) = cel G (ad0 a q0 VA BB TT i0 t0 pp mm) ((sg0 FF GG UU WW, nu0, rl0, (0 : Int64)) : St) (0, 0) :: (((([cel G (ad0 a q0 VA BB TT i0 t0 pp mm) ((sg0 FF GG UU WW, nu0, rl0, (0 : Int64)) : St) (7, 0)] ++ (LW9 0).map (cel G (ad0 a q0 VA BB TT i0 t0 pp mm) ((sg0 FF GG UU WW, nu0, rl0, (0 : Int64)) : St))) ++ (LW9 1).map (cel G (ad0 a q0 VA BB TT i0 t0 pp mm) ((sg0 FF GG UU WW, nu0, rl0, (0 : Int64)) : St))) ++ [cel G (ad0 a q0 VA BB TT i0 t0 pp mm) ((sg0 FF GG UU WW, nu0, rl0, (0 : Int64)) : St) (5, 0)]) ++ LP9.map (cel G (ad0 a q0 VA BB TT i0 t0 pp mm) ((sg0 FF GG UU WW, nu0, rl0, (0 : Int64)) : St))) := by
    simp only [LA9, List.map_cons, List.map_append, List.map_nil]
  rw [e]
  exact .cons rfl id (((((cong9.nil.cons rfl id).app h0).app h1).app (cong9.nil.cons rfl id)).app (.cons rfl id (.cons rfl id (.cons rfl id (.cons rfl id (.cons rfl id (.cons rfl id (.cons rfl id (.cons rfl id .nil)))))))))
theorem row_cong0 : cong9 D cl H [(mm 0, .inl (G.2.1 0, 14, .inl (fun _ => 0)))] ([(100, 0)].map (cel G (ad0 a q0 VA BB TT i0 t0 pp mm) ((sg0 FF GG UU WW, nu0, rl0, (0 : Int64)) : St))) := .of rfl
theorem row_cong1 : cong9 D cl H [(mm 1, .inl (G.2.1 0, 40, .inl (fun _ => 0)))] ([(101, 0)].map (cel G (ad0 a q0 VA BB TT i0 t0 pp mm) ((sg0 FF GG UU WW, nu0, rl0, (0 : Int64)) : St))) := .of rfl
theorem row_cong2 : cong9 D cl H [(mm 2, .inl (G.2.1 0, 40, .inl (fun _ => 0)))] ([(102, 0)].map (cel G (ad0 a q0 VA BB TT i0 t0 pp mm) ((sg0 FF GG UU WW, nu0, rl0, (0 : Int64)) : St))) := .of rfl
theorem row_cong3 : cong9 D cl H [(mm 3, .inl (G.2.1 0, 40, .inl (fun _ => 0)))] ([(103, 0)].map (cel G (ad0 a q0 VA BB TT i0 t0 pp mm) ((sg0 FF GG UU WW, nu0, rl0, (0 : Int64)) : St))) := .of rfl
end W0
/-- which cells there are at first -/
theorem LT9_mem {v k o : Nat} : (k, o) ∈ LT9 v ↔ (k = 2 ∨ k = 20 ∨ k = 21) ∧ 21 * v + 1 ≤ o ∧ o < 21 * v + 21 := by
  unfold LT9
  simp only [List.mem_flatMap, List.mem_range, List.mem_cons, Prod.mk.injEq, List.not_mem_nil, or_false]
  constructor
  · rintro ⟨p, hp, h⟩
    omega
  · rintro ⟨h1, h2, h3⟩
    exact ⟨o - 21 * v - 1, by omega, by omega⟩
theorem ex_V {v : Nat} (hv : v < 2) : ∀ x ∈ LW9 v, ex nu0 x.1 x.2 := by
  refine List.forall_mem_cons.mpr ⟨hv, List.forall_mem_cons.mpr ⟨(show 1 + v < 3 by omega), List.forall_mem_cons.mpr ⟨hv, List.forall_mem_cons.mpr ⟨hv, List.forall_mem_cons.mpr ⟨hv, List.forall_mem_cons.mpr ⟨hv, List.forall_mem_cons.mpr ⟨hv, List.forall_mem_cons.mpr ⟨hv, List.forall_mem_cons.mpr ⟨(show 21 * v < 42 by omega), List.forall_mem_cons.mpr ⟨(show 21 * v < 42 by omega), List.forall_mem_cons.mpr ⟨(show 21 * v < 42 by omega), List.forall_mem_cons.mpr ⟨hv, ?_⟩⟩⟩⟩⟩⟩⟩⟩⟩⟩⟩⟩
  rintro ⟨k, o⟩ h
  obtain ⟨h1, h2, h3⟩ := LT9_mem.mp h
  rcases h1 with rfl | rfl | rfl
  · show o < 42
    omega
  · show o < 42
    omega
  · show o < 42
    omega
theorem ex_P : ∀ x ∈ LP9, ex nu0 x.1 x.2 :=
  List.forall_mem_cons.mpr ⟨(show 0 < 1 by decide), List.forall_mem_cons.mpr ⟨(show 0 < 2 by decide), List.forall_mem_cons.mpr ⟨(show 0 < 2 by decide), List.forall_mem_cons.mpr ⟨(show 1 < 2 by decide), List.forall_mem_cons.mpr ⟨(show 1 < 2 by decide), List.forall_mem_cons.mpr ⟨(show 0 < 3 by decide), List.forall_mem_cons.mpr ⟨(show 1 < 3 by decide), List.forall_mem_cons.mpr ⟨(show 2 < 3 by decide), fun _ h => absurd h List.not_mem_nil⟩⟩⟩⟩⟩⟩⟩⟩
theorem ex_X : ∀ x ∈ LX9, ex nu0 x.1 x.2 := by
  intro x hx
  have last : ∀ k, k = 100 ∨ k = 101 ∨ k = 102 ∨ k = 103 → x ∈ [(k, 0)] → ex nu0 x.1 x.2 := fun k hk h => by
    rw [List.mem_singleton] at h
    subst h
    rcases hk with rfl | rfl | rfl | rfl
    · exact (show 0 = 0 ∧ 100 ≤ 100 ∧ 0 < mlen (100 - 100) from ⟨rfl, by decide, by decide⟩)
    · exact (show 0 = 0 ∧ 100 ≤ 101 ∧ 0 < mlen (101 - 100) from ⟨rfl, by decide, by decide⟩)
    · exact (show 0 = 0 ∧ 100 ≤ 102 ∧ 0 < mlen (102 - 100) from ⟨rfl, by decide, by decide⟩)
    · exact (show 0 = 0 ∧ 100 ≤ 103 ∧ 0 < mlen (103 - 100) from ⟨rfl, by decide, by decide⟩)
  rcases List.mem_append.mp hx with hx | hx
  rotate_left
  · exact last 103 (by omega) hx
  rcases List.mem_append.mp hx with hx | hx
  rotate_left
  · exact last 102 (by omega) hx
  rcases List.mem_append.mp hx with hx | hx
  rotate_left
  · exact last 101 (by omega) hx
  rcases List.mem_append.mp hx with hx | hx
  rotate_left
  · exact last 100 (by omega) hx
  rcases List.mem_cons.mp hx with rfl | hx
  · exact (show 0 = 0 from rfl)
  · rcases List.mem_append.mp hx with hx | hx
    · rcases List.mem_append.mp hx with hx | hx
      · rcases List.mem_append.mp hx with hx | hx
        · rcases List.mem_append.mp hx with hx | hx
          · rw [List.mem_singleton] at hx
            subst hx
            exact (show 0 < 3 by decide)
          · exact ex_V (by decide) x hx
        · exact ex_V (by decide) x hx
      · rw [List.mem_singleton] at hx
        subst hx
        exact (show 0 < 1 by decide)
    · exact ex_P x hx
theorem mlen_big {j : Nat} (h : 4 ≤ j) : mlen j = 0 := by
  unfold mlen
  split
  all_goals first
    | rfl
    | omega
set_option maxRecDepth 100000 in
theorem mem_X : (∀ o, o < 2 → (1, o) ∈ LX9) ∧ (∀ o, o < 42 → (2, o) ∈ LX9) ∧ (∀ o, o < 2 → (4, o) ∈ LX9) ∧ (∀ o, o < 3 → (6, o) ∈ LX9) ∧ (∀ o, o < 3 → (7, o) ∈ LX9) ∧ (∀ o, o < 42 → (20, o) ∈ LX9) ∧ (∀ o, o < 42 → (21, o) ∈ LX9) ∧ (∀ o, o < 2 → (22, o) ∈ LX9) ∧ (∀ k ∈ [11, 12, 13, 14, 15, 16, 18], ∀ o, o < 2 → (k, o) ∈ LX9) ∧ (∀ k ∈ [0, 3, 5], (k, 0) ∈ LX9) ∧ (∀ j, j < 4 → 0 < mlen j → (100 + j, 0) ∈ LX9) :=
  ⟨by decide +kernel, by decide +kernel, by decide +kernel, by decide +kernel, by decide +kernel, by decide +kernel, by decide +kernel, by decide +kernel, by decide +kernel, by decide +kernel, by decide +kernel⟩
set_option maxHeartbeats 400000 in
theorem ex_LX9 (k o : Nat) : ex nu0 k o ↔ (k, o) ∈ LX9 := by
  refine ⟨fun h => ?_, fun h => ex_X _ h⟩
  obtain ⟨x1, x2, x4, x6, x7, x20, x21, x22, xa, xb, xc⟩ := mem_X
  unfold ex at h
  split at h
  · subst h; exact xb 0 (by decide)
  · exact x1 o h
  · exact x2 o h
  · obtain rfl : o = 0 := Nat.lt_one_iff.mp h
    exact xb 3 (by decide)
  · exact x4 o h
  · obtain rfl : o = 0 := Nat.lt_one_iff.mp h
    exact xb 5 (by decide)
  · exact x6 o h
  · exact x7 o h
  · exact absurd h.2 (Nat.lt_irrefl _)
  · exact xa 11 (by decide) o h
  · exact xa 12 (by decide) o h
  · exact xa 13 (by decide) o h
  · exact xa 14 (by decide) o h
  · exact xa 15 (by decide) o h
  · exact xa 16 (by decide) o h
  · exact xa 18 (by decide) o h
  · exact x20 o h
  · exact x21 o h
  · exact x22 o h
  · exact h.elim
  · exact h.elim
  · obtain ⟨rfl, h2, h3⟩ := h
    have h4 : k - 100 < 4 := by
      refine Nat.lt_of_not_le (fun q => ?_)
      rw [mlen_big q] at h3
      exact absurd h3 (Nat.lt_irrefl _)
    have h5 := xc (k - 100) h4 h3
    rwa [show 100 + (k - 100) = k by omega] at h5
theorem wds_0 (g : Nat → Int32) : wds 0 g = [] := rfl
theorem okd_0 : okd 0 := ⟨by decide, by decide⟩
theorem okw_0 : okw 0 := ⟨by decide, by decide⟩
theorem dat_0 : DAT 0 0 rh0 := ⟨by decide, by decide, rfl, rfl, fun _ h => absurd h (Nat.not_lt_zero _), fun _ _ h => absurd h (Nat.not_lt_zero _), fun _ _ _ h => absurd h (Nat.not_lt_zero _)⟩
theorem sim_0 {FF GG UU WW : Nat → Nat → Int32} (h2 : ok2 (UU 0) (WW 0) 20) : SIM (sg0 FF GG UU WW) nu0 rh0 0 0 := by
  refine ⟨⟨dat_0, ⟨by decide, fun _ h => absurd h (Nat.not_lt_zero _)⟩, ⟨rfl, rfl, ⟨rfl, ⟨by decide, by decide, by decide, by decide, fun _ h => absurd h (Nat.not_lt_zero _)⟩, fun _ h => absurd h (Nat.not_lt_zero _)⟩, ⟨fun _ _ => (show 0 ≤ 1 by decide), fun _ _ => (show 0 ≤ 2 by decide), (show 0 < 1 by decide), fun _ _ => (show 0 < 1 by decide)⟩, ⟨0, rfl, by decide, by decide, by decide, by decide⟩, ⟨0, rfl, by decide, by decide, by decide, by decide⟩⟩, rfl, ?_, ?_, ?_⟩, ?_⟩
  · exact ⟨rfl, okd_0, 0, by decide, rfl, rfl, rfl, fun _ h => absurd h (Nat.not_lt_zero _), fun _ _ _ h => absurd h (Nat.not_lt_zero _), fun _ h => absurd h (Nat.not_lt_zero _)⟩
  · exact ⟨⟨rfl, rfl, rfl, rfl⟩, ⟨⟨0, by decide, rfl⟩, fun _ => okd_0, fun h => absurd h (show ¬ (0 : Int32) = 2 by decide)⟩, ⟨0, by decide, rfl⟩, ⟨by decide, rfl, fun _ h => absurd h (Nat.not_lt_zero _)⟩, ⟨0, by decide, rfl⟩, ⟨by decide, rfl, fun _ h => absurd h (Nat.not_lt_zero _)⟩, fun _ _ => okw_0, rfl, rfl, rfl⟩
  · exact ⟨okd_0, rfl, rfl, rfl⟩
  · have hls : ls9 (vw9 0 0 rh0 (rh0 33 0) (rh0 34 0) (rh0 35 0)) = [] := by
      have h := (ls9_len (GD_vw (d := rh0 33 0) (kn := rh0 34 0) (te := rh0 35 0) dat_0)).2
      match hl : ls9 (vw9 0 0 rh0 (rh0 33 0) (rh0 34 0) (rh0 35 0)) with
      | [] => rfl
      | p :: L =>
        rw [hl] at h
        have := (h p List.mem_cons_self).2
        exact absurd (show false = true from this) (by decide)
    refine ⟨⟨fun p hp => ⟨fun _ => (h2 p hp).1, fun h => absurd (show false = true from h) (by decide)⟩, fun _ h => absurd h (Nat.not_lt_zero _), fun _ h => absurd h (Nat.not_lt_zero _)⟩, ⟨rfl, ⟨by decide, by decide, by decide, by decide, fun _ h => absurd h (Nat.not_lt_zero _)⟩, fun _ h => absurd h (Nat.not_lt_zero _)⟩, fun _ h => absurd h (Nat.not_lt_zero _), ?_⟩
    rw [hls]
    exact ⟨rfl, fun _ h => absurd h (Nat.not_lt_zero _)⟩
set_option maxRecDepth 100000 in
/-- the first world -/
theorem first_world {z : Nat} {G : Gl} {a m0 m1 m2 m3 : Nat} {U : va_W} {H : Heap} (hA : isA G a U) (hW : CW z G [] ((((U ++ [(m0, .inl (G.2.1 0, 14, .inl (fun _ => 0)))]) ++ [(m1, .inl (G.2.1 0, 40, .inl (fun _ => 0)))]) ++ [(m2, .inl (G.2.1 0, 40, .inl (fun _ => 0)))]) ++ [(m3, .inl (G.2.1 0, 40, .inl (fun _ => 0)))]) H) : ∃ (ad : Nat → Nat → Nat) (σ : SG) (ν : NU), ad 0 0 = a ∧ ad 100 0 = m0 ∧ ad 101 0 = m1 ∧ ad 102 0 = m2 ∧ ad 103 0 = m3 ∧ WP z G ad (σ, ν, rl0, 0) H ∧ SIM σ ν rh0 0 0 := by
  obtain ⟨q0, v0, v1, i0, t0, p1, p2, p3, p4, p5, p6, p7, V0, V1, ⟨b0, tt0, f0, g0, h0, u0, w0, a7, a2, rfl⟩, ⟨b1, tt1, f1, g1, h1, u1, w1, c7, c2, rfl⟩, rfl⟩ := hA
  let VA : Nat → Nat := fun v => if v = 0 then v0 else v1
  let BB : Nat → Nat → Nat := fun v => if v = 0 then b0 else b1
  let TT : Nat → Nat → Nat × Nat × Nat := fun v => if v = 0 then tt0 else tt1
  let FF : Nat → Nat → Int32 := fun v => if v = 0 then f0 else f1
  let GG : Nat → Nat → Int32 := fun v => if v = 0 then g0 else g1
  let UU : Nat → Nat → Int32 := fun v => if v = 0 then u0 else u1
  let WW : Nat → Nat → Int32 := fun v => if v = 0 then w0 else w1
  let pp : Nat → Nat := fun j => match j with
    | 1 => p1
    | 2 => p2
    | 3 => p3
    | 4 => p4
    | 5 => p5
    | 6 => p6
    | _ => p7
  let mm : Nat → Nat := fun k => match k with
    | 0 => m0
    | 1 => m1
    | 2 => m2
    | 3 => m3
    | _ => 0
  have k0 := view_cong (a := a) (q0 := q0) (VA := VA) (BB := BB) (TT := TT) (i0 := i0) (t0 := t0) (pp := pp) (mm := mm) (FF := FF) (GG := GG) (UU := UU) (WW := WW) (G := G) (D := G.1) (cl := vwCl) (H := H) (v := 0) (by decide) (fun j hj => (a7 j hj).2.2)
  have k1 := view_cong (a := a) (q0 := q0) (VA := VA) (BB := BB) (TT := TT) (i0 := i0) (t0 := t0) (pp := pp) (mm := mm) (FF := FF) (GG := GG) (UU := UU) (WW := WW) (G := G) (D := G.1) (cl := vwCl) (H := H) (v := 1) (by decide) (fun j hj => (c7 j hj).2.2)
  have kA := class_cong k0 k1
  have r0 := row_cong0 (a := a) (q0 := q0) (VA := VA) (BB := BB) (TT := TT) (i0 := i0) (t0 := t0) (pp := pp) (mm := mm) (FF := FF) (GG := GG) (UU := UU) (WW := WW) (G := G) (D := G.1) (cl := vwCl) (H := H)
  have r1 := row_cong1 (a := a) (q0 := q0) (VA := VA) (BB := BB) (TT := TT) (i0 := i0) (t0 := t0) (pp := pp) (mm := mm) (FF := FF) (GG := GG) (UU := UU) (WW := WW) (G := G) (D := G.1) (cl := vwCl) (H := H)
  have r2 := row_cong2 (a := a) (q0 := q0) (VA := VA) (BB := BB) (TT := TT) (i0 := i0) (t0 := t0) (pp := pp) (mm := mm) (FF := FF) (GG := GG) (UU := UU) (WW := WW) (G := G) (D := G.1) (cl := vwCl) (H := H)
  have r3 := row_cong3 (a := a) (q0 := q0) (VA := VA) (BB := BB) (TT := TT) (i0 := i0) (t0 := t0) (pp := pp) (mm := mm) (FF := FF) (GG := GG) (UU := UU) (WW := WW) (G := G) (D := G.1) (cl := vwCl) (H := H)
  have hW := hW.cong ((((kA.app r0).app r1).app r2).app r3)
  rw [← List.map_append, ← List.map_append, ← List.map_append, ← List.map_append] at hW
  obtain ⟨hP, hD⟩ := hW
  exact ⟨_, _, _, rfl, rfl, rfl, rfl, rfl, ⟨LX9, ex_LX9, hP, hD⟩, sim_0 (UU := UU) (WW := WW) a2⟩
