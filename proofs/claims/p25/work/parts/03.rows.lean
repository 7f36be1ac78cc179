/-! The state of the two systems as functions, the cells of the world, and one row an instruction over it. Written by wip/gen/rows.py -/
abbrev SG : Type := Nat → Nat → Nat → Int32
abbrev NU : Type := Nat → Nat → Nat → Nat
abbrev RH : Type := Nat → Nat → Int32
abbrev St : Type := SG × NU × RH × Int64
/-- class ids of array classes by number, the static empty row, the texts' addresses -/
abbrev Gl : Type := va_G × (Nat → ClassId) × Nat × (Nat → Nat)
def u3 {α : Type} (f : Nat → Nat → Nat → α) (k o i : Nat) (x : α) : Nat → Nat → Nat → α := fun a b c => if a = k ∧ b = o ∧ c = i then x else f a b c
def r3 {α : Type} (f : Nat → Nat → Nat → α) (k o : Nat) (g : Nat → α) : Nat → Nat → Nat → α := fun a b c => if a = k ∧ b = o then g c else f a b c
def u2 (f : RH) (k i : Nat) (x : Int32) : RH := fun a c => if a = k ∧ c = i then x else f a c
theorem u3_row {f : SG} {k o i : Nat} {x : Int32} : u3 f k o i x k o = upd (f k o) i x := by
  funext c
  by_cases h : c = i <;> simp [u3, upd, h]
theorem r3_row {α : Type} {f : Nat → Nat → Nat → α} {k o : Nat} {g : Nat → α} : r3 f k o g k o = g := by
  funext c
  simp [r3]
theorem u2_row {f : RH} {k i : Nat} {x : Int32} : u2 f k i x k = upd (f k) i x := by
  funext c
  by_cases h : c = i <;> simp [u2, upd, h]
theorem u3_oth {α : Type} {f : Nat → Nat → Nat → α} {k o i : Nat} {x : α} {a b : Nat} (h : ¬ (a = k ∧ b = o)) : u3 f k o i x a b = f a b := by
  funext c
  have h2 : ¬ (a = k ∧ b = o ∧ c = i) := fun q => h ⟨q.1, q.2.1⟩
  simp only [u3, if_neg h2]
theorem r3_oth {α : Type} {f : Nat → Nat → Nat → α} {k o : Nat} {g : Nat → α} {a b : Nat} (h : ¬ (a = k ∧ b = o)) : r3 f k o g a b = f a b := by
  funext c
  simp only [r3, if_neg h]
theorem u2_oth {f : RH} {k i : Nat} {x : Int32} {a : Nat} (h : a ≠ k) : u2 f k i x a = f a := by
  funext c
  have h2 : ¬ (a = k ∧ c = i) := fun q => h q.1
  simp only [u2, if_neg h2]
theorem ite_t {c : Prop} [Decidable c] {A B : Prop} (hc : c) (h : if c then A else B) : A := by rwa [if_pos hc] at h
theorem ite_f {c : Prop} [Decidable c] {A B : Prop} (hc : ¬ c) (h : if c then A else B) : B := by rwa [if_neg hc] at h
def lor (x : Int64) : Nat → Int64 := fun j => if j = 0 then x else 0
theorem lor_put (x y : Int64) : vp_updL (lor x) 0 y = lor y := by
  funext j
  by_cases h : j = 0 <;> simp [vp_updL, lor, h]
def opn (ad : Nat → Nat) (t : Nat) : Option Nat := if t = 0 then none else some (ad (t - 1))
def TY (G : Gl) : List (ClassId × FieldType) := [(G.2.1 0, .int), (G.2.1 1, .int), (G.2.1 2, .object RX2), (G.2.1 3, .object RX4), (G.2.1 4, .object "java/lang/Object"), (G.2.1 5, .int)]

/-- how long the law's rows are: what it counts (m), how each commences (h), its terms (t), its orders (w) -/
def mlen (k : Nat) : Nat := match k with
  | 0 => 14
  | 1 => 40
  | 2 => 40
  | 3 => 40
  | _ => 0
def mty (k : Nat) : Nat := 0
def fl_0 (ad : Nat → Nat → Nat) (ν : NU) (ρ : RH) (o : Nat) (s : Nat → Int32) : List Value := [.ref (ad 7 0), .ref (ad 1 0), .ref (ad 1 1), .ref (ad 3 (ν 0 0 3)), .int (s 4), .int (s 5), .int (s 6), .int (s 7)]
def fl_1 (ad : Nat → Nat → Nat) (ν : NU) (ρ : RH) (o : Nat) (s : Nat → Int32) : List Value := [.ref (ad 7 (1 + o)), .ref (ad 11 o), .ref (ad 12 o), .ref (ad 13 o), .ref (ad 14 o), .ref (ad 15 o), .ref (ad 16 o), .ref (ad 2 (21 * o)), .ref (ad 18 o), .int (s 9), .int (s 10), .int (s 11), .int (s 12)]
def fl_2 (ad : Nat → Nat → Nat) (ν : NU) (ρ : RH) (o : Nat) (s : Nat → Int32) : List Value := [.ref (ad 20 o), .ref (ad 21 o), .int (s 2)]
def fl_3 (ad : Nat → Nat → Nat) (ν : NU) (ρ : RH) (o : Nat) (s : Nat → Int32) : List Value := [.int (s 0), .int (s 1), .int (s 2), .int (s 3), .int (s 4), .int (s 5), .int (s 6), .ref (ad 5 (ν 3 o 7)), .ref (ad 4 (2 * o)), .ref (ad 4 (2 * o + 1)), .ref (ad 6 (3 * o)), .ref (ad 6 (3 * o + 1)), .ref (ad 6 (3 * o + 2))]
def fl_4 (ad : Nat → Nat → Nat) (ν : NU) (ρ : RH) (o : Nat) (s : Nat → Int32) : List Value := [.ref (ad 22 o), .int (s 1)]
def fl_5 (ad : Nat → Nat → Nat) (ν : NU) (ρ : RH) (o : Nat) (s : Nat → Int32) : List Value := [.int (s 0), .int (s 1), .int (s 2), .int (s 3)]
def fl_6 (ad : Nat → Nat → Nat) (ν : NU) (ρ : RH) (o : Nat) (s : Nat → Int32) : List Value := [.int (s 0), .int (s 1), .int (s 2)]
def fl_30 (ad : Nat → Nat → Nat) (ν : NU) (ρ : RH) (o : Nat) (s : Nat → Int32) : List Value := []
def ctr (G : Gl) (ad : Nat → Nat → Nat) (ν : NU) (ρ : RH) (lo : Int64) (k o : Nat) (s : Nat → Int32) : va_E := match k with
  | 0 => .inr (9, fl_0 ad ν ρ o s)
  | 1 => .inr (8, fl_1 ad ν ρ o s)
  | 2 => .inr (7, fl_2 ad ν ρ o s)
  | 3 => .inr (3, fl_3 ad ν ρ o s)
  | 4 => .inr (5, fl_4 ad ν ρ o s)
  | 5 => .inr (6, fl_5 ad ν ρ o s)
  | 6 => .inr (4, fl_6 ad ν ρ o s)
  | 30 => .inr (10, fl_30 ad ν ρ o s)
  | 7 => .inr (2, [.int (s 0), .ref (if ν 7 o 1 = 0 then G.2.2.1 else ad 8 o), .int (s 2)])
  | 8 => .inl (G.2.1 4, ν 7 o 1, .inr (.inr (.inr (.inr (fun i => opn (ad 3) (ν 8 o i))))))
  | 11 => .inl (G.2.1 0, 40, .inl s)
  | 12 => .inl (G.2.1 0, 40, .inl s)
  | 14 => .inl (G.2.1 0, 20, .inl s)
  | 15 => .inl (G.2.1 0, 20, .inl s)
  | 18 => .inl (G.2.1 0, 20, .inl s)
  | 20 => .inl (G.2.1 0, 12, .inl s)
  | 21 => .inl (G.2.1 0, 12, .inl s)
  | 22 => .inl (G.2.1 0, 4, .inl s)
  | 13 => .inl (G.2.1 2, 40, .inr (.inr (.inr (.inr (fun i => opn (ad 4) (ν 13 o i))))))
  | 16 => .inl (G.2.1 3, 20, .inr (.inr (.inr (.inr (fun i => some (ad 2 (21 * o + 1 + i)))))))
  | 31 => .inl (G.2.1 5, 1, .inr (.inl (lor lo)))
  | k => .inl (G.2.1 (mty (k - 100)), mlen (k - 100), .inl (ρ (k - 100)))
def ct (G : Gl) (ad : Nat → Nat → Nat) (S : St) (k o : Nat) : va_E := ctr G ad S.2.1 S.2.2.1 S.2.2.2 k o (S.1 k o)
/-- which cells there are: ν 99 0 0 instructions' objects, ν 99 0 1 terms' objects -/
def ex (ν : NU) (k o : Nat) : Prop := match k with
  | 0 => o = 0
  | 1 => o < 2
  | 2 => o < 42
  | 3 => o < ν 99 0 0
  | 4 => o < 2 * ν 99 0 0
  | 5 => o < ν 99 0 1
  | 6 => o < 3 * ν 99 0 0
  | 7 => o < 3
  | 8 => o < 3 ∧ 0 < ν 7 o 1
  | 11 => o < 2
  | 12 => o < 2
  | 13 => o < 2
  | 14 => o < 2
  | 15 => o < 2
  | 16 => o < 2
  | 18 => o < 2
  | 20 => o < 42
  | 21 => o < 42
  | 22 => o < 2 * ν 99 0 0
  | 30 => False
  | 31 => False
  | k => o = 0 ∧ 100 ≤ k ∧ 0 < mlen (k - 100)
def cel (G : Gl) (ad : Nat → Nat → Nat) (S : St) (q : Nat × Nat) : Nat × va_E := (ad q.1 q.2, ct G ad S q.1 q.2)
abbrev Az (z : Nat) : Nat → Prop := fun q => z ≤ q
/-- the world: its cells, apart, all made since z -/
def WP (z : Nat) (G : Gl) (ad : Nat → Nat → Nat) (S : St) (H : Heap) : Prop := ∃ L : List (Nat × Nat), (∀ k o, ex S.2.1 k o ↔ (k, o) ∈ L) ∧ va_P G.1 vwCl (L.map (cel G ad S)) H ∧ va_D (Az z) (L.map (cel G ad S))
theorem ct_sg {G : Gl} {ad : Nat → Nat → Nat} {σ σ' : SG} {ν : NU} {ρ : RH} {lo : Int64} {a b : Nat} (h : σ' a b = σ a b) : ct G ad (σ', ν, ρ, lo) a b = ct G ad (σ, ν, ρ, lo) a b := by
  show ctr G ad ν ρ lo a b (σ' a b) = ctr G ad ν ρ lo a b (σ a b)
  rw [h]
/-- a store: the cell's new content, the others as they were -/
theorem WP_set {z : Nat} {G : Gl} {ad : Nat → Nat → Nat} {S S' : St} {L : List (Nat × Nat)} {q k o : Nat} {H1 : Heap} {e : va_E} (hL : ∀ k o, ex S.2.1 k o ↔ (k, o) ∈ L) (hD : va_D (Az z) (L.map (cel G ad S))) (hq : L[q]? = some (k, o)) (he : ct G ad S' k o = e)
    (hex : ∀ a b, ex S'.2.1 a b ↔ ex S.2.1 a b) (hoth : ∀ a b, ex S.2.1 a b → ¬ (a = k ∧ b = o) → ct G ad S' a b = ct G ad S a b)
    (hP1 : va_P G.1 vwCl ((L.map (cel G ad S)).set q (ad k o, e)) H1) (hD1 : va_D (Az z) ((L.map (cel G ad S)).set q (ad k o, e))) : WP z G ad S' H1 := by
  have key : (L.map (cel G ad S)).set q (ad k o, e) = L.map (cel G ad S') := by
    subst he
    apply List.ext_getElem?
    intro i
    by_cases hi : i = q
    · subst hi
      have hl : i < (L.map (cel G ad S)).length := by rw [List.length_map]; exact (List.getElem?_eq_some_iff.mp hq).1
      rw [List.getElem?_set_self hl, List.getElem?_map, hq]
      rfl
    · rw [List.getElem?_set_ne (Ne.symm hi), List.getElem?_map, List.getElem?_map]
      cases hx : L[i]? with
      | none => rfl
      | some y =>
        obtain ⟨a, b⟩ := y
        have hne : ¬ (a = k ∧ b = o) := by
          rintro ⟨rfl, rfl⟩
          exact hi (hD.1 i q (cel G ad S (a, b)) (cel G ad S (a, b)) (by rw [List.getElem?_map, hx]; rfl) (by rw [List.getElem?_map, hq]; rfl) rfl)
        have hexy : ex S.2.1 a b := (hL a b).mpr (List.mem_of_getElem? hx)
        show some (ad a b, ct G ad S a b) = some (ad a b, ct G ad S' a b)
        rw [hoth a b hexy hne]
  rw [key] at hP1 hD1
  exact ⟨L, fun a b => (hex a b).trans (hL a b), hP1, hD1⟩
theorem WP_at {z : Nat} {G : Gl} {ad : Nat → Nat → Nat} {S : St} {H : Heap} (hW : WP z G ad S H) {k o : Nat} (he : ex S.2.1 k o) : ∃ (L : List (Nat × Nat)) (q : Nat), (∀ k o, ex S.2.1 k o ↔ (k, o) ∈ L) ∧ va_P G.1 vwCl (L.map (cel G ad S)) H ∧ va_D (Az z) (L.map (cel G ad S)) ∧ L[q]? = some (k, o) ∧ (L.map (cel G ad S))[q]? = some (ad k o, ct G ad S k o) := by
  obtain ⟨L, hL, hP, hD⟩ := hW
  obtain ⟨q, hq⟩ := List.getElem?_of_mem ((hL k o).mp he)
  exact ⟨L, q, hL, hP, hD, hq, by rw [List.getElem?_map, hq]; rfl⟩
/-! the machine's part that nobody changes -/

def STR : List (Nat × String) := [(55, "days is out of range"), (62, "the days end"), (65, "no more acts"), (71, "how is out of range"), (77, "territories is out of range"), (83, "word is out of range"), (98, "no more words"), (113, "no more provisions"), (115, "an ENACT searches no words"), (137, "kind is out of range"), (142, "the words are not those of the kind"), (161, "it does not wait for an order"), (170, "it was struck down"), (172, "to is ahead of from"), (177, "it was suspended"), (179, "known is out of range"), (181, "territory is out of range"), (191, "there is no such place"), (241, "there is no such instruction"), (247, "there is no such provision"), (249, "a day is out of range"), (251, "number is out of range"), (253, "letters is out of range"), (255, "the second letter is none"), (257, "no act was made today"), (259, "no more instructions")]
def NST : List (String × Nat × String × String × String × String) := [("Amendmark", 186, "Amendmark$View", "listedCount", "I", "Amendmark"), ("Amendmark", 225, "Amendmark$View", "known", "I", "Amendmark"), ("Amendmark", 228, "Amendmark$View", "territory", "I", "Amendmark"), ("Amendmark$View", 232, "Amendmark$Text", "count", "I", "Amendmark")]
def NSM : List (String × Nat × MethodName × String) := [("Amendmark$Instruction", 35, ⟨"Amendmark$Phrase", "<init>", "()V"⟩, "Amendmark"), ("Amendmark$Instruction", 45, ⟨"Amendmark$Notice", "<init>", "()V"⟩, "Amendmark"), ("Amendmark$View", 43, ⟨"Amendmark$Text", "<init>", "()V"⟩, "Amendmark")]
def CAS : List (String × String) := [(RX0, RX0), (RX0, "java/lang/Object"), ("java/lang/IllegalArgumentException", "java/lang/IllegalArgumentException"), ("java/lang/IllegalStateException", "java/lang/IllegalStateException"), ("java/lang/IndexOutOfBoundsException", "java/lang/IndexOutOfBoundsException")]
def NCA : List (String × String) := [("java/lang/IllegalArgumentException", "java/lang/IllegalStateException"), ("java/lang/IllegalArgumentException", "java/lang/IndexOutOfBoundsException"), ("java/lang/IllegalStateException", "java/lang/IllegalArgumentException"), ("java/lang/IllegalStateException", "java/lang/IndexOutOfBoundsException"), ("java/lang/IndexOutOfBoundsException", "java/lang/IllegalArgumentException"), ("java/lang/IndexOutOfBoundsException", "java/lang/IllegalStateException")]
def DCL : List MethodName := [⟨"java/lang/Object", "getClass", "()Ljava/lang/Class;"⟩, Bundle.initS "java/lang/RuntimeException", Bundle.initS "java/lang/Exception", Bundle.initS "java/lang/Throwable"]
def AOV : List String := ["java/lang/Object", RX2, RX4]
def Ev (z : Nat) (G : Gl) (U : State) : Prop := va_K G.1 vwCl (TY G) U ∧
  va_Z RJx4a65c "DEFAULTCAPACITY_EMPTY_ELEMENTDATA" "[Ljava/lang/Object;" (.ref G.2.2.1) (Az z) U U.heap ∧
  va_T (.object "java/lang/Object") G.2.2.1 0 (fun _ => .null) (Az z) U U.heap ∧
  vx_Zq Bundle.tN "UNASSIGNED_STACK" Bundle.steD (Az z) U U.heap ∧ vx_Zq Bundle.tN "SUPPRESSED_SENTINEL" Bundle.listD (Az z) U U.heap ∧
  (∀ q ∈ STR, vk_R RX6 q.1 q.2 (G.2.2.2 q.1) U) ∧ (∀ q ∈ CAS, va_Nw (.castable q.1 q.2) U) ∧ (∀ q ∈ NCA, va_Nc q.1 q.2 U) ∧ (∀ q ∈ AOV, va_AO q U) ∧
  (∃ mi : Nat, va_Mi "[Ljava/lang/Object;" mi U) ∧ (∀ q ∈ DCL, va_Nw (.declares q) U) ∧ (∀ q ∈ NST, va_Nw (.fieldLinkNest q.1 q.2.1 q.2.2.1 q.2.2.2.1 q.2.2.2.2.1 q.2.2.2.2.2) U) ∧ (∀ q ∈ NSM, va_Nw (.methodLinkNest q.1 q.2.1 q.2.2.1 q.2.2.2) U)
theorem Ev.warm {z : Nat} {G : Gl} {s U : State} {H : Heap} {locs : List Loc} (h : Ev z G s) (hS : va_S (Az z) s.heap H locs) (hU : U.heap = H) (hW : s.WarmedH U.vm) : Ev z G U := by
  obtain ⟨h1, h2, h3, h4, h5, h6, h7, h8, h9, h10, h11, h12, h13⟩ := h
  have kp : ∀ a : Nat, a < s.heap.size → ¬ Az z a → U.heap[a]? = s.heap[a]? := fun a q1 q2 => by rw [hU]; exact hS.2.1 a q1 q2
  obtain ⟨mi, hm⟩ := h10
  exact ⟨va_K.moved hW.alike h1, (va_Z.moved hW.alike h2).kept kp, (va_T.moved hW.alike h3).kept kp, (vx_Zq.moved hW.alike h4).kept kp, (vx_Zq.moved hW.alike h5).kept kp,
    fun q hq => vk_R.warm hW (h6 q hq), fun q hq => va_Nw.warmC hW (h7 q hq), fun q hq => va_Nc.moved hW.alike (h8 q hq), fun q hq => va_AO.moved hW.alike (h9 q hq), ⟨mi, va_Mi.moved hW.alike hm⟩, fun q hq => va_Nw.warmD hW (h11 q hq), fun q hq => va_Nw.warmF hW (h12 q hq), fun q hq => va_Nw.warmM hW (h13 q hq)⟩
theorem Ev.same {z : Nat} {G : Gl} {u U : State} (hv : U.vm = u.vm) (hh : U.heap = u.heap) (h : Ev z G u) : Ev z G U := by
  obtain ⟨h1, h2, h3, h4, h5, h6, h7, h8, h9, h10, h11, h12, h13⟩ := h
  have ha : u.vm.Alike U.vm := by rw [hv]; exact Vm.Alike.refl u.vm
  obtain ⟨mi, hm⟩ := h10
  refine ⟨va_K.moved ha h1, ?_, ?_, ?_, ?_, fun q hq => vk_R.same hv (h6 q hq), fun q hq => va_Nw.same rfl hv.symm (h7 q hq), fun q hq => va_Nc.moved ha (h8 q hq), fun q hq => va_AO.moved ha (h9 q hq), ⟨mi, va_Mi.moved ha hm⟩, fun q hq => va_Nw.same rfl hv.symm (h11 q hq), fun q hq => va_Nw.same rfl hv.symm (h12 q hq), fun q hq => va_Nw.same rfl hv.symm (h13 q hq)⟩
  · rw [hh]; exact va_Z.moved ha h2
  · rw [hh]; exact va_T.moved ha h3
  · rw [hh]; exact vx_Zq.moved ha h4
  · rw [hh]; exact vx_Zq.moved ha h5
/-! a contract's start and end -/
def Bc (z : Nat) (G : Gl) (ad : Nat → Nat → Nat) (S : St) (U : State) : Prop := z ≤ U.heap.size ∧ WP z G ad S U.heap ∧ Ev z G U
def Pcs (z : Nat) (G : Gl) (ad : Nat → Nat → Nat) (S : St) (av : List Value) : Array Value → State → Prop := va_Pc av (Bc z G ad S)
theorem Pcs.blind {z : Nat} {G : Gl} {ad : Nat → Nat → Nat} {S : St} {av : List Value} : FrameBlind (Pcs z G ad S av) := by
  intro a U g mk h
  obtain ⟨h1, h2, h3, h4⟩ := h
  exact ⟨h1, h2, h3, Ev.same (u := U) rfl rfl h4⟩
def Qis (z : Nat) (G : Gl) (ad : Nat → Nat → Nat) (post : Int32 → St → Prop) : Array Value → State → Outcome → State → Prop := va_Qi post (fun u t => WP z G ad u t.heap) (Az z)
def Qls (z : Nat) (G : Gl) (ad : Nat → Nat → Nat) (post : Int64 → St → Prop) : Array Value → State → Outcome → State → Prop := va_Ql post (fun u t => WP z G ad u t.heap) (Az z)
def Qvs (z : Nat) (G : Gl) (ad : Nat → Nat → Nat) (post : St → Prop) : Array Value → State → Outcome → State → Prop := va_Qv post (fun u t => WP z G ad u t.heap) (Az z)
/-- an answer that is the cell number r of the kind K -/
def Qrs (z : Nat) (G : Gl) (ad : Nat → Nat → Nat) (K : Nat) (post : Nat → St → Prop) : Array Value → State → Outcome → State → Prop := va_Qr (S := St × Nat) (fun u => post u.2 u.1) (fun u a t => a = ad K u.2 ∧ WP z G ad u.1 t.heap) (Az z)
def XCs (z : Nat) (G : Gl) (ad : Nat → Nat → Nat) (px : String → St → Prop) : String → State → State → Prop := vx_X (S := String × St) (fun u => px u.1 u.2) (fun E u t => E = u.1 ∧ WP z G ad u.2 t.heap) (Az z)

section RW
variable {p : Program} {l : Launch} {e : Env} {R : Room} {s : State} {m : MethodId} {args : Array Value} {below : List Frame} {meth : Method} {c : Code} {H : Heap} {locs : List Loc} {cells slots : Nat} {Q : State → Prop}
variable {cc : ByteArray} {pc : Nat} {ls : Array Slot} {rest : List Value} {z : Nat} {G : Gl} {ad : Nat → Nat → Nat} {S : St} {Ts : List Cond} {own ref C : String} {T : u_T} {N ci index : Nat}
theorem r_get (hx : p.tables.exec = Jvm.exec) (hb : c.code = cc) (hts : ∀ w ∈ Ts, w.before args s = true) (hown : s.vm.findClass own = some m.cls) (hE : Ev z G s) (hW : WP z G ad S H) (k o : Nat) (he : ex S.2.1 k o) {fs : List Value} (hc : ct G ad S k o = .inr (ci, fs)) (hcl : vwCl[ci]? = some (C, T, N)) (hin : ∀ w ∈ u_ws C T N, w ∈ Ts) (j : Nat) (hj : j < N)
    (hlink : Cond.fieldLink own index ref (T j).2.1 (T j).2.2.1 ∈ Ts) (hsame : (T j).1 = ref) {v : Value} (hv : fs[j]? = some v) (hdg : decode cc pc = .ok (.getfield index, 3))
    (kk : W p l e R s m args below meth c H locs cells slots Q (F0 m (pc + 3) ls (v :: rest))) : W p l e R s m args below meth c H locs cells slots Q (F0 m pc ls (.ref (ad k o) :: rest)) := by
  obtain ⟨L, q, hL, hP, hD, hq, hq2⟩ := WP_at hW he
  rw [hc] at hq2
  subst hsame
  exact va_get hx hb hts hin hown hE.1 hP q hq2 hcl j hj (hts _ hlink) (fun _ h9 => h9) hv hdg kk
theorem r_getN (hx : p.tables.exec = Jvm.exec) (hb : c.code = cc) (hts : ∀ w ∈ Ts, w.before args s = true) (hown : s.vm.findClass own = some m.cls) (hE : Ev z G s) (hW : WP z G ad S H) (k o : Nat) (he : ex S.2.1 k o) {fs : List Value} (hc : ct G ad S k o = .inr (ci, fs)) (hcl : vwCl[ci]? = some (C, T, N)) (hin : ∀ w ∈ u_ws C T N, w ∈ Ts) (j : Nat) (hj : j < N)
    {host : String} (hlink : (own, index, ref, (T j).2.1, (T j).2.2.1, host) ∈ NST) (hsame : (T j).1 = ref) {v : Value} (hv : fs[j]? = some v) (hdg : decode cc pc = .ok (.getfield index, 3))
    (kk : W p l e R s m args below meth c H locs cells slots Q (F0 m (pc + 3) ls (v :: rest))) : W p l e R s m args below meth c H locs cells slots Q (F0 m pc ls (.ref (ad k o) :: rest)) := by
  obtain ⟨L, q, hL, hP, hD, hq, hq2⟩ := WP_at hW he
  rw [hc] at hq2
  subst hsame
  exact va_getN hx hb hts hin hown hE.1 hP q hq2 hcl j hj (va_Nw.use rfl (hE.2.2.2.2.2.2.2.2.2.2.2.1 _ hlink)) (fun _ h9 => h9) hv hdg kk
theorem r_put (hx : p.tables.exec = Jvm.exec) (hb : c.code = cc) (hts : ∀ w ∈ Ts, w.before args s = true) (hown : s.vm.findClass own = some m.cls) (hE : Ev z G s) (hW : WP z G ad S H) (hS : va_S (Az z) s.heap H locs) (k o : Nat) (he : ex S.2.1 k o) {fs : List Value} (hc : ct G ad S k o = .inr (ci, fs)) (hcl : vwCl[ci]? = some (C, T, N)) (hin : ∀ w ∈ u_ws C T N, w ∈ Ts)
    {ty0 : Nat → FieldType} (hty : ∀ k, k < N → parseFieldDescriptor (T k).2.2.1 = some (ty0 k)) (hnm : ∀ a, a < N → ∀ b, b < N → a ≠ b → (T a).2.1 ≠ (T b).2.1) (j : Nat) (hj : j < N)
    (hlink : Cond.fieldLink own index ref (T j).2.1 (T j).2.2.1 ∈ Ts) (hsame : (T j).1 = ref) (hfin : (T j).2.2.2 = false) {ty : FieldType} {v : Value} (hd : parseFieldDescriptor (T j).2.2.1 = some ty) (hn : narrow ty v = v) (hfit : fits ty v = true) (hl : j < fs.length)
    (S' : St) (hc' : ct G ad S' k o = .inr (ci, fs.set j v)) (hex : ∀ a b, ex S'.2.1 a b ↔ ex S.2.1 a b) (hoth : ∀ a b, ex S.2.1 a b → ¬ (a = k ∧ b = o) → ct G ad S' a b = ct G ad S a b) (hdg : decode cc pc = .ok (.putfield index, 3))
    (kk : ∀ (H1 : Heap) (locs1 : List Loc), WP z G ad S' H1 → va_S (Az z) s.heap H1 locs1 → W p l e R s m args below meth c H1 locs1 cells slots Q (F0 m (pc + 3) ls rest)) : W p l e R s m args below meth c H locs cells slots Q (F0 m pc ls (v :: .ref (ad k o) :: rest)) := by
  obtain ⟨L, q, hL, hP, hD, hq, hq2⟩ := WP_at hW he
  rw [hc] at hq2
  subst hsame
  exact va_put hx hb hts hin ty0 hty hnm hown hE.1 hP hD hS q hq2 hcl j hj (hts _ hlink) (fun _ h9 => h9) hfin hd hn hfit hl hdg (fun H1 locs1 g1 g2 g3 => kk H1 locs1 (WP_set hL hD hq hc' hex hoth g1 g2) g3)
theorem r_iald (hx : p.tables.exec = Jvm.exec) (hb : c.code = cc) (hE : Ev z G s) (hW : WP z G ad S H) (k o : Nat) (he : ex S.2.1 k o) {n : Nat} {f : Nat → Int32} (hc : ct G ad S k o = .inl (G.2.1 0, n, .inl f)) {i v : Int32} (hin : vp_in i n) (hv : f i.toNatClampNeg = v) (hdg : decode cc pc = .ok (.iaload, 1))
    (kk : W p l e R s m args below meth c H locs cells slots Q (F0 m (pc + 1) ls (.int v :: rest))) : W p l e R s m args below meth c H locs cells slots Q (F0 m pc ls (.int i :: .ref (ad k o) :: rest)) := by
  obtain ⟨L, q, hL, hP, hD, hq, hq2⟩ := WP_at hW he
  rw [hc] at hq2
  subst hv
  exact va_iald hx hb hE.1 hP q 0 hq2 rfl hin hdg kk
theorem r_iast (hx : p.tables.exec = Jvm.exec) (hb : c.code = cc) (hE : Ev z G s) (hW : WP z G ad S H) (hS : va_S (Az z) s.heap H locs) (k o : Nat) (he : ex S.2.1 k o) {n : Nat} {f f' : Nat → Int32} (hc : ct G ad S k o = .inl (G.2.1 0, n, .inl f)) {i x : Int32} (hin : vp_in i n) (S' : St) (hc' : ct G ad S' k o = .inl (G.2.1 0, n, .inl f')) (hf : f' = upd f i.toNatClampNeg x)
    (hex : ∀ a b, ex S'.2.1 a b ↔ ex S.2.1 a b) (hoth : ∀ a b, ex S.2.1 a b → ¬ (a = k ∧ b = o) → ct G ad S' a b = ct G ad S a b) (hdg : decode cc pc = .ok (.iastore, 1))
    (kk : ∀ (H1 : Heap) (locs1 : List Loc), WP z G ad S' H1 → va_S (Az z) s.heap H1 locs1 → W p l e R s m args below meth c H1 locs1 cells slots Q (F0 m (pc + 1) ls rest)) : W p l e R s m args below meth c H locs cells slots Q (F0 m pc ls (.int x :: .int i :: .ref (ad k o) :: rest)) := by
  obtain ⟨L, q, hL, hP, hD, hq, hq2⟩ := WP_at hW he
  rw [hc] at hq2
  subst hf
  exact va_iast hx hb hE.1 hP hD hS q 0 hq2 rfl hin hdg (fun H1 locs1 g1 g2 g3 => kk H1 locs1 (WP_set hL hD hq hc' hex hoth g1 g2) g3)
theorem r_alen (hx : p.tables.exec = Jvm.exec) (hb : c.code = cc) (hE : Ev z G s) (hW : WP z G ad S H) (k o : Nat) (he : ex S.2.1 k o) {cA : ClassId} {a : vp_A} (hc : ct G ad S k o = .inl (cA, a)) (t0 : Nat) {ty : FieldType} (ht : (TY G)[t0]? = some (cA, ty)) {v : Int32} (hv : Int32.ofNat a.1 = v) (hdg : decode cc pc = .ok (.arraylength, 1))
    (kk : W p l e R s m args below meth c H locs cells slots Q (F0 m (pc + 1) ls (.int v :: rest))) : W p l e R s m args below meth c H locs cells slots Q (F0 m pc ls (.ref (ad k o) :: rest)) := by
  obtain ⟨L, q, hL, hP, hD, hq, hq2⟩ := WP_at hW he
  rw [hc] at hq2
  exact va_alen hx hb hE.1 hP q t0 hq2 ht hv hdg kk
theorem r_aldq (hx : p.tables.exec = Jvm.exec) (hb : c.code = cc) (hE : Ev z G s) (hW : WP z G ad S H) (k o : Nat) (he : ex S.2.1 k o) {cA : ClassId} {n : Nat} {f : Nat → Option Nat} (hc : ct G ad S k o = .inl (cA, n, .inr (.inr (.inr (.inr f))))) (t0 : Nat) {E : String} (ht : (TY G)[t0]? = some (cA, .object E)) {i : Int32} (hin : vp_in i n) {v : Value} (hv : va_rf (f i.toNatClampNeg) = v) (hdg : decode cc pc = .ok (.aaload, 1))
    (kk : W p l e R s m args below meth c H locs cells slots Q (F0 m (pc + 1) ls (v :: rest))) : W p l e R s m args below meth c H locs cells slots Q (F0 m pc ls (.int i :: .ref (ad k o) :: rest)) := by
  obtain ⟨L, q, hL, hP, hD, hq, hq2⟩ := WP_at hW he
  rw [hc] at hq2
  subst hv
  exact va_aldq hx hb hE.1 hP q t0 hq2 ht hin hdg kk
end RW

