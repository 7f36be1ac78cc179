/-! a new instruction in the world. Written by wip/gen/hand7.py -/
def KI (N : Nat) : List (Nat × Nat) := [(3, N), (4, 2 * N), (22, 2 * N), (4, 2 * N + 1), (22, 2 * N + 1), (6, 3 * N), (6, 3 * N + 1), (6, 3 * N + 2)]
theorem KI_iff {N k o : Nat} : (k, o) ∈ KI N ↔ (k = 3 ∧ o = N) ∨ (k = 4 ∧ (o = 2 * N ∨ o = 2 * N + 1)) ∨ (k = 22 ∧ (o = 2 * N ∨ o = 2 * N + 1)) ∨ (k = 6 ∧ (o = 3 * N ∨ o = 3 * N + 1 ∨ o = 3 * N + 2)) := by
  simp only [KI, List.mem_cons, Prod.mk.injEq, List.not_mem_nil, or_false]
  constructor
  · rintro (h | h | h | h | h | h | h | h) <;> simp [h]
  · rintro (⟨rfl, h⟩ | ⟨rfl, h | h⟩ | ⟨rfl, h | h⟩ | ⟨rfl, h | h | h⟩) <;> simp [h]
theorem nuI_N {ν : NU} {i N : Nat} : nuI ν i N 99 0 0 = N + 1 ∧ nuI ν i N 99 0 1 = ν 99 0 1 := ⟨by simp [nuI, u3], by simp [nuI, u3]⟩
theorem nuI_o {ν : NU} {i N a : Nat} (h0 : a ≠ 0) (h3 : a ≠ 3) (h9 : a ≠ 99) : nuI ν i N a = ν a := by
  show u3 (u3 (u3 ν 99 0 0 _) 3 N 7 _) 0 0 3 N a = ν a
  rw [u3_ne h0, u3_ne h3, u3_ne h9]
theorem nuI_3 {ν : NU} {i N : Nat} : nuI ν i N 3 N 7 = ν 3 i 7 := by simp [nuI, u3]
theorem nuI_3o {ν : NU} {i N b : Nat} (h : b ≠ N) : nuI ν i N 3 b = ν 3 b := by
  show u3 (u3 (u3 ν 99 0 0 _) 3 N 7 _) 0 0 3 N 3 b = ν 3 b
  rw [u3_ne (by decide), u3_oth (fun t => h t.2), u3_ne (by decide)]
theorem nuI_0 {ν : NU} {i N : Nat} : nuI ν i N 0 0 3 = N := by simp [nuI, u3]
theorem ex_nuI {ν : NU} {i : Nat} (k o : Nat) : ex (nuI ν i (ν 99 0 0)) k o ↔ ex ν k o ∨ (k, o) ∈ KI (ν 99 0 0) := by
  have e7 : nuI ν i (ν 99 0 0) 7 = ν 7 := nuI_o (by decide) (by decide) (by decide)
  obtain ⟨e0, e1⟩ := nuI_N (ν := ν) (i := i) (N := ν 99 0 0)
  rw [KI_iff]
  by_cases h3 : k = 3
  · subst h3
    show o < nuI ν i (ν 99 0 0) 99 0 0 ↔ o < ν 99 0 0 ∨ _
    rw [e0]
    omega
  by_cases h4 : k = 4
  · subst h4
    show o < 2 * nuI ν i (ν 99 0 0) 99 0 0 ↔ o < 2 * ν 99 0 0 ∨ _
    rw [e0]
    omega
  by_cases h6 : k = 6
  · subst h6
    show o < 3 * nuI ν i (ν 99 0 0) 99 0 0 ↔ o < 3 * ν 99 0 0 ∨ _
    rw [e0]
    omega
  by_cases h22 : k = 22
  · subst h22
    show o < 2 * nuI ν i (ν 99 0 0) 99 0 0 ↔ o < 2 * ν 99 0 0 ∨ _
    rw [e0]
    omega
  have e : ex (nuI ν i (ν 99 0 0)) k o ↔ ex ν k o := by
    unfold ex
    split <;> first | exact Iff.rfl | (rw [e1]) | (rw [e7]) | exact absurd rfl h3 | exact absurd rfl h4 | exact absurd rfl h6 | exact absurd rfl h22
  rw [e]
  exact ⟨Or.inl, fun t => t.elim id (fun u => by omega)⟩
theorem sgI_o {σ : SG} {N a b : Nat} (h : (a, b) ∉ KI N) : sgI σ N a b = σ a b := by
  funext c
  have h' := fun t => h (KI_iff.mpr t)
  unfold sgI
  rw [if_neg (fun t => h' (by omega)), if_neg (fun t => h' (by omega)), if_neg (fun t => h' (by omega))]
theorem sgI_3 {σ : SG} {N : Nat} : sgI σ N 3 N = fun _ => -1 := by
  funext c
  exact if_pos ⟨rfl, rfl⟩
theorem sgI_0 {σ : SG} {N a b : Nat} (ha : a = 4 ∨ a = 22) (hb : b = 2 * N ∨ b = 2 * N + 1) : sgI σ N a b = fun _ => 0 := by
  funext c
  unfold sgI
  rw [if_neg (fun t => by omega), if_pos ⟨ha, hb⟩]
theorem sgI_6 {σ : SG} {N b : Nat} (hb : b = 3 * N ∨ b = 3 * N + 1 ∨ b = 3 * N + 2) : sgI σ N 6 b = fun _ => -1 := by
  funext c
  unfold sgI
  rw [if_neg (fun t => by omega), if_neg (fun t => by omega), if_pos ⟨rfl, hb⟩]
def adI (ad : Nat → Nat → Nat) (N q0 q1 q2 q3 q4 q5 q6 q7 : Nat) : Nat → Nat → Nat := fun k o => if k = 3 ∧ o = N then q0 else if k = 4 ∧ o = 2 * N then q1 else if k = 22 ∧ o = 2 * N then q2 else if k = 4 ∧ o = 2 * N + 1 then q3 else if k = 22 ∧ o = 2 * N + 1 then q4 else if k = 6 ∧ o = 3 * N then q5 else if k = 6 ∧ o = 3 * N + 1 then q6 else if k = 6 ∧ o = 3 * N + 2 then q7 else ad k o
theorem adI_o {ad : Nat → Nat → Nat} {N q0 q1 q2 q3 q4 q5 q6 q7 k o : Nat} (h : (k, o) ∉ KI N) : adI ad N q0 q1 q2 q3 q4 q5 q6 q7 k o = ad k o := by
  have h' := fun t => h (KI_iff.mpr t)
  unfold adI
  rw [if_neg (fun t => h' (by omega)), if_neg (fun t => h' (by omega)), if_neg (fun t => h' (by omega)), if_neg (fun t => h' (by omega)), if_neg (fun t => h' (by omega)), if_neg (fun t => h' (by omega)), if_neg (fun t => h' (by omega)), if_neg (fun t => h' (by omega))]
theorem opn_le {a b : Nat → Nat} {N x : Nat} (h : ∀ o, o < N → a o = b o) (hx : x ≤ N) : opn a x = opn b x := by
  unfold opn
  split
  · rfl
  · rw [h _ (by omega)]
/-- the world with a new instruction: what the old cells say -/
theorem cel_adI {G : Gl} {ad : Nat → Nat → Nat} {σ : SG} {ν : NU} {ρ : RH} {lo : Int64} {i q0 q1 q2 q3 q4 q5 q6 q7 a b : Nat} (hC : clo ν) (he : ex ν a b) (h0 : a ≠ 0) : cel G (adI ad (ν 99 0 0) q0 q1 q2 q3 q4 q5 q6 q7) (sgI σ (ν 99 0 0), nuI ν i (ν 99 0 0), ρ, lo) (a, b) = cel G ad (σ, ν, ρ, lo) (a, b) := by
  have hK : (a, b) ∉ KI (ν 99 0 0) := by
    rw [KI_iff]
    rintro (⟨rfl, rfl⟩ | ⟨rfl, h⟩ | ⟨rfl, h⟩ | ⟨rfl, h⟩)
    · exact absurd he (Nat.lt_irrefl _)
    · have : b < 2 * ν 99 0 0 := he
      omega
    · have : b < 2 * ν 99 0 0 := he
      omega
    · have : b < 3 * ν 99 0 0 := he
      omega
  have had : ∀ k, k ≠ 3 → k ≠ 4 → k ≠ 6 → k ≠ 22 → adI ad (ν 99 0 0) q0 q1 q2 q3 q4 q5 q6 q7 k = ad k := fun k h3 h4 h6 h22 => funext fun o => adI_o (fun t => by rcases KI_iff.mp t with h | h | h | h <;> omega)
  have a3 : ∀ o, o < ν 99 0 0 → adI ad (ν 99 0 0) q0 q1 q2 q3 q4 q5 q6 q7 3 o = ad 3 o := fun o ho => adI_o (fun t => by rcases KI_iff.mp t with h | h | h | h <;> omega)
  have a4 : ∀ o, o < 2 * ν 99 0 0 → adI ad (ν 99 0 0) q0 q1 q2 q3 q4 q5 q6 q7 4 o = ad 4 o := fun o ho => adI_o (fun t => by rcases KI_iff.mp t with h | h | h | h <;> omega)
  have a6 : ∀ o, o < 3 * ν 99 0 0 → adI ad (ν 99 0 0) q0 q1 q2 q3 q4 q5 q6 q7 6 o = ad 6 o := fun o ho => adI_o (fun t => by rcases KI_iff.mp t with h | h | h | h <;> omega)
  have a22 : ∀ o, o < 2 * ν 99 0 0 → adI ad (ν 99 0 0) q0 q1 q2 q3 q4 q5 q6 q7 22 o = ad 22 o := fun o ho => adI_o (fun t => by rcases KI_iff.mp t with h | h | h | h <;> omega)
  have e7 : nuI ν i (ν 99 0 0) 7 = ν 7 := nuI_o (by decide) (by decide) (by decide)
  have e8 : nuI ν i (ν 99 0 0) 8 = ν 8 := nuI_o (by decide) (by decide) (by decide)
  have e13 : nuI ν i (ν 99 0 0) 13 = ν 13 := nuI_o (by decide) (by decide) (by decide)
  show (adI ad (ν 99 0 0) q0 q1 q2 q3 q4 q5 q6 q7 a b, ctr G (adI ad (ν 99 0 0) q0 q1 q2 q3 q4 q5 q6 q7) (nuI ν i (ν 99 0 0)) ρ lo a b (sgI σ (ν 99 0 0) a b)) = (ad a b, ctr G ad ν ρ lo a b (σ a b))
  rw [sgI_o hK, adI_o hK]
  refine congrArg (fun t => (ad a b, t)) ?_
  by_cases h3 : a = 3
  · subst h3
    have hb : b < ν 99 0 0 := he
    have e3 : nuI ν i (ν 99 0 0) 3 b = ν 3 b := nuI_3o (by omega)
    show (Sum.inr (3, fl_3 (adI ad (ν 99 0 0) q0 q1 q2 q3 q4 q5 q6 q7) (nuI ν i (ν 99 0 0)) ρ b (σ 3 b)) : va_E) = Sum.inr (3, fl_3 ad ν ρ b (σ 3 b))
    simp only [fl_3, e3, had 5 (by decide) (by decide) (by decide) (by decide), a4 (2 * b) (by omega), a4 (2 * b + 1) (by omega), a6 (3 * b) (by omega), a6 (3 * b + 1) (by omega), a6 (3 * b + 2) (by omega)]
  · by_cases h4 : a = 4
    · subst h4
      have hb : b < 2 * ν 99 0 0 := he
      show (Sum.inr (5, fl_4 (adI ad (ν 99 0 0) q0 q1 q2 q3 q4 q5 q6 q7) (nuI ν i (ν 99 0 0)) ρ b (σ 4 b)) : va_E) = Sum.inr (5, fl_4 ad ν ρ b (σ 4 b))
      simp only [fl_4, a22 b hb]
    · by_cases h8 : a = 8
      · subst h8
        show (Sum.inl (G.2.1 4, nuI ν i (ν 99 0 0) 7 b 1, Sum.inr (Sum.inr (Sum.inr (Sum.inr (fun j => opn (adI ad (ν 99 0 0) q0 q1 q2 q3 q4 q5 q6 q7 3) (nuI ν i (ν 99 0 0) 8 b j)))))) : va_E) = _
        rw [e7, e8]
        have : (fun j => opn (adI ad (ν 99 0 0) q0 q1 q2 q3 q4 q5 q6 q7 3) (ν 8 b j)) = fun j => opn (ad 3) (ν 8 b j) := funext fun j => opn_le a3 (hC.1 b j)
        rw [this]
        rfl
      · by_cases h13 : a = 13
        · subst h13
          show (Sum.inl (G.2.1 2, 40, Sum.inr (Sum.inr (Sum.inr (Sum.inr (fun j => opn (adI ad (ν 99 0 0) q0 q1 q2 q3 q4 q5 q6 q7 4) (nuI ν i (ν 99 0 0) 13 b j)))))) : va_E) = _
          rw [e13]
          have : (fun j => opn (adI ad (ν 99 0 0) q0 q1 q2 q3 q4 q5 q6 q7 4) (ν 13 b j)) = fun j => opn (ad 4) (ν 13 b j) := funext fun j => opn_le a4 (hC.2.1 b j)
          rw [this]
          rfl
        · unfold ctr
          split
          all_goals first
            | rfl
            | exact absurd rfl h0
            | exact absurd rfl h3
            | exact absurd rfl h4
            | exact absurd rfl h8
            | exact absurd rfl h13
            | (simp only [fl_1, fl_2, fl_5, fl_6, e7, had 1 (by decide) (by decide) (by decide) (by decide), had 2 (by decide) (by decide) (by decide) (by decide), had 7 (by decide) (by decide) (by decide) (by decide), had 8 (by decide) (by decide) (by decide) (by decide), had 11 (by decide) (by decide) (by decide) (by decide), had 12 (by decide) (by decide) (by decide) (by decide), had 13 (by decide) (by decide) (by decide) (by decide), had 14 (by decide) (by decide) (by decide) (by decide), had 15 (by decide) (by decide) (by decide) (by decide), had 16 (by decide) (by decide) (by decide) (by decide), had 18 (by decide) (by decide) (by decide) (by decide), had 20 (by decide) (by decide) (by decide) (by decide), had 21 (by decide) (by decide) (by decide) (by decide)]; done)
            | (unfold fl_30; simp only [had 102 (by decide) (by decide) (by decide) (by decide), had 108 (by decide) (by decide) (by decide) (by decide), had 110 (by decide) (by decide) (by decide) (by decide), had 113 (by decide) (by decide) (by decide) (by decide), had 114 (by decide) (by decide) (by decide) (by decide), had 115 (by decide) (by decide) (by decide) (by decide), had 116 (by decide) (by decide) (by decide) (by decide), had 117 (by decide) (by decide) (by decide) (by decide), had 118 (by decide) (by decide) (by decide) (by decide), had 119 (by decide) (by decide) (by decide) (by decide), had 120 (by decide) (by decide) (by decide) (by decide), had 121 (by decide) (by decide) (by decide) (by decide), had 122 (by decide) (by decide) (by decide) (by decide), had 123 (by decide) (by decide) (by decide) (by decide), had 124 (by decide) (by decide) (by decide) (by decide), had 125 (by decide) (by decide) (by decide) (by decide), had 126 (by decide) (by decide) (by decide) (by decide), had 127 (by decide) (by decide) (by decide) (by decide), had 128 (by decide) (by decide) (by decide) (by decide), had 129 (by decide) (by decide) (by decide) (by decide), had 130 (by decide) (by decide) (by decide) (by decide), had 131 (by decide) (by decide) (by decide) (by decide), had 132 (by decide) (by decide) (by decide) (by decide), had 136 (by decide) (by decide) (by decide) (by decide), had 137 (by decide) (by decide) (by decide) (by decide), had 138 (by decide) (by decide) (by decide) (by decide), had 139 (by decide) (by decide) (by decide) (by decide), had 140 (by decide) (by decide) (by decide) (by decide), had 141 (by decide) (by decide) (by decide) (by decide), had 142 (by decide) (by decide) (by decide) (by decide), had 143 (by decide) (by decide) (by decide) (by decide), had 144 (by decide) (by decide) (by decide) (by decide), had 146 (by decide) (by decide) (by decide) (by decide), had 147 (by decide) (by decide) (by decide) (by decide)]; done)

set_option maxHeartbeats 800000 in
set_option maxRecDepth 100000 in
theorem r_newInstr {p : Program} {l : Launch} {e : Env} {R : Room} {s : State} {m : MethodId} {args : Array Value} {below : List Frame} {meth : Method} {c : Code} {H : Heap} {locs : List Loc} {cells slots : Nat} {Q : State → Prop} {ls : Array Slot} {z : Nat} {G : Gl} {ad : Nat → Nat → Nat} {σ : SG} {ν : NU} {ρ : RH} {lo : Int64} (hx : p.tables.exec = Jvm.exec) (hb : c.code = cX6_add) (hml : c.maxLocals = 3) (hsz : ls.size = 3) (hts : ∀ w ∈ wsX6_add, w.before args s = true) (hown : s.vm.findClass RX6 = some m.cls) (hE : Ev z G s) (hz : z ≤ s.heap.size) (hW : WP z G ad (σ, ν, ρ, lo) H) (hS : va_S (Az z) s.heap H locs) (l0 : ls[0]? = some (.val (.ref (ad 0 0)))) (hC : clo ν) (hR : 3 ≤ R.frames ∧ 53 ≤ R.locals ∧ cells + 8 ≤ R.cells ∧ slots + 34 ≤ R.slots)
    (kk : ∀ (σ1 : SG) (ν1 : NU) (ad1 : Nat → Nat → Nat), σ1 = sgI σ (ν 99 0 0) → ν1 = nuI ν (ν 0 0 3) (ν 99 0 0) → Xt ad ad1 ν ν1 → ∀ (H1 : Heap) (locs1 : List Loc), WP z G ad1 (σ1, ν1, ρ, lo) H1 → va_S (Az z) s.heap H1 locs1 → W p l e R s m args below meth c H1 locs1 (cells + 8) (slots + 34) Q (F0 m 84 ls [])) : W p l e R s m args below meth c H locs cells slots Q (F0 m 67 ls [.ref (ad 0 0)]) := by
  have hi : ν 0 0 3 < ν 99 0 0 := hC.2.2.1
  obtain ⟨L, hL, hP, hD⟩ := hW
  have hW : CW z G (L.map (cel G ad (σ, ν, ρ, lo))) [] H := ⟨by rw [List.append_nil]; exact hP, by rw [List.append_nil]; exact hD⟩
  refine c_new (C := RX0) (T := TX0) (N := 13) (ci := 3) (fs := [.int 0, .int 0, .int 0, .int 0, .int 0, .int 0, .int 0, .null, .null, .null, .null, .null, .null]) hx hb hts hown hE hz hW hS (fun w h => List.mem_cons_of_mem _ (List.mem_append_left _ (List.mem_append_left _ (List.mem_append_left _ (List.mem_append_right _ h))))) tyX0_ok (List.mem_of_getElem? (i := 10) rfl) (List.mem_of_getElem? (i := 11) rfl) (List.mem_of_getElem? (i := 12) rfl) rfl (fun j hj => by rcases (show j = 0 ∨ j = 1 ∨ j = 2 ∨ j = 3 ∨ j = 4 ∨ j = 5 ∨ j = 6 ∨ j = 7 ∨ j = 8 ∨ j = 9 ∨ j = 10 ∨ j = 11 ∨ j = 12 by omega) with rfl | rfl | rfl | rfl | rfl | rfl | rfl | rfl | rfl | rfl | rfl | rfl | rfl <;> rfl) (by omega) (by omega) dX6_add_67 (fun q0 H hW hS => ?_)
  have hW : CW z G (L.map (cel G ad (σ, ν, ρ, lo))) [(q0, .inr (3, [.int 0, .int 0, .int 0, .int 0, .int 0, .int 0, .int 0, .null, .null, .null, .null, .null, .null]))] H := hW
  refine lv_dup hx hb dX6_add_70 rfl ?_
  refine lv_aload_n hx hb dX6_add_71 rfl l0 ?_
  obtain ⟨i0, hl0, h0, hq0⟩ := WPx_at (X := [(q0, (.inr (3, [.int 0, .int 0, .int 0, .int 0, .int 0, .int 0, .int 0, .null, .null, .null, .null, .null, .null]) : va_E))]) (G := G) (ad := ad) (S := (σ, ν, ρ, lo)) hL (show ex ν 0 0 from rfl)
  obtain ⟨i3, hl3, h3, hq3⟩ := WPx_at (X := [(q0, (.inr (3, [.int 0, .int 0, .int 0, .int 0, .int 0, .int 0, .int 0, .null, .null, .null, .null, .null, .null]) : va_E))]) (G := G) (ad := ad) (S := (σ, ν, ρ, lo)) hL (show ex ν 3 (ν 0 0 3) from hi)
  refine va_get (C := RX6) (T := TX6) (N := 8) (ci := 9) (fs := fl_0 ad ν ρ 0 (σ 0 0)) (v := .ref (ad 3 (ν 0 0 3))) hx hb hts (fun w h => List.mem_cons_of_mem _ (List.mem_append_left _ (List.mem_append_left _ (List.mem_append_left _ (List.mem_append_left _ (List.mem_append_right _ h)))))) hown hE.1 hW.1 i0 hq0 rfl 3 (by decide) (hts _ (List.mem_of_getElem? (i := 1) rfl)) (fun _ h9 => h9) rfl dX6_add_72 ?_
  refine va_get (C := RX0) (T := TX0) (N := 13) (ci := 3) (fs := fl_3 ad ν ρ (ν 0 0 3) (σ 3 (ν 0 0 3))) (v := .ref (ad 5 (ν 3 (ν 0 0 3) 7))) hx hb hts (fun w h => List.mem_cons_of_mem _ (List.mem_append_left _ (List.mem_append_left _ (List.mem_append_left _ (List.mem_append_right _ h))))) hown hE.1 hW.1 i3 hq3 rfl 7 (by decide) (hts _ (List.mem_of_getElem? (i := 13) rfl)) (fun _ h9 => h9) rfl dX6_add_75 ?_
  refine k_I (rest := [.ref q0, .ref (ad 0 0)]) (As := [.ref (ad 5 (ν 3 (ν 0 0 3) 7))]) ⟨hx, hb, hml, hown, hts⟩ hE hz hS hW (miX0 l z G (L.map (cel G ad (σ, ν, ρ, lo))) q0 (ad 5 (ν 3 (ν 0 0 3) 7))) (cwI 1 hts gX6_add_X0_init rfl rfl rfl (hts _ (List.mem_of_getElem? (i := 12) rfl)) (hts _ (List.mem_of_getElem? (i := 74) rfl)) (hts _ (List.mem_of_getElem? (i := 75) rfl)) rfl (by decide +kernel) ⟨by show 2 + 1 ≤ _; omega, by show 8 + (2 + 11) + 32 ≤ _; omega⟩) rfl hsz rfl (Nat.le_of_ble_eq_true rfl) dX6_add_78 ⟨by show cells + 1 + 7 ≤ _; omega, by show slots + 13 + 21 ≤ _; omega⟩ (fun u9 H locs hp hW hS => ?_)
  obtain ⟨q1, q2, q3, q4, q5, q6, q7, rfl⟩ := hp
  obtain ⟨hP, hD⟩ := hW
  obtain ⟨hinj, -, -, -, -⟩ := WPx_el (G := G) (ad := ad) (S := (σ, ν, ρ, lo)) hL hD
  obtain ⟨j0, hl0, h0, hq0⟩ := WPx_at (X := [(q0, .inr (3, [.int (-1 : Int32), .int (-1 : Int32), .int (-1 : Int32), .int (-1 : Int32), .int (-1 : Int32), .int (-1 : Int32), .int (-1 : Int32), .ref (ad 5 (ν 3 (ν 0 0 3) 7)), .ref q1, .ref q3, .ref q5, .ref q6, .ref q7])), (q1, .inr (5, [.ref q2, .int (0 : Int32)])), (q2, .inl (G.2.1 0, 4, .inl (fun _ => 0))), (q3, .inr (5, [.ref q4, .int (0 : Int32)])), (q4, .inl (G.2.1 0, 4, .inl (fun _ => 0))), (q5, .inr (4, [.int (-1 : Int32), .int (-1 : Int32), .int (-1 : Int32)])), (q6, .inr (4, [.int (-1 : Int32), .int (-1 : Int32), .int (-1 : Int32)])), (q7, .inr (4, [.int (-1 : Int32), .int (-1 : Int32), .int (-1 : Int32)]))]) (G := G) (ad := ad) (S := (σ, ν, ρ, lo)) hL (show ex ν 0 0 from rfl)
  refine va_put (C := RX6) (T := TX6) (N := 8) (ci := 9) (fs := fl_0 ad ν ρ 0 (σ 0 0)) (ty := .object "Amendmark$Instruction") (v := .ref q0) hx hb hts (fun w h => List.mem_cons_of_mem _ (List.mem_append_left _ (List.mem_append_left _ (List.mem_append_left _ (List.mem_append_left _ (List.mem_append_right _ h)))))) tyX6 tyX6_ok nmX6 hown hE.1 hP hD hS j0 hq0 rfl 3 (by decide) (hts _ (List.mem_of_getElem? (i := 1) rfl)) (fun _ h9 => h9) rfl (by decide +kernel) rfl rfl (by show 3 < 8; decide) dX6_add_81 (fun H1 locs1 k1 k2 k3 => ?_)
  generalize hN : ν 99 0 0 = N at *
  have hCN : clo ν := hC
  refine kk (sgI σ N) (nuI ν (ν 0 0 3) N) (adI ad N q0 q1 q2 q3 q4 q5 q6 q7) rfl rfl (fun k o hk he => ⟨?_, adI_o (fun t => ?_)⟩) H1 locs1 (WP_ext (S := (σ, ν, ρ, lo)) (K := KI N) hL k1 k2 ?_ (fun k o => ?_)) k3
  · rw [← hN]; exact (ex_nuI k o).mpr (Or.inl he)
  · rw [KI_iff, ← hN] at t
    rcases t with ⟨rfl, rfl⟩ | ⟨rfl, h⟩ | ⟨rfl, h⟩ | ⟨rfl, h⟩
    · exact absurd he (Nat.lt_irrefl _)
    · have : o < 2 * ν 99 0 0 := he
      omega
    · have : o < 2 * ν 99 0 0 := he
      omega
    · have : o < 3 * ν 99 0 0 := he
      omega
  · rw [set_left9 (by rw [List.length_map]; exact hl0), List.map_append]
    have e1 : (L.map (cel G ad (σ, ν, ρ, lo))).set j0 (ad 0 0, .inr (9, (fl_0 ad ν ρ 0 (σ 0 0)).set 3 (.ref q0))) = L.map (cel G (adI ad N q0 q1 q2 q3 q4 q5 q6 q7) (sgI σ N, nuI ν (ν 0 0 3) N, ρ, lo)) := by
      refine map_set9 hinj h0 ?_ (fun a b hab hne => ?_)
      · have es : sgI σ N 0 0 = σ 0 0 := sgI_o (fun t => by rcases KI_iff.mp t with h | h | h | h <;> omega)
        have had : ∀ k, k ≠ 3 → k ≠ 4 → k ≠ 6 → k ≠ 22 → adI ad N q0 q1 q2 q3 q4 q5 q6 q7 k = ad k := fun k h3 h4 h6 h22 => funext fun o => adI_o (fun t => by rcases KI_iff.mp t with h | h | h | h <;> omega)
        have eN : adI ad N q0 q1 q2 q3 q4 q5 q6 q7 3 N = q0 := if_pos ⟨rfl, rfl⟩
        show (adI ad N q0 q1 q2 q3 q4 q5 q6 q7 0 0, (Sum.inr (9, fl_0 (adI ad N q0 q1 q2 q3 q4 q5 q6 q7) (nuI ν (ν 0 0 3) N) ρ 0 (sgI σ N 0 0)) : va_E)) = _
        rw [es]
        simp only [fl_0, nuI_0, eN, had 0 (by decide) (by decide) (by decide) (by decide), had 1 (by decide) (by decide) (by decide) (by decide), had 7 (by decide) (by decide) (by decide) (by decide)]
        rfl
      · have hab' : ex ν a b := (hL a b).mpr hab
        rw [← hN]
        refine cel_adI hCN hab' (fun t => ?_)
        subst t
        exact hne ⟨rfl, hab'⟩
    rw [e1]
    congr 1
    simp only [KI, List.map_cons, List.map_nil, cel, ct, ctr, fl_3, fl_4, fl_6, sgI_3, sgI_0 (N := N) (Or.inl rfl) (Or.inl rfl), sgI_0 (N := N) (Or.inl rfl) (Or.inr rfl), sgI_0 (N := N) (Or.inr rfl) (Or.inl rfl), sgI_0 (N := N) (Or.inr rfl) (Or.inr rfl), sgI_6 (N := N) (Or.inl rfl), sgI_6 (N := N) (Or.inr (Or.inl rfl)), sgI_6 (N := N) (Or.inr (Or.inr rfl)), nuI_3]
    have z0 : adI ad N q0 q1 q2 q3 q4 q5 q6 q7 3 N = q0 := if_pos ⟨rfl, rfl⟩
    have z1 : adI ad N q0 q1 q2 q3 q4 q5 q6 q7 4 (2 * N) = q1 := by simp [adI]
    have z2 : adI ad N q0 q1 q2 q3 q4 q5 q6 q7 22 (2 * N) = q2 := by simp [adI]
    have z3 : adI ad N q0 q1 q2 q3 q4 q5 q6 q7 4 (2 * N + 1) = q3 := by simp [adI]
    have z4 : adI ad N q0 q1 q2 q3 q4 q5 q6 q7 22 (2 * N + 1) = q4 := by simp [adI]
    have z5 : adI ad N q0 q1 q2 q3 q4 q5 q6 q7 6 (3 * N) = q5 := by simp [adI]
    have z6 : adI ad N q0 q1 q2 q3 q4 q5 q6 q7 6 (3 * N + 1) = q6 := by simp [adI]
    have z7 : adI ad N q0 q1 q2 q3 q4 q5 q6 q7 6 (3 * N + 2) = q7 := by simp [adI]
    have z9 : adI ad N q0 q1 q2 q3 q4 q5 q6 q7 5 (ν 3 (ν 0 0 3) 7) = ad 5 (ν 3 (ν 0 0 3) 7) := adI_o (fun t => by rcases KI_iff.mp t with h | h | h | h <;> omega)
    simp only [z0, z1, z2, z3, z4, z5, z6, z7, z9]
  · rw [← hN]; exact ex_nuI k o

