/-! new terms and a new instruction in the world. Written by wip/gen/hand6.py -/
theorem WP_ext {z : Nat} {G : Gl} {ad1 : Nat → Nat → Nat} {S S1 : St} {H : Heap} {L K : List (Nat × Nat)} {ws : va_W} (hL : ∀ k o, ex S.2.1 k o ↔ (k, o) ∈ L) (hP : va_P G.1 vwCl ws H) (hD : va_D (Az z) ws) (hws : ws = (L ++ K).map (cel G ad1 S1)) (hex : ∀ k o, ex S1.2.1 k o ↔ ex S.2.1 k o ∨ (k, o) ∈ K) : WP z G ad1 S1 H :=
  ⟨L ++ K, fun k o => by rw [hex, hL, List.mem_append], hws ▸ hP, hws ▸ hD⟩
/-- one cell of the world changes, the others read the same -/
theorem map_set9 {G : Gl} {ad ad1 : Nat → Nat → Nat} {S S1 : St} {L : List (Nat × Nat)} {q k o : Nat} {x : Nat × va_E} (hi : inj9 L) (hq : L[q]? = some (k, o)) (he : cel G ad1 S1 (k, o) = x) (hoth : ∀ a b, (a, b) ∈ L → ¬ (a = k ∧ b = o) → cel G ad1 S1 (a, b) = cel G ad S (a, b)) : (L.map (cel G ad S)).set q x = L.map (cel G ad1 S1) := by
  subst he
  apply List.ext_getElem?
  intro i
  by_cases hiq : i = q
  · subst hiq
    have hl : i < (L.map (cel G ad S)).length := by rw [List.length_map]; exact (List.getElem?_eq_some_iff.mp hq).1
    rw [List.getElem?_set_self hl, List.getElem?_map, hq]
    rfl
  · rw [List.getElem?_set_ne (Ne.symm hiq), List.getElem?_map, List.getElem?_map]
    cases hx : L[i]? with
    | none => rfl
    | some y =>
      obtain ⟨a, b⟩ := y
      have hne : ¬ (a = k ∧ b = o) := by
        rintro ⟨rfl, rfl⟩
        exact hiq (hi i q _ hx hq)
      show some (cel G ad S (a, b)) = some (cel G ad1 S1 (a, b))
      rw [hoth a b (List.mem_of_getElem? hx) hne]
theorem set_left9 {α : Type} {A B : List α} {i : Nat} {x : α} (h : i < A.length) : (A ++ B).set i x = A.set i x ++ B := List.set_append_left i x h
theorem nuT_99 {ν : NU} {i : Nat} : nuT ν i 99 0 0 = ν 99 0 0 ∧ nuT ν i 99 0 1 = ν 99 0 1 + 1 := ⟨by simp [nuT, u3], by simp [nuT, u3]⟩
theorem nuT_o {ν : NU} {i a : Nat} (h3 : a ≠ 3) (h9 : a ≠ 99) : nuT ν i a = ν a := by
  show u3 (u3 ν 99 0 1 _) 3 i 7 _ a = ν a
  rw [u3_ne h3, u3_ne h9]
theorem nuT_i {ν : NU} {i : Nat} : nuT ν i 3 i 7 = ν 99 0 1 := by simp [nuT, u3]
theorem nuT_3 {ν : NU} {i b : Nat} (h : b ≠ i) : nuT ν i 3 b = ν 3 b := by
  show u3 (u3 ν 99 0 1 _) 3 i 7 _ 3 b = ν 3 b
  rw [u3_oth (fun t => h t.2), u3_ne (by decide)]
theorem ex_nuT {ν : NU} {i : Nat} (k o : Nat) : ex (nuT ν i) k o ↔ ex ν k o ∨ (k, o) ∈ [(5, ν 99 0 1)] := by
  have e7 : nuT ν i 7 = ν 7 := nuT_o (by decide) (by decide)
  rw [List.mem_singleton, Prod.mk.injEq]
  by_cases h5 : k = 5
  · subst h5
    show o < nuT ν i 99 0 1 ↔ o < ν 99 0 1 ∨ _
    rw [nuT_99.2]
    constructor
    · intro h
      by_cases h' : o < ν 99 0 1
      · exact Or.inl h'
      · exact Or.inr ⟨rfl, by omega⟩
    · rintro (h | ⟨-, h⟩) <;> omega
  · have e : ex (nuT ν i) k o ↔ ex ν k o := by
      unfold ex
      split <;> first | exact Iff.rfl | (rw [nuT_99.1]) | (rw [e7]) | exact absurd rfl h5
    rw [e]
    exact ⟨Or.inl, fun t => t.elim id (fun u => absurd u.1 h5)⟩

set_option maxHeartbeats 600000 in
set_option maxRecDepth 100000 in
theorem r_newTerms {p : Program} {l : Launch} {e : Env} {R : Room} {s : State} {m : MethodId} {args : Array Value} {below : List Frame} {meth : Method} {c : Code} {H : Heap} {locs : List Loc} {cells slots : Nat} {Q : State → Prop} {ls : Array Slot} {z : Nat} {G : Gl} {ad : Nat → Nat → Nat} {σ : SG} {ν : NU} {ρ : RH} {lo : Int64} {w1 w2 w3 w4 : Int32} (hx : p.tables.exec = Jvm.exec) (hb : c.code = cX6_terms) (hml : c.maxLocals = 5) (hsz : ls.size = 5) (hts : ∀ w ∈ wsX6_terms, w.before args s = true) (hown : s.vm.findClass RX6 = some m.cls) (hE : Ev z G s) (hz : z ≤ s.heap.size) (hW : WP z G ad (σ, ν, ρ, lo) H) (hS : va_S (Az z) s.heap H locs) (l1 : ls[1]? = some (.val (.int w1))) (l2 : ls[2]? = some (.val (.int w2))) (l3 : ls[3]? = some (.val (.int w3))) (l4 : ls[4]? = some (.val (.int w4))) (i : Nat) (hC : clo ν) (hi : i < ν 99 0 0) (hR : 2 ≤ R.frames ∧ 36 ≤ R.locals ∧ cells + 1 ≤ R.cells ∧ slots + 4 ≤ R.slots)
    (kk : ∀ (σ1 : SG) (ν1 : NU) (ad1 : Nat → Nat → Nat), σ1 = r3 σ 5 (ν 99 0 1) (tm4 w1 w2 w3 w4) → ν1 = nuT ν i → Xt ad ad1 ν ν1 → ∀ (H1 : Heap) (locs1 : List Loc), WP z G ad1 (σ1, ν1, ρ, lo) H1 → va_S (Az z) s.heap H1 locs1 → W p l e R s m args below meth c H1 locs1 (cells + 1) (slots + 4) Q (F0 m 89 ls [])) : W p l e R s m args below meth c H locs cells slots Q (F0 m 74 ls [.ref (ad 3 i)]) := by
  obtain ⟨L, hL, hP, hD⟩ := hW
  have hW : CW z G (L.map (cel G ad (σ, ν, ρ, lo))) [] H := ⟨by rw [List.append_nil]; exact hP, by rw [List.append_nil]; exact hD⟩
  refine c_new (C := RX3) (T := TX3) (N := 4) (ci := 6) (fs := [.int 0, .int 0, .int 0, .int 0]) hx hb hts hown hE hz hW hS (fun w h => List.mem_cons_of_mem _ (List.mem_append_left _ (List.mem_append_left _ (List.mem_append_left _ (List.mem_append_left _ (List.mem_append_right _ h)))))) tyX3_ok (List.mem_of_getElem? (i := 4) rfl) (List.mem_of_getElem? (i := 5) rfl) (List.mem_of_getElem? (i := 6) rfl) rfl (fun j hj => by rcases (show j = 0 ∨ j = 1 ∨ j = 2 ∨ j = 3 by omega) with rfl | rfl | rfl | rfl <;> rfl) hR.2.2.1 hR.2.2.2 dX6_terms_74 (fun q H hW hS => ?_)
  have hW : CW z G (L.map (cel G ad (σ, ν, ρ, lo))) [(q, .inr (6, [.int 0, .int 0, .int 0, .int 0]))] H := hW
  refine lv_dup hx hb dX6_terms_77 rfl ?_
  refine lv_iload_n hx hb dX6_terms_78 rfl l1 ?_
  refine lv_iload_n hx hb dX6_terms_79 rfl l2 ?_
  refine lv_iload_n hx hb dX6_terms_80 rfl l3 ?_
  refine lv_iload hx hb dX6_terms_81 l4 ?_
  refine k_I (rest := [.ref q, .ref (ad 3 i)]) (As := [.int w1, .int w2, .int w3, .int w4]) ⟨hx, hb, hml, hown, hts⟩ hE hz hS hW (miX3 l z G (L.map (cel G ad (σ, ν, ρ, lo))) q w1 w2 w3 w4) (cwI 4 hts gX6_terms_X3_init rfl rfl rfl (hts _ (List.mem_of_getElem? (i := 6) rfl)) (hts _ (List.mem_of_getElem? (i := 43) rfl)) (hts _ (List.mem_of_getElem? (i := 44) rfl)) rfl (by decide +kernel) ⟨by show 1 + 1 ≤ _; omega, by show 8 + (5 + 11) + 12 ≤ _; omega⟩) rfl hsz rfl (Nat.le_of_ble_eq_true rfl) dX6_terms_83 ⟨hR.2.2.1, hR.2.2.2⟩ (fun u9 H locs hp hW hS => ?_)
  subst hp
  obtain ⟨hP, hD⟩ := hW
  obtain ⟨hinj, -, -, -, -⟩ := WPx_el (G := G) (ad := ad) (S := (σ, ν, ρ, lo)) hL hD
  obtain ⟨i3, hl3, h3, hq3⟩ := WPx_at (X := [(q, (.inr (6, [.int w1, .int w2, .int w3, .int w4]) : va_E))]) (G := G) (ad := ad) (S := (σ, ν, ρ, lo)) hL (show ex ν 3 i from hi)
  refine va_put (C := RX0) (T := TX0) (N := 13) (ci := 3) (fs := fl_3 ad ν ρ i (σ 3 i)) (ty := .object "Amendmark$Terms") (v := .ref q) hx hb hts (fun w h => List.mem_cons_of_mem _ (List.mem_append_left _ (List.mem_append_left _ (List.mem_append_left _ (List.mem_append_right _ h))))) tyX0 tyX0_ok nmX0 hown hE.1 hP hD hS i3 hq3 rfl 7 (by decide) (hts _ (List.mem_of_getElem? (i := 7) rfl)) (fun _ h9 => h9) rfl (by decide +kernel) rfl rfl (by show 7 < 13; decide) dX6_terms_86 (fun H1 locs1 k1 k2 k3 => ?_)
  let ad1 : Nat → Nat → Nat := fun k o => if k = 5 ∧ o = ν 99 0 1 then q else ad k o
  have had : ∀ k, k ≠ 5 → ad1 k = ad k := fun k hk => funext fun o => if_neg (fun t => hk t.1)
  have had5 : ∀ o, o ≠ ν 99 0 1 → ad1 5 o = ad 5 o := fun o ho => if_neg (fun t => ho t.2)
  have hadN : ad1 5 (ν 99 0 1) = q := if_pos ⟨rfl, rfl⟩
  refine kk _ (nuT ν i) ad1 rfl rfl (fun k o hk he => ⟨(ex_nuT k o).mpr (Or.inl he), if_neg (fun t => ?_)⟩) H1 locs1 (WP_ext (S := (σ, ν, ρ, lo)) (K := [(5, ν 99 0 1)]) hL k1 k2 ?_ (fun k o => ex_nuT k o)) k3
  · obtain ⟨rfl, rfl⟩ := t
    exact absurd he (Nat.lt_irrefl _)
  · rw [set_left9 (by rw [List.length_map]; exact hl3), List.map_append]
    have e1 : (L.map (cel G ad (σ, ν, ρ, lo))).set i3 (ad 3 i, .inr (3, (fl_3 ad ν ρ i (σ 3 i)).set 7 (.ref q))) = L.map (cel G ad1 (r3 σ 5 (ν 99 0 1) (tm4 w1 w2 w3 w4), nuT ν i, ρ, lo)) := by
      refine map_set9 hinj h3 ?_ (fun a b hab hne => ?_)
      · have e5 : ad1 5 (nuT ν i 3 i 7) = q := by rw [nuT_i, hadN]
        have es : r3 σ 5 (ν 99 0 1) (tm4 w1 w2 w3 w4) 3 i = σ 3 i := r3_oth (fun t => absurd t.1 (by decide))
        show (ad1 3 i, (Sum.inr (3, fl_3 ad1 (nuT ν i) ρ i (r3 σ 5 (ν 99 0 1) (tm4 w1 w2 w3 w4) 3 i)) : va_E)) = _
        rw [es]
        simp only [fl_3, e5, had 3 (by decide), had 4 (by decide), had 6 (by decide)]
        rfl
      · have hab' : ex ν a b := (hL a b).mpr hab
        have hn5 : ¬ (a = 5 ∧ b = ν 99 0 1) := by
          rintro ⟨rfl, rfl⟩
          exact absurd hab' (Nat.lt_irrefl _)
        have es : r3 σ 5 (ν 99 0 1) (tm4 w1 w2 w3 w4) a b = σ a b := r3_oth hn5
        have ea : ad1 a b = ad a b := if_neg hn5
        show (ad1 a b, ctr G ad1 (nuT ν i) ρ lo a b (r3 σ 5 (ν 99 0 1) (tm4 w1 w2 w3 w4) a b)) = (ad a b, ctr G ad ν ρ lo a b (σ a b))
        rw [es, ea]
        have e0 : nuT ν i 0 = ν 0 := nuT_o (by decide) (by decide)
        have e7 : nuT ν i 7 = ν 7 := nuT_o (by decide) (by decide)
        have e8 : nuT ν i 8 = ν 8 := nuT_o (by decide) (by decide)
        have e13 : nuT ν i 13 = ν 13 := nuT_o (by decide) (by decide)
        by_cases h3a : a = 3
        · subst h3a
          have hbi : b ≠ i := fun t => hne ⟨rfl, t⟩
          have e5 : ad1 5 (nuT ν i 3 b 7) = ad 5 (ν 3 b 7) := by
            rw [nuT_3 hbi]
            exact had5 _ (by have := hC.2.2.2 b hab'; omega)
          show (ad 3 b, (Sum.inr (3, fl_3 ad1 (nuT ν i) ρ b (σ 3 b)) : va_E)) = (ad 3 b, Sum.inr (3, fl_3 ad ν ρ b (σ 3 b)))
          simp only [fl_3, e5, had 4 (by decide), had 6 (by decide)]
        · refine congrArg (fun t => (ad a b, t)) ?_
          unfold ctr
          split
          all_goals first
            | rfl
            | exact absurd rfl h3a
            | (simp only [fl_0, fl_1, fl_2, fl_4, fl_5, fl_6, e0, e7, e8, e13, had 1 (by decide), had 2 (by decide), had 3 (by decide), had 4 (by decide), had 6 (by decide), had 7 (by decide), had 8 (by decide), had 11 (by decide), had 12 (by decide), had 13 (by decide), had 14 (by decide), had 15 (by decide), had 16 (by decide), had 18 (by decide), had 20 (by decide), had 21 (by decide), had 22 (by decide)]; done)
            | (unfold fl_30; simp only [had 102 (by decide), had 108 (by decide), had 110 (by decide), had 113 (by decide), had 114 (by decide), had 115 (by decide), had 116 (by decide), had 117 (by decide), had 118 (by decide), had 119 (by decide), had 120 (by decide), had 121 (by decide), had 122 (by decide), had 123 (by decide), had 124 (by decide), had 125 (by decide), had 126 (by decide), had 127 (by decide), had 128 (by decide), had 129 (by decide), had 130 (by decide), had 131 (by decide), had 132 (by decide), had 136 (by decide), had 137 (by decide), had 138 (by decide), had 139 (by decide), had 140 (by decide), had 141 (by decide), had 142 (by decide), had 143 (by decide), had 144 (by decide), had 146 (by decide), had 147 (by decide)]; done)
    rw [e1]
    congr 1
    show [(q, (Sum.inr (6, [.int w1, .int w2, .int w3, .int w4]) : va_E))] = [(ad1 5 (ν 99 0 1), Sum.inr (6, fl_5 ad1 (nuT ν i) ρ (ν 99 0 1) (r3 σ 5 (ν 99 0 1) (tm4 w1 w2 w3 w4) 5 (ν 99 0 1))))]
    rw [hadN, r3_row]
    rfl

