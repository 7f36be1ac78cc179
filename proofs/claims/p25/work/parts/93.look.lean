/-! A look at another view: what the law counts goes along. -/
theorem u2_cell {f : RH} {k i a c : Nat} {x : Int32} (h : ¬ (a = k ∧ c = i)) : u2 f k i x a c = f a c := if_neg h
theorem u2_hit {f : RH} {k i : Nat} {x : Int32} : u2 f k i x k i = x := if_pos ⟨rfl, rfl⟩
theorem LKI.of {γ γ' ρ ρ' : RH} {n : Nat} (h : LKI γ ρ n) (g2 : ∀ i, i < n → γ' 2 (γ 14 i).toNatClampNeg = γ 2 (γ 14 i).toNatClampNeg) (g : ∀ j, j = 14 ∨ (22 ≤ j ∧ j ≤ 27) → γ' j = γ j) (r : ∀ j, 1 ≤ j → j ≤ 3 → ρ' j = ρ j) : LKI γ' ρ' n := by
  refine ⟨fun i hi => ?_, fun i h1 h2 => by rw [r 3 (by omega) (by omega)]; exact h.2 i h1 h2⟩
  have := h.1 i hi
  unfold HN TN ON at *
  rw [g 14 (by omega), g 22 (by omega), g 23 (by omega), g 24 (by omega), g 25 (by omega), g 26 (by omega), g 27 (by omega), r 1 (by omega) (by omega), r 2 (by omega) (by omega), r 3 (by omega) (by omega), g2 i hi]
  exact this
theorem LKA.of {γ γ' ρ ρ' : RH} (h : LKA γ ρ) (g1 : γ' 1 = γ 1) (g2 : γ' 2 = γ 2) (r1 : ρ' 0 1 = ρ 0 1) (r4 : ρ' 0 4 = ρ 0 4) : LKA γ' ρ' := by
  unfold LKA at *
  rw [g1, g2, r1, r4]
  exact h
theorem LKN.of {γ γ' ρ ρ' : RH} (h : LKN γ ρ) (g : ∀ j, 3 ≤ j → j ≤ 9 → γ' j 0 = γ j 0) (r : ∀ j, 8 ≤ j → j ≤ 13 → ρ' 0 j = ρ 0 j) : LKN γ' ρ' := by
  unfold LKN at *
  rw [g 3 (by omega) (by omega), g 4 (by omega) (by omega), g 5 (by omega) (by omega), g 6 (by omega) (by omega), g 7 (by omega) (by omega), g 9 (by omega) (by omega), r 8 (by omega) (by omega), r 9 (by omega) (by omega), r 10 (by omega) (by omega), r 11 (by omega) (by omega), r 12 (by omega) (by omega), r 13 (by omega) (by omega)]
  exact h
theorem LKV.of {γ γ' ρ ρ' : RH} (h : LKV γ ρ) (g : ∀ j, 33 ≤ j → j ≤ 35 → γ' j 0 = γ j 0) (r : ∀ j, 5 ≤ j → j ≤ 7 → ρ' 0 j = ρ 0 j) : LKV γ' ρ' := by
  unfold LKV at *
  rw [g 33 (by omega) (by omega), g 34 (by omega) (by omega), g 35 (by omega) (by omega), r 5 (by omega) (by omega), r 6 (by omega) (by omega), r 7 (by omega) (by omega)]
  exact h
theorem q_looked {σ : SG} {ν : NU} {γ ρ : RH} {n np d kn te T : Nat} {post : Int32 → SG → NU → RH → Prop} (hS : SIM σ ν γ n np) (hL : LKW γ ρ n np) (hT : γ 0 0 = nI T) (hT9 : T ≤ 650) (hd : d < 100) (hk : kn ≤ T) (ht : te < 3) (k : ∀ σ' ν' γ' ρ', γ' = u2 (u2 (u2 γ 33 0 (nI d)) 34 0 (nI kn)) 35 0 (nI te) → ρ' = u2 (u2 (u2 ρ 0 5 (nI d)) 0 6 (nI kn)) 0 7 (nI te) → SIM σ' ν' γ' n np → LKW γ' ρ' n np → post 1 σ' ν' ρ') : wpL_isLooked σ ν ρ (nI d) (nI kn) (nI te) post := by
  have h20 := hS.h8.2.1
  unfold wpL_isLooked
  refine ⟨k14 (i := 5) (by decide), fun t2 e2 => ⟨k14 (i := 6) (by decide), fun t5 e5 => ⟨k14 (i := 7) (by decide), fun t8 e8 => ?_⟩⟩⟩
  have e9 : t8 = u2 (u2 (u2 ρ 0 5 (nI d)) 0 6 (nI kn)) 0 7 (nI te) := by rw [e8, e5, e2]; rfl
  obtain ⟨γ', eγ⟩ : ∃ γ', γ' = u2 (u2 (u2 γ 33 0 (nI d)) 34 0 (nI kn)) 35 0 (nI te) := ⟨_, rfl⟩
  have gr : ∀ j, j ≠ 33 → j ≠ 34 → j ≠ 35 → γ' j = γ j := fun j h1 h2 h3 => by rw [eγ, u2_oth h3, u2_oth h2, u2_oth h1]
  have rr : ∀ j, j ≠ 5 → j ≠ 6 → j ≠ 7 → t8 0 j = ρ 0 j := fun j h1 h2 h3 => by rw [e9, u2_cell (fun z => h3 z.2), u2_cell (fun z => h2 z.2), u2_cell (fun z => h1 z.2)]
  have ro : ∀ j, j ≠ 0 → t8 j = ρ j := fun j h1 => by rw [e9, u2_oth h1, u2_oth h1, u2_oth h1]
  have g33 : γ' 33 0 = nI d := by rw [eγ]; rfl
  have g34 : γ' 34 0 = nI kn := by rw [eγ]; rfl
  have g35 : γ' 35 0 = nI te := by rw [eγ]; rfl
  have hLW : LKW γ' t8 n np := by
    obtain ⟨⟨T', a1, a2, a3⟩, e2', e3', hA, -, hN, hI⟩ := hL
    refine ⟨⟨T', a1, by rw [gr 0 (by decide) (by decide) (by decide)]; exact a2, by rw [rr 0 (by decide) (by decide) (by decide)]; exact a3⟩, by rw [rr 2 (by decide) (by decide) (by decide)]; exact e2', by rw [rr 3 (by decide) (by decide) (by decide)]; exact e3', ?_, ?_, ?_, ?_⟩
    · exact hA.of (gr 1 (by decide) (by decide) (by decide)) (gr 2 (by decide) (by decide) (by decide)) (rr 1 (by decide) (by decide) (by decide)) (rr 4 (by decide) (by decide) (by decide))
    · refine ⟨?_, ?_, ?_, ⟨kn, by omega, g34⟩, ⟨d, hd, g33⟩, te, ht, g35⟩
      · rw [g33, e9]; rfl
      · rw [g34, e9]; rfl
      · rw [g35, e9]; rfl
    · exact hN.of (fun j h1 h2 => by rw [gr j (by omega) (by omega) (by omega)]) (fun j h1 h2 => rr j (by omega) (by omega) (by omega))
    · exact hI.of (fun i hi => by rw [gr 2 (by decide) (by decide) (by decide)]) (fun j hj => gr j (by omega) (by omega) (by omega)) (fun j h1 h2 => ro j (by omega))
  have h3 : t8 0 3 = nI np := hLW.2.2.1
  have hok : okL γ (nI d) (nI kn) (nI te) := by
    refine ⟨⟨?_, ?_⟩, ⟨?_, ?_⟩, ?_, ?_⟩
    · rw [ti_n (by omega)]; omega
    · rw [ti_n (by omega)]; omega
    · rw [ti_n (by omega)]; omega
    · rw [hT, ti_n (by omega), ti_n (by omega)]; omega
    · rw [ti_n (by omega)]; omega
    · rw [ti_n (by omega)]; omega
  unfold wpL_does_5
  refine y_look hS (fun z => absurd hok z) (fun _ σ1 ν1 hS1 => ?_)
  rw [← eγ] at hS1 ⊢
  have hG := hS1.gd
  obtain ⟨hlen, hmem⟩ := ls9_len hG
  have hle : (ls9 (cv9 n np γ')).length ≤ np := Nat.le_trans (nodup_cn9 np _ (ls9_nodup hG) (fun x hx => ⟨hG.1.1 x (hmem x hx).1 (hmem x hx).2, (hmem x hx).2⟩)) (cn9_le np)
  have fin : post 1 σ1 ν1 t8 := k σ1 ν1 γ' t8 eγ e9 hS1 hLW
  rw [ti_n (by omega), if_neg (by omega)]
  refine ⟨k14 (i := 3) (by decide), ?_⟩
  rw [show ((3 : Int32)).toNatClampNeg = 3 from rfl, h3, ti_n (by omega), if_pos (by omega)]
  unfold wpL_does_6
  refine y_provisionAt hS1 (fun z => absurd z (by rw [ti_n (by omega)]; omega)) (fun k1 hk1 e1 => ?_)
  have q1 : (ls9 (cv9 n np γ')).length = k1 := nI_inj (by omega) (by omega) e1
  rw [← q1, List.getElem?_eq_none (Nat.le_refl _), oI_none, if_pos ti_m1]
  unfold jL_isLooked_60
  rw [if_neg z1I, ti_n (by omega)]
  by_cases c : (ls9 (cv9 n np γ')).length = 0
  · rw [if_pos (by omega)]
    exact fin
  · have e11 : nI (ls9 (cv9 n np γ')).length - (1 : Int32) = nI ((ls9 (cv9 n np γ')).length - 1) := by rw [li1, pk_sub (by omega)]
    rw [if_neg (by omega), e11]
    unfold wpL_does_6
    refine y_provisionAt hS1 (fun z => absurd z (by rw [ti_n (by omega)]; omega)) (fun k2 hk2 e3 => ?_)
    have q2 : (ls9 (cv9 n np γ')).length - 1 = k2 := nI_inj (by omega) (by omega) e3
    have hl : (ls9 (cv9 n np γ')).length - 1 < (ls9 (cv9 n np γ')).length := by omega
    have hm := (hmem _ (List.getElem_mem hl)).1
    rw [← q2, List.getElem?_eq_getElem hl, oI_some, ti_n (by omega), if_neg (by omega)]
    exact fin
