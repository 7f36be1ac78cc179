/-! The law's steps: words, terms, orders, strikes and suspensions. -/
theorem LKN.of2 {γ γ' ρ ρ' : RH} (h : LKN γ ρ) (g : ∀ j, 3 ≤ j → j ≤ 6 → γ' j 0 = γ j 0) (r : ∀ j, 10 ≤ j → j ≤ 13 → ρ' 0 j = ρ 0 j) (e8 : ρ' 0 8 = γ' 7 0) (e9 : ρ' 0 9 = γ' 9 0) : LKN γ' ρ' := by
  unfold LKN at *
  rw [g 3 (by omega) (by omega), g 4 (by omega) (by omega), g 5 (by omega) (by omega), g 6 (by omega) (by omega), r 10 (by omega) (by omega), r 11 (by omega) (by omega), r 12 (by omega) (by omega), r 13 (by omega) (by omega)]
  exact ⟨e8, e9, h.2.2⟩
theorem LKW.gam {γ γ' ρ : RH} {n np : Nat} (h : LKW γ ρ n np) (g : ∀ j, j ≤ 7 ∨ j = 9 ∨ j = 14 ∨ (22 ≤ j ∧ j ≤ 27) ∨ (33 ≤ j ∧ j ≤ 35) → γ' j = γ j) : LKW γ' ρ n np := by
  obtain ⟨⟨T, hT, t1, t2⟩, e2, e3, hA, hV, hN, hI⟩ := h
  refine ⟨⟨T, hT, by rw [g 0 (by omega)]; exact t1, t2⟩, e2, e3, hA.of (g 1 (by omega)) (g 2 (by omega)) rfl rfl, hV.of (fun j h1 h2 => by rw [g j (by omega)]) (fun j _ _ => rfl), ?_, hI.of (fun k hk => by rw [g 2 (by omega)]) (fun j hj => g j (by omega)) (fun j _ _ => rfl)⟩
  refine hN.of2 (fun j h1 h2 => by rw [g j (by omega)]) (fun j _ _ => rfl) ?_ ?_
  · rw [g 7 (by omega)]; exact hN.1
  · rw [g 9 (by omega)]; exact hN.2.1
section LAWB
variable {L : Nat} {xs : Nat → Int32} {κ : SG → NU → RH → Int64 → Int32 → Int32 → Int32 → Int32 → Prop} {post : Int32 → Prop} {σ : SG} {ν : NU} {γ ρ : RH} {n np i X Y : Nat} {x6 : Int64} {x8 x9 : Int32}
theorem l859_1 {w : Nat} (hI : IV i σ ν γ ρ n np x6 x8 x9) (K : KK i κ) (hX : X < 2147483648) (hY : Y < 2147483648) (hw : w < 140) : jL_law_859 L xs κ post σ ν ρ x6 x8 x9 (nI i) (nI X) (nI Y) 9 0 (nI w) 1 := by
  obtain ⟨hS, hL, hpn, T, hT, eT, hF⟩ := id hI
  obtain ⟨⟨T', hT', t1, t2⟩, e2, e3, hA, hV, hN, hLI⟩ := id hL
  have h20 := hS.h8.2.1
  have l9 : ρ 0 ((9 : Int32)).toNatClampNeg = γ 9 0 := hN.2.1
  have hok : 0 ≤ (nI w).toInt ∧ (nI w).toInt ≤ 139 := by rw [ti_n (by omega)]; omega
  unfold jL_law_859
  refine zc_word1 hS (fun z => absurd hok z) (fun _ e4 => ?_) (fun _ m hm e1 σ1 hS1 => ?_)
  · refine ⟨k14 (i := 9) (by decide), ?_⟩
    rw [l9, e4, if_pos (by decide)]
    unfold jL_law_888
    rw [if_pos rfl]
    unfold jL_law_896
    refine ⟨k14 (i := 9) (by decide), ?_⟩
    rw [if_pos (by decide)]
    refine ⟨k14 (i := 9) (by decide), fun t279 e279 => ?_⟩
    rw [Int32.add_zero, u2_same] at e279
    rw [e279]
    exact l1477 hI.up K hX hY
  · refine ⟨k14 (i := 9) (by decide), ?_⟩
    rw [l9, e1, nI_1, ti_n (by omega), if_neg (by omega)]
    refine ⟨k14 (i := 9) (by decide), ?_⟩
    unfold jL_law_888
    rw [if_pos rfl]
    unfold jL_law_896
    refine ⟨k14 (i := 9) (by decide), ?_⟩
    rw [ti_n (by omega), if_neg (by omega)]
    refine ⟨k14 (i := 9) (by decide), fun t276 e276 => ?_⟩
    rw [l9, e1, show nI m + (1 : Int32) = nI (m + 1) from nI_1 m] at e276
    have e276 : t276 = u2 ρ 0 9 (nI (m + 1)) := e276
    have rr : ∀ j, j ≠ 9 → t276 0 j = ρ 0 j := fun j h1 => by rw [e276, u2_cell (fun z => h1 z.2)]
    have ro : ∀ j, j ≠ 0 → t276 j = ρ j := fun j h1 => by rw [e276, u2_oth h1]
    obtain ⟨γ1, eγ⟩ : ∃ γ1, γ1 = u2 (u2 γ 10 m (nI w)) 9 0 (nI (m + 1)) := ⟨_, rfl⟩
    rw [← eγ] at hS1
    have gr : ∀ j, j ≠ 10 → j ≠ 9 → γ1 j = γ j := fun j h1 h2 => by rw [eγ, u2_oth h2, u2_oth h1]
    have hln : lgn n γ γ1 := ⟨fun j h1 h2 => gr j (by omega) (by omega), fun k hk => by rw [gr 2 (by decide) (by decide)]⟩
    have hLW : LKW γ1 t276 n np := by
      refine ⟨⟨T', hT', by rw [gr 0 (by decide) (by decide)]; exact t1, by rw [rr 0 (by decide)]; exact t2⟩, by rw [rr 2 (by decide)]; exact e2, by rw [rr 3 (by decide)]; exact e3, ?_, ?_, ?_, ?_⟩
      · exact hA.of (gr 1 (by decide) (by decide)) (gr 2 (by decide) (by decide)) (rr 1 (by decide)) (rr 4 (by decide))
      · exact hV.of (fun j h1 h2 => by rw [gr j (by omega) (by omega)]) (fun j h1 h2 => rr j (by omega))
      · refine hN.of2 (fun j h1 h2 => by rw [gr j (by omega) (by omega)]) (fun j h1 h2 => rr j (by omega)) ?_ ?_
        · rw [rr 8 (by decide), gr 7 (by decide) (by decide)]; exact hN.1
        · rw [e276, eγ, u2_hit, u2_hit]
      · exact hLI.of (fun k hk => by rw [gr 2 (by decide) (by decide)]) (fun j hj => gr j (by omega) (by omega)) (fun j h1 h2 => ro j (by omega))
    exact l1477 ⟨hS1, hLW, hpn, T, by omega, by rw [gr 0 (by decide) (by decide)]; exact eT, hF.re hS.h8 (fun _ _ => RE_ln hln) (Or.inl rfl) (Nat.le_refl _) h20 (Nat.le_refl _)⟩ K hX hY
theorem l859_0 {w : Nat} (hI : IV i σ ν γ ρ n np x6 x8 x9) (K : KK i κ) (hX : X < 2147483648) (hY : Y < 2147483648) (hw : w < 140) : jL_law_859 L xs κ post σ ν ρ x6 x8 x9 (nI i) (nI X) (nI Y) 8 0 (nI w) 0 := by
  obtain ⟨hS, hL, hpn, T, hT, eT, hF⟩ := id hI
  obtain ⟨⟨T', hT', t1, t2⟩, e2, e3, hA, hV, hN, hLI⟩ := id hL
  have h20 := hS.h8.2.1
  have l9 : ρ 0 ((8 : Int32)).toNatClampNeg = γ 7 0 := hN.1
  have hok : 0 ≤ (nI w).toInt ∧ (nI w).toInt ≤ 139 := by rw [ti_n (by omega)]; omega
  unfold jL_law_859
  refine zc_word0 hS (fun z => absurd hok z) (fun _ e4 => ?_) (fun _ m hm e1 σ1 hS1 => ?_)
  · refine ⟨k14 (i := 8) (by decide), ?_⟩
    rw [l9, e4, if_pos (by decide)]
    unfold jL_law_888
    rw [if_pos rfl]
    unfold jL_law_896
    refine ⟨k14 (i := 8) (by decide), ?_⟩
    rw [if_pos (by decide)]
    refine ⟨k14 (i := 8) (by decide), fun t279 e279 => ?_⟩
    rw [Int32.add_zero, u2_same] at e279
    rw [e279]
    exact l1477 hI.up K hX hY
  · refine ⟨k14 (i := 8) (by decide), ?_⟩
    rw [l9, e1, nI_1, ti_n (by omega), if_neg (by omega)]
    refine ⟨k14 (i := 8) (by decide), ?_⟩
    unfold jL_law_888
    rw [if_pos rfl]
    unfold jL_law_896
    refine ⟨k14 (i := 8) (by decide), ?_⟩
    rw [ti_n (by omega), if_neg (by omega)]
    refine ⟨k14 (i := 8) (by decide), fun t276 e276 => ?_⟩
    rw [l9, e1, show nI m + (1 : Int32) = nI (m + 1) from nI_1 m] at e276
    have e276 : t276 = u2 ρ 0 8 (nI (m + 1)) := e276
    have rr : ∀ j, j ≠ 8 → t276 0 j = ρ 0 j := fun j h1 => by rw [e276, u2_cell (fun z => h1 z.2)]
    have ro : ∀ j, j ≠ 0 → t276 j = ρ j := fun j h1 => by rw [e276, u2_oth h1]
    obtain ⟨γ1, eγ⟩ : ∃ γ1, γ1 = u2 (u2 γ 8 m (nI w)) 7 0 (nI (m + 1)) := ⟨_, rfl⟩
    rw [← eγ] at hS1
    have gr : ∀ j, j ≠ 8 → j ≠ 7 → γ1 j = γ j := fun j h1 h2 => by rw [eγ, u2_oth h2, u2_oth h1]
    have hln : lgn n γ γ1 := ⟨fun j h1 h2 => gr j (by omega) (by omega), fun k hk => by rw [gr 2 (by decide) (by decide)]⟩
    have hLW : LKW γ1 t276 n np := by
      refine ⟨⟨T', hT', by rw [gr 0 (by decide) (by decide)]; exact t1, by rw [rr 0 (by decide)]; exact t2⟩, by rw [rr 2 (by decide)]; exact e2, by rw [rr 3 (by decide)]; exact e3, ?_, ?_, ?_, ?_⟩
      · exact hA.of (gr 1 (by decide) (by decide)) (gr 2 (by decide) (by decide)) (rr 1 (by decide)) (rr 4 (by decide))
      · exact hV.of (fun j h1 h2 => by rw [gr j (by omega) (by omega)]) (fun j h1 h2 => rr j (by omega))
      · refine hN.of2 (fun j h1 h2 => by rw [gr j (by omega) (by omega)]) (fun j h1 h2 => rr j (by omega)) ?_ ?_
        · rw [e276, eγ, u2_hit, u2_hit]
        · rw [rr 9 (by decide), gr 9 (by decide) (by decide)]; exact hN.2.1
      · exact hLI.of (fun k hk => by rw [gr 2 (by decide) (by decide)]) (fun j hj => gr j (by omega) (by omega)) (fun j h1 h2 => ro j (by omega))
    exact l1477 ⟨hS1, hLW, hpn, T, by omega, by rw [gr 0 (by decide) (by decide)]; exact eT, hF.re hS.h8 (fun _ _ => RE_ln hln) (Or.inl rfl) (Nat.le_refl _) h20 (Nat.le_refl _)⟩ K hX hY
theorem l805 {b : Int32} (hb : b = 0 ∨ b = 1) (hI : IV i σ ν γ ρ n np x6 x8 x9) (K : KK i κ) (hX : X < 2147483648) (hY : Y < 2147483648) : jL_law_805 L xs κ post σ ν ρ x6 x8 x9 (nI i) (nI X) (nI Y) b := by
  have m0 : nI Y / (5 : Int32) = nI (Y / 5) := pk_div (by omega) (by decide) (by decide)
  have m1 : ((100 : Int32)) + ((nI Y / ((5 : Int32))) - (nI Y / ((5 : Int32))) / ((40 : Int32)) * ((40 : Int32))) = nI (100 + Y / 5 % 40) := by
    rw [m0, show nI (Y / 5) - nI (Y / 5) / (40 : Int32) * (40 : Int32) = nI (Y / 5 % 40) from md9 (by omega) (by decide) (by decide), show (100 : Int32) = nI 100 from rfl, nI_add]
  have m2 : (nI Y / ((5 : Int32))) - (nI Y / ((5 : Int32))) / ((4 : Int32)) * ((4 : Int32)) = nI (Y / 5 % 4) := by
    rw [m0]
    exact md9 (by omega) (by decide) (by decide)
  unfold jL_law_805
  rcases hb with rfl | rfl
  · rw [if_pos z0I]
    unfold jL_law_819
    rw [m1, m2]
    refine i_both ?_ ?_
    · unfold jL_law_849
      rw [if_pos z0I]
      exact l859_0 hI K hX hY (by omega)
    · unfold jL_law_849
      rw [if_pos z0I]
      exact l859_0 hI K hX hY (by omega)
  · rw [if_neg z1I]
    unfold jL_law_819
    rw [m1, m2]
    refine i_both ?_ ?_
    · unfold jL_law_849
      rw [if_neg z1I]
      exact l859_1 hI K hX hY (by omega)
    · unfold jL_law_849
      rw [if_neg z1I]
      exact l859_1 hI K hX hY (by omega)
/-- terms -/
theorem l1029 {w wh te : Nat} {v : Int32} {ρ1 : RH} (hI : IV i σ ν γ ρ n np x6 x8 x9) (K : KK i κ) (hX : X < 2147483648) (hY : Y < 2147483648) (hw : w ≤ 2) (hh : wh < 80) (h2 : w = 2 → wh < n) (ht : 1 ≤ te ∧ te ≤ 7) (hv : v = -1 ∨ ∃ s : Nat, s < 90 ∧ v = nI s) (e1 : ρ1 = u2 (u2 (u2 ρ 0 10 (nI w)) 0 11 (nI wh)) 0 12 (nI te)) : jL_law_1029 L xs κ post σ ν ρ1 x6 x8 x9 (nI i) (nI X) (nI Y) (nI w) 0 v := by
  obtain ⟨hS, hL, hpn, T, hT, eT, hF⟩ := id hI
  obtain ⟨⟨T', hT', t1, t2⟩, e2, e3, hA, hV, hN, hLI⟩ := id hL
  have h20 := hS.h8.2.1
  have h40 := hS.h8.1
  unfold jL_law_1029
  refine ⟨k14 (i := 13) (by decide), fun t245 e245 => ⟨k14 (i := 11) (by decide), k14 (i := 12) (by decide), k14 (i := 13) (by decide), ?_⟩⟩
  rw [e1] at e245
  have e245 : t245 = u2 (u2 (u2 (u2 ρ 0 10 (nI w)) 0 11 (nI wh)) 0 12 (nI te)) 0 13 v := e245
  have l10 : t245 0 10 = nI w := by rw [e245]; rfl
  have l11 : t245 0 11 = nI wh := by rw [e245]; rfl
  have l12 : t245 0 12 = nI te := by rw [e245]; rfl
  have l13 : t245 0 13 = v := by rw [e245]; rfl
  have rr : ∀ j, j < 10 → t245 0 j = ρ 0 j := fun j h1 => by rw [e245, u2_cell (fun z => absurd z.2 (by omega)), u2_cell (fun z => absurd z.2 (by omega)), u2_cell (fun z => absurd z.2 (by omega)), u2_cell (fun z => absurd z.2 (by omega))]
  have ro : ∀ j, j ≠ 0 → t245 j = ρ j := fun j h1 => by rw [e245, u2_oth h1, u2_oth h1, u2_oth h1, u2_oth h1]
  rw [show t245 0 ((11 : Int32)).toNatClampNeg = nI wh from l11, show t245 0 ((12 : Int32)).toNatClampNeg = nI te from l12, show t245 0 ((13 : Int32)).toNatClampNeg = v from l13]
  have h2' : nI w = 2 → 0 ≤ (nI wh).toInt ∧ (nI wh).toInt < n := fun z => by
    have : w = 2 := nI_inj (by omega) (by decide) (z.trans (show (2 : Int32) = nI 2 from rfl))
    have := h2 this
    rw [ti_n (by omega)]
    omega
  have hok : okT n (nI w) (nI wh) (nI te) v := by
    refine ⟨by rw [ti_n (by omega)]; omega, fun _ => ⟨by rw [ti_n (by omega)]; omega, by rw [ti_n (by omega)]; omega⟩, by rw [ti_n (by omega)]; omega, ?_⟩
    rcases hv with e | ⟨s, hs, e⟩
    · exact Or.inl e
    · refine Or.inr ⟨?_, ?_⟩
      · rw [e, ti_n (by omega)]; omega
      · rw [e, ti_n (by omega)]; omega
  refine zc_terms hS (fun z z' => absurd (h2' z) z') (fun _ z => absurd hok z) (fun _ _ σ1 ν1 hS1 => ?_)
  rw [if_pos z0I]
  obtain ⟨γ1, eγ⟩ : ∃ γ1, γ1 = u2 (u2 (u2 (u2 γ 3 0 (nI w)) 4 0 (nI wh)) 5 0 (nI te)) 6 0 v := ⟨_, rfl⟩
  rw [← eγ] at hS1
  have gr : ∀ j, j < 3 ∨ 6 < j → γ1 j = γ j := fun j h1 => by rw [eγ, u2_oth (by omega), u2_oth (by omega), u2_oth (by omega), u2_oth (by omega)]
  have hln : lgn n γ γ1 := ⟨fun j h1 h2 => gr j (by omega), fun k hk => by rw [gr 2 (by omega)]⟩
  have g3 : γ1 3 0 = nI w := by rw [eγ]; rfl
  have g4 : γ1 4 0 = nI wh := by rw [eγ]; rfl
  have g5 : γ1 5 0 = nI te := by rw [eγ]; rfl
  have g6 : γ1 6 0 = v := by rw [eγ]; rfl
  have hLW : LKW γ1 t245 n np := by
    refine ⟨⟨T', hT', by rw [gr 0 (by omega)]; exact t1, by rw [rr 0 (by omega)]; exact t2⟩, by rw [rr 2 (by omega)]; exact e2, by rw [rr 3 (by omega)]; exact e3, ?_, ?_, ?_, ?_⟩
    · exact hA.of (gr 1 (by omega)) (gr 2 (by omega)) (rr 1 (by omega)) (rr 4 (by omega))
    · exact hV.of (fun j h1 h2 => by rw [gr j (by omega)]) (fun j h1 h2 => rr j (by omega))
    · refine ⟨by rw [rr 8 (by omega), gr 7 (by omega)]; exact hN.1, by rw [rr 9 (by omega), gr 9 (by omega)]; exact hN.2.1, l10.trans g3.symm, l11.trans g4.symm, l12.trans g5.symm, l13.trans g6.symm, ⟨w, wh, hw, hh, g3, g4⟩, ⟨te, by omega, g5⟩, ?_⟩
      rw [g6]
      exact hv
    · exact hLI.of (fun k hk => by rw [gr 2 (by omega)]) (fun j hj => gr j (by omega)) (fun j h1 h2 => ro j (by omega))
  exact l1477 ⟨hS1, hLW, hpn, T, by omega, by rw [gr 0 (by omega)]; exact eT, hF.re hS.h8 (fun _ _ => RE_ln hln) (Or.inl rfl) (Nat.le_refl _) h20 (Nat.le_refl _)⟩ K hX hY
theorem l986 {w wh : Nat} {ρ1 : RH} (hI : IV i σ ν γ ρ n np x6 x8 x9) (K : KK i κ) (hX : X < 2147483648) (hY : Y < 2147483648) (hw : w ≤ 2) (hh : wh < 80) (h2 : w = 2 → wh < n) (e1 : ρ1 = u2 ρ 0 10 (nI w)) : jL_law_986 L xs κ post σ ν ρ1 x6 x8 x9 (nI i) (nI X) (nI Y) (nI w) 0 (nI wh) := by
  have m1 : ((1 : Int32)) + ((nI Y / ((480 : Int32))) - (nI Y / ((480 : Int32))) / ((7 : Int32)) * ((7 : Int32))) = nI (1 + Y / 480 % 7) := by
    rw [show nI Y / (480 : Int32) = nI (Y / 480) from pk_div (by omega) (by decide) (by decide), show nI (Y / 480) - nI (Y / 480) / (7 : Int32) * (7 : Int32) = nI (Y / 480 % 7) from md9 (by omega) (by decide) (by decide), li1, nI_add]
  have m2 : (nI Y / ((13440 : Int32))) - (nI Y / ((13440 : Int32))) / ((90 : Int32)) * ((90 : Int32)) = nI (Y / 13440 % 90) := by
    rw [show nI Y / (13440 : Int32) = nI (Y / 13440) from pk_div (by omega) (by decide) (by decide)]
    exact md9 (by omega) (by decide) (by decide)
  unfold jL_law_986
  refine ⟨k14 (i := 11) (by decide), fun t238 e238 => ⟨k14 (i := 12) (by decide), fun t241 e241 => ?_⟩⟩
  rw [m1, e238, e1] at e241
  have e241 : t241 = u2 (u2 (u2 ρ 0 10 (nI w)) 0 11 (nI wh)) 0 12 (nI (1 + Y / 480 % 7)) := e241
  rw [m2]
  refine i_both ?_ ?_
  · exact l1029 hI K hX hY hw hh h2 (by omega) (Or.inr ⟨_, by omega, rfl⟩) e241
  · exact l1029 hI K hX hY hw hh h2 (by omega) (Or.inl rfl) e241
theorem l947 {w a : Nat} (hI : IV i σ ν γ ρ n np x6 x8 x9) (K : KK i κ) (hX : X < 2147483648) (hY : Y < 2147483648) (hw : w ≤ 2) (h2 : w = 2 → a < n) : jL_law_947 L xs κ post σ ν ρ x6 x8 x9 (nI i) (nI X) (nI Y) (nI a) (nI w) := by
  have h40 := hI.1.h8.1
  have m1 : (nI Y / ((6 : Int32))) - (nI Y / ((6 : Int32))) / ((80 : Int32)) * ((80 : Int32)) = nI (Y / 6 % 80) := by
    rw [show nI Y / (6 : Int32) = nI (Y / 6) from pk_div (by omega) (by decide) (by decide)]
    exact md9 (by omega) (by decide) (by decide)
  unfold jL_law_947
  refine ⟨k14 (i := 10) (by decide), fun t233 e233 => ?_⟩
  have e233 : t233 = u2 ρ 0 10 (nI w) := e233
  rw [m1, ti_n (by omega)]
  by_cases c : w = 2
  · have := h2 c
    rw [if_pos (by omega)]
    exact l986 hI K hX hY hw (by omega) (fun _ => this) e233
  · rw [if_neg (by omega)]
    refine i_both ?_ ?_
    · exact l986 hI K hX hY hw (by omega) (fun z => absurd z c) e233
    · exact l986 (wh := 0) hI K hX hY hw (by omega) (fun z => absurd z c) e233
/-- an order -/
theorem l1098 {k : Nat} {y : Int32} (hI : IV i σ ν γ ρ n np x6 x8 x9) (K : KK i κ) (hX : X < 2147483648) (hY : Y < 2147483648) (hi : i < 130) (hk : k < n) (hy : (y = 1 ∧ γ 22 k = 1 ∧ γ 26 k = -1) ∨ (y = 0 ∧ ¬ (γ 22 k = 1 ∧ γ 26 k = -1))) : jL_law_1098 L xs κ post σ ν ρ x6 x8 x9 (nI i) (nI X) (nI Y) (nI k) y := by
  obtain ⟨hS, hL, hpn, T, hT, eT, hF⟩ := id hI
  obtain ⟨⟨T', hT', t1, t2⟩, e2, e3, hA, hV, hN, hLI⟩ := id hL
  have h20 := hS.h8.2.1
  have h40 := hS.h8.1
  have eTT : T = T' := nI_inj (by omega) (by omega) (eT.symm.trans t1)
  subst eTT
  have m1 : (nI Y / ((64 : Int32))) - (nI Y / ((64 : Int32))) / ((90 : Int32)) * ((90 : Int32)) = nI (Y / 64 % 90) := by
    rw [show nI Y / (64 : Int32) = nI (Y / 64) from pk_div (by omega) (by decide) (by decide)]
    exact md9 (by omega) (by decide) (by decide)
  have hvk : vp_in (nI k) 40 := vi_n (by omega) (by decide)
  unfold jL_law_1098
  rw [m1]
  have hd : Y / 64 % 90 < 90 := Nat.mod_lt _ (by decide)
  generalize Y / 64 % 90 = d at hd ⊢
  have hok : okd (nI d) := ⟨by rw [ti_n (by omega)]; omega, by rw [ti_n (by omega)]; omega⟩
  have hin : 0 ≤ (nI k).toInt ∧ (nI k).toInt < n := by rw [ti_n (by omega)]; omega
  refine zc_order hS (fun z => absurd hin z) (fun z _ => absurd hok z) (fun k1 hk1 q1 _ hno => ?_) (fun k1 hk1 q1 _ hyes σ1 ν1 hS1 => ?_)
  · have q1 : k = k1 := nI_inj (by omega) (by omega) q1
    subst q1
    rcases hy with ⟨-, h⟩ | ⟨h, -⟩
    · exact absurd h hno
    subst h
    rw [if_pos z0I]
    unfold jL_law_1133
    rw [if_pos rfl]
    unfold jL_law_1141
    rw [if_pos z0I]
    refine ⟨hvk, hvk, fun t e => ?_⟩
    rw [u2_same] at e
    rw [e]
    exact l1477 hI.up K hX hY
  · have q1 : k = k1 := nI_inj (by omega) (by omega) q1
    subst q1
    rcases hy with ⟨h, -⟩ | ⟨-, h⟩
    rotate_left
    · exact absurd hyes h
    subst h
    rw [if_neg z1I]
    unfold jL_law_1133
    rw [if_pos rfl]
    unfold jL_law_1141
    rw [if_neg z1I]
    refine ⟨k14 (i := 0) (by decide), hvk, fun t227 e227 => ?_⟩
    rw [show ρ 0 ((0 : Int32)).toNatClampNeg = nI T from t2, nI_1, sh_l13 (by omega), bo_sum (k := 13) T (by omega), cl_n (by omega)] at e227
    have ro : ∀ j, j ≠ 3 → t227 j = ρ j := fun j h1 => by rw [e227, u2_oth h1]
    rw [t1] at hS1
    obtain ⟨γ1, eγ⟩ : ∃ γ1, γ1 = u2 (u2 γ 26 k (nI T)) 27 k (nI d) := ⟨_, rfl⟩
    rw [← eγ] at hS1
    have gr : ∀ j, j ≠ 26 → j ≠ 27 → γ1 j = γ j := fun j h1 h2 => by rw [eγ, u2_oth h2, u2_oth h1]
    have hLW : LKW γ1 t227 n np := by
      refine ⟨⟨T, hT', by rw [gr 0 (by decide) (by decide)]; exact t1, by rw [ro 0 (by decide)]; exact t2⟩, by rw [ro 0 (by decide)]; exact e2, by rw [ro 0 (by decide)]; exact e3, ?_, ?_, ?_, ?_, ?_⟩
      · exact hA.of (gr 1 (by decide) (by decide)) (gr 2 (by decide) (by decide)) (by rw [ro 0 (by decide)]) (by rw [ro 0 (by decide)])
      · exact hV.of (fun j h1 h2 => by rw [gr j (by omega) (by omega)]) (fun j h1 h2 => by rw [ro 0 (by decide)])
      · exact hN.of (fun j h1 h2 => by rw [gr j (by omega) (by omega)]) (fun j h1 h2 => by rw [ro 0 (by decide)])
      · intro j hj
        obtain ⟨a1, a2, a3⟩ := hLI.1 j hj
        refine ⟨?_, ?_, ?_⟩
        · unfold HN at *
          rw [ro 1 (by decide), gr 22 (by decide) (by decide), gr 23 (by decide) (by decide)]
          exact a1
        · unfold TN at *
          rw [ro 2 (by decide), gr 24 (by decide) (by decide), gr 2 (by decide) (by decide), gr 14 (by decide) (by decide), gr 25 (by decide) (by decide)]
          exact a2
        · by_cases c : j = k
          · subst c
            refine Or.inr ⟨T, d, hT', hd, ?_, ?_, ?_⟩
            · rw [eγ, u2_cell (fun z => absurd z.1 (by decide)), u2_hit]
            · rw [eγ, u2_hit]
            · rw [e227, u2_hit]
              congr 1
              omega
          · unfold ON at *
            rw [e227, u2_cell (fun z => c z.2), eγ, u2_cell (fun z => absurd z.1 (by decide)), u2_cell (fun z => c z.2), u2_cell (fun z => c z.2), u2_cell (fun z => c z.2)]
            exact a3
      · intro j h1 h2
        rw [e227, u2_cell (fun z => absurd z.2 (by omega))]
        exact hLI.2 j h1 h2
    refine l1477 ⟨hS1, hLW, hpn, T, by omega, by rw [gr 0 (by decide) (by decide)]; exact eT, hF.re hS.h8 (fun K0 hK0 => ?_) (Or.inl rfl) (Nat.le_refl _) h20 (Nat.le_refl _)⟩ K hX hY
    rw [eγ]
    exact RE_26 hyes.2 (by omega) hK0
/-- what is struck or suspended once, is not again -/
theorem l1264 {Z k : Nat} (hI : IV (i + 1) σ ν γ ρ n np x6 x8 x9) (K : KK i κ) (hX : X < 2147483648) (hY : Y < 2147483648) (hZ : Z < 32) (hk : k < n) (h : (Z = 26 ∧ γ 28 k ≠ -1) ∨ (Z ≠ 26 ∧ γ 30 k ≠ -1)) : jL_law_1264 L xs κ post σ ν ρ x6 x8 x9 (nI i) (nI X) (nI Z) (nI Y) (nI k) := by
  have hS := hI.1
  have h40 := hS.h8.1
  have hin : 0 ≤ (nI k).toInt ∧ (nI k).toInt < n := by rw [ti_n (by omega)]; omega
  unfold jL_law_1264
  rw [ti_n (by omega)]
  rcases h with ⟨c, h⟩ | ⟨c, h⟩
  · rw [if_pos (by omega)]
    refine zc_strike hS (fun z => absurd hin z) (fun z _ => absurd (show okd 1 from ⟨by decide, by decide⟩) z) (fun k1 hk1 q1 _ hno => ?_) (fun k1 hk1 q1 _ hyes σ1 ν1 hS1 => ?_)
    · unfold jL_law_1294
      rw [if_pos (by decide)]
      exact l1477 hI K hX hY
    · have q1 : k = k1 := nI_inj (by omega) (by omega) q1
      subst q1
      exact absurd hyes h
  · rw [if_neg (by omega)]
    refine zc_suspend hS (fun z => absurd hin z) (fun z _ => absurd (show okd 1 ∧ (1 : Int32).toInt ≤ (2 : Int32).toInt ∧ (2 : Int32).toInt ≤ 5000 from ⟨⟨by decide, by decide⟩, by decide, by decide⟩) z) (fun k1 hk1 q1 _ hno => ?_) (fun k1 hk1 q1 _ hyes σ1 ν1 hS1 => ?_)
    · unfold jL_law_1294
      rw [if_pos (by decide)]
      exact l1477 hI K hX hY
    · have q1 : k = k1 := nI_inj (by omega) (by omega) q1
      subst q1
      exact absurd hyes h
theorem l1249 {Z k : Nat} {y : Int32} (hI : IV (i + 1) σ ν γ ρ n np x6 x8 x9) (K : KK i κ) (hX : X < 2147483648) (hY : Y < 2147483648) (hZ : Z < 32) (hk : k < n) (h : (Z = 26 ∧ γ 28 k ≠ -1) ∨ (Z ≠ 26 ∧ γ 30 k ≠ -1)) (hy : y = 0 ∨ y = -1383) : jL_law_1249 L xs κ post σ ν ρ x6 x8 x9 (nI i) (nI X) (nI Z) (nI Y) (nI k) y := by
  have fin := l1264 (L := L) (xs := xs) (post := post) hI K hX hY hZ hk h
  unfold jL_law_1249
  rcases hy with rfl | rfl
  · rw [if_pos z0I]
    exact fin
  · rw [if_neg (by decide), if_pos (by decide)]
    exact fin
theorem l1175 {Z k : Nat} (hI : IV i σ ν γ ρ n np x6 x8 x9) (K : KK i κ) (hX : X < 2147483648) (hY : Y < 2147483648) (hi : i < 130) (hZ : Z < 32) (hk : 0 < n → k < n) : jL_law_1175 L xs κ post σ ν ρ x6 x8 x9 (nI i) (nI X) (nI Z) (nI Y) (nI k) := by
  obtain ⟨hS, hL, hpn, T, hT, eT, hF⟩ := id hI
  obtain ⟨⟨T', hT', t1, t2⟩, e2, e3, hA, hV, hN, hLI⟩ := id hL
  have h20 := hS.h8.2.1
  have h40 := hS.h8.1
  have eTT : T = T' := nI_inj (by omega) (by omega) (eT.symm.trans t1)
  subst eTT
  have other := l1310 (L := L) (xs := xs) (post := post) (Z := Z) hI K hX hY hi
  have m1 : (nI Y / ((64 : Int32))) - (nI Y / ((64 : Int32))) / ((90 : Int32)) * ((90 : Int32)) = nI (Y / 64 % 90) := by
    rw [show nI Y / (64 : Int32) = nI (Y / 64) from pk_div (by omega) (by decide) (by decide)]
    exact md9 (by omega) (by decide) (by decide)
  have m2 : (nI Y / ((5760 : Int32))) - (nI Y / ((5760 : Int32))) / ((20 : Int32)) * ((20 : Int32)) = nI (Y / 5760 % 20) := by
    rw [show nI Y / (5760 : Int32) = nI (Y / 5760) from pk_div (by omega) (by decide) (by decide)]
    exact md9 (by omega) (by decide) (by decide)
  unfold jL_law_1175
  refine i_both ⟨k14 (i := 2) (by decide), ?_⟩ other
  rw [show ρ 0 ((2 : Int32)).toNatClampNeg = nI n from e2, ti_n (show n < 2147483648 by omega)]
  by_cases c : n = 0
  · rw [if_pos (by omega)]
    exact other
  have hk := hk (by omega)
  have hin : 0 ≤ (nI k).toInt ∧ (nI k).toInt < n := by rw [ti_n (by omega)]; omega
  rw [if_neg (by omega), m1, m2, nI_add, ti_n (show Z < 2147483648 by omega)]
  have hd : Y / 64 % 90 < 90 := Nat.mod_lt _ (by decide)
  have hf : Y / 5760 % 20 < 20 := Nat.mod_lt _ (by decide)
  generalize Y / 64 % 90 = d at hd ⊢
  generalize Y / 5760 % 20 = f at hf ⊢
  have hok : okd (nI d) := ⟨by rw [ti_n (by omega)]; omega, by rw [ti_n (by omega)]; omega⟩
  by_cases c2 : Z = 26
  · rw [if_pos (by omega)]
    refine zc_strike hS (fun z => absurd hin z) (fun z _ => absurd hok z) (fun k1 hk1 q1 _ hno => ?_) (fun k1 hk1 q1 _ hyes σ1 ν1 hS1 => ?_)
    · have q1 : k = k1 := nI_inj (by omega) (by omega) q1
      subst q1
      exact l1249 hI.up K hX hY hZ hk (Or.inl ⟨c2, hno⟩) (Or.inr rfl)
    · have q1 : k = k1 := nI_inj (by omega) (by omega) q1
      subst q1
      rw [t1] at hS1
      obtain ⟨γ1, eγ⟩ : ∃ γ1, γ1 = u2 (u2 γ 28 k (nI T)) 29 k (nI d) := ⟨_, rfl⟩
      rw [← eγ] at hS1
      have gr : ∀ j, j ≠ 28 → j ≠ 29 → γ1 j = γ j := fun j h1 h2 => by rw [eγ, u2_oth h2, u2_oth h1]
      have e28 : γ1 28 k ≠ -1 := by
        rw [eγ, u2_cell (fun z => absurd z.1 (by decide)), u2_hit]
        exact nI_m1 (by omega)
      refine l1249 (γ := γ1) ⟨hS1, hL.gam (fun j hj => gr j (by omega) (by omega)), hpn, T, by omega, by rw [gr 0 (by decide) (by decide)]; exact eT, hF.re hS.h8 (fun K0 hK0 => ?_) (Or.inl rfl) (Nat.le_refl _) h20 (Nat.le_refl _)⟩ K hX hY hZ hk (Or.inl ⟨c2, e28⟩) (Or.inl rfl)
      rw [eγ]
      exact RE_28 hyes (by omega) hK0
  · rw [if_neg (by omega)]
    have hok3 : okd (nI d) ∧ (nI d).toInt ≤ (nI (d + f)).toInt ∧ (nI (d + f)).toInt ≤ 5000 := ⟨hok, by rw [ti_n (by omega), ti_n (by omega)]; omega, by rw [ti_n (by omega)]; omega⟩
    refine zc_suspend hS (fun z => absurd hin z) (fun z _ => absurd hok3 z) (fun k1 hk1 q1 _ hno => ?_) (fun k1 hk1 q1 _ hyes σ1 ν1 hS1 => ?_)
    · have q1 : k = k1 := nI_inj (by omega) (by omega) q1
      subst q1
      exact l1249 hI.up K hX hY hZ hk (Or.inr ⟨c2, hno⟩) (Or.inr rfl)
    · have q1 : k = k1 := nI_inj (by omega) (by omega) q1
      subst q1
      rw [t1] at hS1
      obtain ⟨γ1, eγ⟩ : ∃ γ1, γ1 = u2 (u2 (u2 γ 30 k (nI T)) 31 k (nI d)) 32 k (nI (d + f)) := ⟨_, rfl⟩
      rw [← eγ] at hS1
      have gr : ∀ j, j ≠ 30 → j ≠ 31 → j ≠ 32 → γ1 j = γ j := fun j h1 h2 h3 => by rw [eγ, u2_oth h3, u2_oth h2, u2_oth h1]
      have e30 : γ1 30 k ≠ -1 := by
        rw [eγ, u2_cell (fun z => absurd z.1 (by decide)), u2_cell (fun z => absurd z.1 (by decide)), u2_hit]
        exact nI_m1 (by omega)
      refine l1249 (γ := γ1) ⟨hS1, hL.gam (fun j hj => gr j (by omega) (by omega) (by omega)), hpn, T, by omega, by rw [gr 0 (by decide) (by decide) (by decide)]; exact eT, hF.re hS.h8 (fun K0 hK0 => ?_) (Or.inl rfl) (Nat.le_refl _) h20 (Nat.le_refl _)⟩ K hX hY hZ hk (Or.inr ⟨c2, e30⟩) (Or.inl rfl)
      rw [eγ]
      exact RE_30 hyes (by omega) hK0
end LAWB
