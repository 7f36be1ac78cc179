/-! The law's steps: each keeps what the law holds. -/
def FST (γ : RH) (n np T : Nat) (x6 : Int64) (x8 x9 : Int32) : Prop := x9 = -1 ∨ ∃ n0 np0 d0 kn0 te0 : Nat, n0 ≤ n ∧ np0 ≤ np ∧ d0 < 100 ∧ kn0 < T ∧ te0 < 3 ∧ x8 = nI (10000 * n0 + 100 * np0) ∧ x9 = nI (kn0 + 10000 * d0 + 1000000 * te0) ∧ x6 = AV n np γ (nI d0) (nI kn0) (nI te0) n0 np0
def IV (i : Nat) (σ : SG) (ν : NU) (γ ρ : RH) (n np : Nat) (x6 : Int64) (x8 x9 : Int32) : Prop := SIM σ ν γ n np ∧ LKW γ ρ n np ∧ np ≤ n ∧ ∃ T : Nat, T ≤ 5 * i ∧ γ 0 0 = nI T ∧ FST γ n np T x6 x8 x9
def KK (i : Nat) (κ : SG → NU → RH → Int64 → Int32 → Int32 → Int32 → Int32 → Prop) : Prop := ∀ σ ν γ ρ n np x6 x8 x9, IV (i + 1) σ ν γ ρ n np x6 x8 x9 → κ σ ν ρ x6 x8 x9 1 (nI (i + 1))
theorem IV.up {i : Nat} {σ : SG} {ν : NU} {γ ρ : RH} {n np : Nat} {x6 : Int64} {x8 x9 : Int32} (h : IV i σ ν γ ρ n np x6 x8 x9) : IV (i + 1) σ ν γ ρ n np x6 x8 x9 := by
  obtain ⟨h1, h2, h3, T, h4, h5⟩ := h
  exact ⟨h1, h2, h3, T, by omega, h5⟩
theorem FST.re {γ γ' : RH} {n np n' np' T T' : Nat} {x6 : Int64} {x8 x9 : Int32} (h : FST γ n np T x6 x8 x9) (hD : DAT n np γ) (hR : ∀ K : Nat, K < T → RE n (nI K) γ γ') (hn : n' = n ∨ (n' = n + 1 ∧ ∀ (d : Int32) (K : Nat) (te : Int32), K < T → ef9 γ' d (nI K) te n = false)) (hp : np ≤ np') (h20 : np' ≤ 20) (hT : T ≤ T') : FST γ' n' np' T' x6 x8 x9 := by
  rcases h with h | ⟨n0, np0, d0, kn0, te0, h1, h2, h3, h4, h5, h6, h7, h8⟩
  · exact Or.inl h
  · have hn1 : n ≤ n' := by
      rcases hn with e | ⟨e, -⟩ <;> omega
    refine Or.inr ⟨n0, np0, d0, kn0, te0, by omega, by omega, h3, by omega, h5, h6, h7, ?_⟩
    rw [h8]
    exact (AV_re hD (hR kn0 h4) (hn.elim Or.inl (fun z => Or.inr ⟨z.1, z.2 _ kn0 _ h4⟩)) hp h20 h1).symm
section LAW
variable {L : Nat} {xs : Nat → Int32} {κ : SG → NU → RH → Int64 → Int32 → Int32 → Int32 → Int32 → Prop} {post : Int32 → Prop} {σ : SG} {ν : NU} {γ ρ : RH} {n np i X Y : Nat} {x6 : Int64} {x8 x9 : Int32}
theorem l1504 (hI : IV (i + 1) σ ν γ ρ n np x6 x8 x9) (K : KK i κ) (hX : X < 2147483648) : jL_law_1504 L xs κ post σ ν ρ x6 x8 x9 (nI i) (nI X) := by
  obtain ⟨hS, hL, -⟩ := id hI
  have fin := K _ _ _ _ _ _ _ _ _ hI
  have e3 : nI X / (3 : Int32) = nI (X / 3) := pk_div (by omega) (by decide) (by decide)
  unfold jL_law_1504
  rw [nI_1, e3]
  refine i_both ?_ fin
  refine q_refused hS hL.1 hL.2.1 hL.2.2.1 (by omega) ?_
  rw [if_neg z1I]
  exact fin
theorem l1477 (hI : IV (i + 1) σ ν γ ρ n np x6 x8 x9) (K : KK i κ) (hX : X < 2147483648) (hY : Y < 2147483648) : jL_law_1477 L xs κ post σ ν ρ x6 x8 x9 1 (nI i) (nI X) (nI Y) := by
  obtain ⟨hS, hL, hT⟩ := id hI
  unfold jL_law_1477
  rw [if_neg z1I]
  refine i_both (q_sound hS hL hY (fun σ' ν' hS' => ?_)) (l1504 hI K hX)
  rw [if_neg z1I]
  exact l1504 ⟨hS', hL, hT⟩ K hX
/-- an act -/
theorem l180 (hI : IV i σ ν γ ρ n np x6 x8 x9) (K : KK i κ) (hX : X < 2147483648) (hY : Y < 2147483648) (hi : i < 130) : jL_law_180 L xs κ post σ ν ρ x6 x8 x9 (nI i) (nI X) (nI Y) := by
  obtain ⟨hS, hL, hpn, T, hT, eT, hF⟩ := id hI
  obtain ⟨⟨T', hT', t1, t2⟩, e2, e3, hA, hV, hN, hLI⟩ := id hL
  obtain ⟨a, ha, ea, ra, r4, hmd⟩ := id hA
  have h20 := hS.h8.2.1
  have l1 : ρ 0 ((1 : Int32)).toNatClampNeg = nI a := ra
  unfold jL_law_180
  refine zc_act hS (fun e10 => ?_) (fun a' ha' e1 σ1 hS1 => ?_)
  · have ea10 : a = 10 := nI_inj (by omega) (by decide) (ea.symm.trans e10)
    refine ⟨k14 (i := 1) (by decide), ?_⟩
    rw [l1, ea10, if_pos (by decide)]
    unfold jL_law_210
    rw [if_pos rfl]
    unfold jL_law_218
    rw [if_pos (by decide)]
    refine ⟨k14 (i := 4) (by decide), ?_⟩
    unfold jL_law_236
    refine ⟨k14 (i := 4) (by decide), fun t80 e80 => ⟨k14 (i := 1) (by decide), ?_⟩⟩
    rw [if_pos (by decide)]
    refine ⟨k14 (i := 1) (by decide), fun t113 e113 => ?_⟩
    rw [u2_same] at e80
    rw [Int32.add_zero, u2_same, e80] at e113
    rw [e113]
    exact l1477 hI.up K hX hY
  · have eaa : a' = a := nI_inj (by omega) (by omega) (e1.symm.trans ea)
    subst eaa
    refine ⟨k14 (i := 1) (by decide), ?_⟩
    rw [l1, ti_n (by omega), if_neg (by omega)]
    refine ⟨k14 (i := 1) (by decide), ?_⟩
    unfold jL_law_210
    rw [if_pos rfl]
    unfold jL_law_218
    rw [ti_n (by omega), if_neg (by omega)]
    refine ⟨k14 (i := 0) (by decide), ?_⟩
    unfold jL_law_236
    refine ⟨k14 (i := 4) (by decide), fun t80 e80 => ⟨k14 (i := 1) (by decide), ?_⟩⟩
    rw [ti_n (by omega), if_neg (by omega)]
    refine ⟨k14 (i := 1) (by decide), fun t85 e85 => ?_⟩
    have c1 : t80 0 ((1 : Int32)).toNatClampNeg = nI a' := by rw [e80]; exact l1
    rw [c1, show nI a' + (1 : Int32) = nI (a' + 1) from nI_1 a', e80] at e85
    have e85 : t85 = u2 (u2 ρ 0 4 (ρ 0 0)) 0 1 (nI (a' + 1)) := e85
    have rr : ∀ j, j ≠ 4 → j ≠ 1 → t85 0 j = ρ 0 j := fun j h1 h2 => by rw [e85, u2_cell (fun z => h2 z.2), u2_cell (fun z => h1 z.2)]
    have ro : ∀ j, j ≠ 0 → t85 j = ρ j := fun j h1 => by rw [e85, u2_oth h1, u2_oth h1]
    obtain ⟨γ1, eγ⟩ : ∃ γ1, γ1 = u2 (u2 γ 2 a' (γ 0 0)) 1 0 (nI (a' + 1)) := ⟨_, rfl⟩
    rw [← eγ] at hS1
    have gr : ∀ j, j ≠ 2 → j ≠ 1 → γ1 j = γ j := fun j h1 h2 => by rw [eγ, u2_oth h2, u2_oth h1]
    have g2 : ∀ b, γ1 2 b = if b = a' then γ 0 0 else γ 2 b := fun b => by rw [eγ, u2_cell (fun z => absurd z.1 (by decide)), u2_at]
    have g1 : γ1 1 0 = nI (a' + 1) := by rw [eγ, u2_hit]
    obtain ⟨-, -, ax, hax10, ea', -, -, hax, -⟩ := hS.1.2.2.2.2.1
    have hact : ∀ k, k < n → γ1 2 (γ 14 k).toNatClampNeg = γ 2 (γ 14 k).toNatClampNeg := fun k hk => by
      obtain ⟨b, hb, eb⟩ := hax k hk
      have : ax = a' := nI_inj (by omega) (by omega) (ea'.symm.trans e1)
      rw [g2, eb, cl_n (by omega), if_neg (by omega)]
    have hln : lgn n γ γ1 := ⟨fun j h1 h2 => gr j (by omega) (by omega), hact⟩
    have hLW : LKW γ1 t85 n np := by
      refine ⟨⟨T', hT', by rw [gr 0 (by decide) (by decide)]; exact t1, by rw [rr 0 (by decide) (by decide)]; exact t2⟩, by rw [rr 2 (by decide) (by decide)]; exact e2, by rw [rr 3 (by decide) (by decide)]; exact e3, ?_, ?_, ?_, ?_⟩
      · refine ⟨a' + 1, by omega, g1, by rw [e85, u2_hit], ?_, fun b hb => ?_⟩
        · rw [if_neg (by omega), e85, u2_cell (fun z => absurd z.2 (by decide)), u2_hit, Nat.add_sub_cancel, g2, if_pos rfl, t1, t2]
        · rw [g2]
          by_cases c : b = a'
          · rw [if_pos c]; exact ⟨T', hT', t1⟩
          · rw [if_neg c]; exact hmd b (by omega)
      · exact hV.of (fun j h1 h2 => by rw [gr j (by omega) (by omega)]) (fun j h1 h2 => rr j (by omega) (by omega))
      · exact hN.of (fun j h1 h2 => by rw [gr j (by omega) (by omega)]) (fun j h1 h2 => rr j (by omega) (by omega))
      · exact hLI.of hact (fun j hj => gr j (by omega) (by omega)) (fun j h1 h2 => ro j (by omega))
    exact l1477 ⟨hS1, hLW, hpn, T, by omega, by rw [gr 0 (by decide) (by decide)]; exact eT, hF.re hS.h8 (fun _ _ => RE_ln hln) (Or.inl rfl) (Nat.le_refl _) h20 (Nat.le_refl _)⟩ K hX hY
/-- days go by, or another view is looked at -/
theorem l1386 {kn : Nat} (hI : IV i σ ν γ ρ n np x6 x8 x9) (K : KK i κ) (hX : X < 2147483648) (hY : Y < 2147483648) (hi : i < 130) (hk : ∀ T : Nat, T ≤ 650 → ρ 0 0 = nI T → kn ≤ T) : jL_law_1386 L xs κ post σ ν ρ x6 x8 x9 (nI i) (nI X) (nI Y) (nI kn) := by
  obtain ⟨hS, hL, hpn, T, hT, eT, hF⟩ := id hI
  obtain ⟨⟨T', hT', t1, t2⟩, e2, e3, -⟩ := id hL
  have h20 := hS.h8.2.1
  have h40 := hS.h8.1
  have eTT : T = T' := nI_inj (by omega) (by omega) (eT.symm.trans t1)
  subst eTT
  have hk := hk T hT' t2
  have m1 : (nI Y / ((300 : Int32))) - (nI Y / ((300 : Int32))) / ((100 : Int32)) * ((100 : Int32)) = nI (Y / 300 % 100) := by
    rw [show nI Y / (300 : Int32) = nI (Y / 300) from pk_div (by omega) (by decide) (by decide)]
    exact md9 (by omega) (by decide) (by decide)
  have m2 : (nI Y / ((30000 : Int32))) - (nI Y / ((30000 : Int32))) / ((3 : Int32)) * ((3 : Int32)) = nI (Y / 30000 % 3) := by
    rw [show nI Y / (30000 : Int32) = nI (Y / 30000) from pk_div (by omega) (by decide) (by decide)]
    exact md9 (by omega) (by decide) (by decide)
  unfold jL_law_1386
  rw [m1, m2]
  have hd : Y / 300 % 100 < 100 := Nat.mod_lt _ (by decide)
  have ht : Y / 30000 % 3 < 3 := Nat.mod_lt _ (by decide)
  generalize Y / 300 % 100 = d at hd ⊢
  generalize Y / 30000 % 3 = te at ht ⊢
  refine q_looked hS hL t1 hT' hd hk ht (fun σ' ν' γ' ρ' eγ eρ hS' hL' => ?_)
  have gr : ∀ j, j ≠ 33 → j ≠ 34 → j ≠ 35 → γ' j = γ j := fun j h1 h2 h3 => by rw [eγ, u2_oth h3, u2_oth h2, u2_oth h1]
  have hln : lgn n γ γ' := ⟨fun j h1 h2 => gr j (by omega) (by omega) (by omega), fun k hk => by rw [gr 2 (by decide) (by decide) (by decide)]⟩
  have hF' : FST γ' n np T x6 x8 x9 := hF.re hS.h8 (fun _ _ => RE_ln hln) (Or.inl rfl) (Nat.le_refl _) h20 (Nat.le_refl _)
  have g33 : γ' 33 0 = nI d := by rw [eγ]; rfl
  have g34 : γ' 34 0 = nI kn := by rw [eγ]; rfl
  have g35 : γ' 35 0 = nI te := by rw [eγ]; rfl
  have eT' : γ' 0 0 = nI T := by rw [gr 0 (by decide) (by decide) (by decide)]; exact t1
  have hI' : IV (i + 1) σ' ν' γ' ρ' n np x6 x8 x9 := ⟨hS', hL', hpn, T, by omega, eT', hF'⟩
  have fin := l1477 (L := L) (xs := xs) (post := post) hI' K hX hY
  obtain ⟨⟨T2, hT2, s1, s2⟩, f2, f3, -, ⟨v5, v6, v7, -⟩, -⟩ := id hL'
  have eT2 : T2 = T := nI_inj (by omega) (by omega) (s1.symm.trans eT')
  subst eT2
  rw [if_neg z1I]
  refine ⟨k14 (i := 0) (by decide), ?_⟩
  have l0 : ρ' 0 ((0 : Int32)).toNatClampNeg = nI T2 := s2
  rw [l0, ti_n (show kn < 2147483648 by omega), ti_n (by omega)]
  by_cases c : kn < T2
  rotate_left
  · rw [if_neg (by omega)]
    exact fin
  rw [if_pos (by omega)]
  refine i_both ?_ fin
  refine q_all hS' f2 f3 (Nat.le_refl _) (Nat.le_refl _) ?_
  refine ⟨k14 (i := 2) (by decide), k14 (i := 3) (by decide), k14 (i := 6) (by decide), k14 (i := 5) (by decide), k14 (i := 7) (by decide), ?_⟩
  have l2 : ρ' 0 ((2 : Int32)).toNatClampNeg = nI n := f2
  have l3 : ρ' 0 ((3 : Int32)).toNatClampNeg = nI np := f3
  have l5 : ρ' 0 ((5 : Int32)).toNatClampNeg = nI d := v5.trans g33
  have l6 : ρ' 0 ((6 : Int32)).toNatClampNeg = nI kn := v6.trans g34
  have l7 : ρ' 0 ((7 : Int32)).toNatClampNeg = nI te := v7.trans g35
  rw [l2, l3, l5, l6, l7, g33, g34, g35, show (10000 : Int32) = nI 10000 from rfl, show (100 : Int32) = nI 100 from rfl, show (1000000 : Int32) = nI 1000000 from rfl, pk_mul, pk_mul, pk_mul, pk_mul, nI_add, nI_add, nI_add]
  exact l1477 ⟨hS', hL', hpn, T2, by omega, eT', Or.inr ⟨n, np, d, kn, te, Nat.le_refl _, Nat.le_refl _, hd, c, ht, rfl, rfl, rfl⟩⟩ K hX hY
theorem l1310 {Z : Nat} (hI : IV i σ ν γ ρ n np x6 x8 x9) (K : KK i κ) (hX : X < 2147483648) (hY : Y < 2147483648) (hi : i < 130) : jL_law_1310 L xs κ post σ ν ρ x6 x8 x9 (nI i) (nI X) (nI Z) (nI Y) := by
  obtain ⟨hS, hL, hpn, T, hT, eT, hF⟩ := id hI
  obtain ⟨⟨T', hT', t1, t2⟩, e2, e3, hA, hV, hN, hLI⟩ := id hL
  have h20 := hS.h8.2.1
  have h40 := hS.h8.1
  have eTT : T = T' := nI_inj (by omega) (by omega) (eT.symm.trans t1)
  subst eTT
  have l0 : ρ 0 ((0 : Int32)).toNatClampNeg = nI T := t2
  unfold jL_law_1310
  refine i_both ?_ (i_both ⟨k14 (i := 0) (by decide), ?_, ?_⟩ ⟨k14 (i := 0) (by decide), ?_⟩)
  · have m5 : (1 : Int32) + (nI Y - nI Y / (5 : Int32) * (5 : Int32)) = nI (1 + Y % 5) := by
      rw [show nI Y - nI Y / (5 : Int32) * (5 : Int32) = nI (Y % 5) from md9 (by omega) (by decide) (by decide), li1, nI_add]
    rw [m5]
    have hd : 1 ≤ 1 + Y % 5 ∧ 1 + Y % 5 ≤ 5 := by omega
    generalize 1 + Y % 5 = d at hd ⊢
    have ed : γ 0 0 + nI d = nI (T + d) := by rw [t1, nI_add]
    have hok : 1 ≤ (nI d).toInt ∧ (nI d).toInt ≤ 500 := by rw [ti_n (by omega)]; omega
    refine zc_pass hS (fun z => absurd hok z) (fun _ z => absurd (show (γ 0 0 + nI d).toInt ≤ 5000 by rw [ed, ti_n (by omega)]; omega) z) (fun _ _ σ1 hS1 => ?_)
    rw [ed] at hS1 ⊢
    refine ⟨k14 (i := 0) (by decide), k14 (i := 0) (by decide), fun t153 e153 => ⟨k14 (i := 0) (by decide), ?_⟩⟩
    rw [l0, nI_add] at e153
    have e153 : t153 = u2 ρ 0 0 (nI (T + d)) := e153
    have l0' : t153 0 ((0 : Int32)).toNatClampNeg = nI (T + d) := by rw [e153]; rfl
    rw [l0', if_pos rfl]
    have rr : ∀ j, j ≠ 0 → t153 0 j = ρ 0 j := fun j h1 => by rw [e153, u2_cell (fun z => h1 z.2)]
    have ro : ∀ j, j ≠ 0 → t153 j = ρ j := fun j h1 => by rw [e153, u2_oth h1]
    obtain ⟨γ1, eγ⟩ : ∃ γ1, γ1 = u2 γ 0 0 (nI (T + d)) := ⟨_, rfl⟩
    rw [← eγ] at hS1
    have gr : ∀ j, j ≠ 0 → γ1 j = γ j := fun j h1 => by rw [eγ, u2_oth h1]
    have hln : lgn n γ γ1 := ⟨fun j h1 h2 => gr j (by omega), fun k hk => by rw [gr 2 (by decide)]⟩
    have eT1 : γ1 0 0 = nI (T + d) := by rw [eγ, u2_hit]
    have hLW : LKW γ1 t153 n np := by
      refine ⟨⟨T + d, by omega, eT1, l0'⟩, by rw [rr 2 (by decide)]; exact e2, by rw [rr 3 (by decide)]; exact e3, ?_, ?_, ?_, ?_⟩
      · exact hA.of (gr 1 (by decide)) (gr 2 (by decide)) (rr 1 (by decide)) (rr 4 (by decide))
      · exact hV.of (fun j h1 h2 => by rw [gr j (by omega)]) (fun j h1 h2 => rr j (by omega))
      · exact hN.of (fun j h1 h2 => by rw [gr j (by omega)]) (fun j h1 h2 => rr j (by omega))
      · exact hLI.of (fun k hk => by rw [gr 2 (by decide)]) (fun j hj => gr j (by omega)) (fun j h1 h2 => ro j (by omega))
    exact l1477 ⟨hS1, hLW, hpn, T + d, by omega, eT1, hF.re hS.h8 (fun _ _ => RE_ln hln) (Or.inl rfl) (Nat.le_refl _) h20 (by omega)⟩ K hX hY
  · rw [l0, nI_1]
    intro z
    have := congrArg Int32.toInt z
    rw [ti_n (by omega), z0I] at this
    omega
  · have m3 : (nI Y / ((3 : Int32))) - (nI Y / ((3 : Int32))) / (nI T + ((1 : Int32))) * (nI T + ((1 : Int32))) = nI (Y / 3 % (T + 1)) := by
      rw [nI_1, show nI Y / (3 : Int32) = nI (Y / 3) from pk_div (by omega) (by decide) (by decide)]
      exact md9 (by omega) (by omega) (by omega)
    rw [l0, m3]
    have hm : Y / 3 % (T + 1) < T + 1 := Nat.mod_lt _ (by omega)
    refine l1386 hI K hX hY hi (fun T2 hT2 e => ?_)
    have : T2 = T := nI_inj (by omega) (by omega) (e.symm.trans t2)
    omega
  · rw [l0]
    refine l1386 hI K hX hY hi (fun T2 hT2 e => ?_)
    have : T2 = T := nI_inj (by omega) (by omega) (e.symm.trans t2)
    omega
end LAW
