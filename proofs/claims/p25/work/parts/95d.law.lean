/-! The law: each step, all of them, and its end. -/
theorem dz_nn {L : Nat} {xs : Nat → Int32} {k : Int32} : ∃ D : Nat, D < 2147483648 ∧ dz L xs k = nI D := by
  have key : ∀ x : Int32, ∃ D : Nat, D < 2147483648 ∧ x &&& (2147483647 : Int32) = nI D := fun x => by
    have e : x = nI x.toBitVec.toNat := by
      apply Int32.toBitVec_inj.1
      show x.toBitVec = BitVec.ofNat 32 x.toBitVec.toNat
      simp
    refine ⟨x.toBitVec.toNat % 2 ^ 31, Nat.mod_lt _ (by decide), ?_⟩
    rw [e, show (2147483647 : Int32) = nI (2 ^ 31 - 1) from rfl, bo_and, Nat.and_two_pow_sub_one_eq_mod]
    rw [← e]
  exact key _
section LAWD
variable {L : Nat} {xs : Nat → Int32} {κ : SG → NU → RH → Int64 → Int32 → Int32 → Int32 → Int32 → Prop} {post : Int32 → Prop} {σ : SG} {ν : NU} {γ ρ : RH} {n np i X Y : Nat} {x6 : Int64} {x8 x9 : Int32}
theorem l166 {Z k : Nat} (hI : IV i σ ν γ ρ n np x6 x8 x9) (K : KK i κ) (hX : X < 2147483648) (hY : Y < 2147483648) (hi : i < 130) (hZ : Z < 32) (hk : 0 < n → k < n) (hk0 : n = 0 → k = 0) : jL_law_166 L xs κ post σ ν ρ x6 x8 x9 (nI i) (nI X) (nI Z) (nI Y) (nI k) := by
  obtain ⟨hS, hL, hpn, -⟩ := id hI
  obtain ⟨-, e2, -, -, -, -, hLI⟩ := id hL
  have h40 := hS.h8.1
  have k40 : k < 40 := by
    by_cases c : n = 0
    · have := hk0 c; omega
    · have := hk (by omega); omega
  have hvk : vp_in (nI k) 40 := vi_n k40 (by decide)
  have ck : (nI k).toNatClampNeg = k := cl_n (by omega)
  have v2 : vp_in (2 : Int32) 14 := k14 (i := 2) (by decide)
  have l2 : ρ 0 ((2 : Int32)).toNatClampNeg = nI n := e2
  have act := l180 (L := L) (xs := xs) (post := post) hI K hX hY hi
  have m2 : nI Y - nI Y / ((2 : Int32)) * ((2 : Int32)) = nI (Y % 2) := md9 (by omega) (by decide) (by decide)
  have t9 : ∀ w, w ≤ 2 → (w = 2 → k < n) → jL_law_947 L xs κ post σ ν ρ x6 x8 x9 (nI i) (nI X) (nI Y) (nI k) (nI w) := fun w hw h2 => l947 hI K hX hY hw h2
  have t01 := t9 (Y % 2) (by omega) (fun z => absurd z (by omega))
  have s9 := l1175 (L := L) (xs := xs) (post := post) (Z := Z) hI K hX hY hi hZ hk
  unfold jL_law_166
  rw [m2, l2, ck, ti_n (show n < 2147483648 by omega)]
  refine i_both act ⟨k14 (i := 1) (by decide), i_both act (i_both (i_both (l275 hI K hX hY hi (Or.inr rfl) hk) (l275 hI K hX hY hi (Or.inl rfl) hk)) (i_both (i_both (l805 (Or.inr rfl) hI K hX hY) (l805 (Or.inl rfl) hI K hX hY)) (i_both (i_both ⟨v2, ?_⟩ t01) (i_both ⟨v2, ?_⟩ s9))))⟩
  · by_cases c : n = 0
    · rw [if_pos (by omega)]
      exact t01
    · rw [if_neg (by omega)]
      exact t9 2 (Nat.le_refl _) (fun _ => hk (by omega))
  · by_cases c : n = 0
    · rw [if_pos (by omega)]
      exact s9
    · have hk := hk (by omega)
      obtain ⟨⟨hw, wh, a1, a2, a3, a4, a5⟩, -, ho⟩ := hLI.1 k hk
      obtain ⟨d1, -⟩ := HN_mod (γ := γ) (i := k) a1 a2 a5
      rw [if_neg (by omega)]
      refine ⟨hvk, ?_⟩
      rw [d1, ti_n (show hw < 2147483648 by omega)]
      have g22 : γ 22 k = 1 ↔ hw = 1 := ⟨fun z => nI_inj (by omega) (by decide) ((a3.symm.trans z).trans (show (1 : Int32) = nI 1 from rfl)), fun z => by rw [a3, z]; rfl⟩
      by_cases c1 : hw = 1
      · rw [if_pos (by omega)]
        refine ⟨hvk, ?_⟩
        rcases ho with ⟨o1, o2⟩ | ⟨om, od, o1, o2, o3, o4, o5⟩
        · rw [o2, if_pos z0I]
          exact l1098 hI K hX hY hi hk (Or.inl ⟨rfl, g22.mpr c1, o1⟩)
        · rw [o5, ti_n (by omega), if_neg (by omega)]
          refine l1098 hI K hX hY hi hk (Or.inr ⟨rfl, fun z => ?_⟩)
          have := z.2
          rw [o3] at this
          exact nI_m1 (by omega) this
      · rw [if_neg (by omega)]
        exact l1098 hI K hX hY hi hk (Or.inr ⟨rfl, fun z => c1 (g22.mp z.1)⟩)
theorem l1637 (hS : SIM σ ν γ n np) (hL : LKW γ ρ n np) (hp : post 1) : jL_law_1637 L xs post σ ν ρ 1 := by
  unfold jL_law_1637
  rw [if_neg z1I]
  refine q_sound (X := 7) hS hL (by decide) (fun σ' ν' hS' => ?_)
  rw [if_neg z1I]
  exact hp
theorem l1537 (hI : IV 130 σ ν γ ρ n np x6 x8 x9) (hp : post 1) : jL_law_1537 L xs post σ ν ρ x6 x8 x9 1 := by
  obtain ⟨hS, hL, hpn, T, hT, eT, hF⟩ := id hI
  have h20 := hS.h8.2.1
  have h40 := hS.h8.1
  have l2 : ρ 0 ((2 : Int32)).toNatClampNeg = nI n := hL.2.1
  have l3 : ρ 0 ((3 : Int32)).toNatClampNeg = nI np := hL.2.2.1
  have v2 : vp_in (2 : Int32) 14 := k14 (i := 2) (by decide)
  have v3 : vp_in (3 : Int32) 14 := k14 (i := 3) (by decide)
  unfold jL_law_1537
  rw [if_neg z1I]
  rcases hF with e | ⟨n0, np0, d0, kn0, te0, f1, f2, f3, f4, f5, f6, f7, f8⟩
  · rw [e, if_pos (by decide)]
    exact l1637 hS hL hp
  · have r1 : (nI (kn0 + 10000 * d0 + 1000000 * te0) / ((10000 : Int32))) - (nI (kn0 + 10000 * d0 + 1000000 * te0) / ((10000 : Int32))) / ((100 : Int32)) * ((100 : Int32)) = nI d0 := by
      rw [show nI (kn0 + 10000 * d0 + 1000000 * te0) / (10000 : Int32) = nI ((kn0 + 10000 * d0 + 1000000 * te0) / 10000) from pk_div (by omega) (by decide) (by decide), show nI ((kn0 + 10000 * d0 + 1000000 * te0) / 10000) - nI ((kn0 + 10000 * d0 + 1000000 * te0) / 10000) / (100 : Int32) * (100 : Int32) = nI ((kn0 + 10000 * d0 + 1000000 * te0) / 10000 % 100) from md9 (by omega) (by decide) (by decide)]
      congr 1
      omega
    have r2 : nI (kn0 + 10000 * d0 + 1000000 * te0) - nI (kn0 + 10000 * d0 + 1000000 * te0) / ((10000 : Int32)) * ((10000 : Int32)) = nI kn0 := by
      rw [show nI (kn0 + 10000 * d0 + 1000000 * te0) - nI (kn0 + 10000 * d0 + 1000000 * te0) / (10000 : Int32) * (10000 : Int32) = nI ((kn0 + 10000 * d0 + 1000000 * te0) % 10000) from md9 (by omega) (by decide) (by decide)]
      congr 1
      omega
    have r3 : nI (kn0 + 10000 * d0 + 1000000 * te0) / ((1000000 : Int32)) = nI te0 := by
      rw [show nI (kn0 + 10000 * d0 + 1000000 * te0) / (1000000 : Int32) = nI ((kn0 + 10000 * d0 + 1000000 * te0) / 1000000) from pk_div (by omega) (by decide) (by decide)]
      congr 1
      omega
    have r4 : nI (10000 * n0 + 100 * np0) / ((10000 : Int32)) = nI n0 := by
      rw [show nI (10000 * n0 + 100 * np0) / (10000 : Int32) = nI ((10000 * n0 + 100 * np0) / 10000) from pk_div (by omega) (by decide) (by decide)]
      congr 1
      omega
    have r5 : (nI (10000 * n0 + 100 * np0) / ((100 : Int32))) - (nI (10000 * n0 + 100 * np0) / ((100 : Int32))) / ((100 : Int32)) * ((100 : Int32)) = nI np0 := by
      rw [show nI (10000 * n0 + 100 * np0) / (100 : Int32) = nI ((10000 * n0 + 100 * np0) / 100) from pk_div (by omega) (by decide) (by decide), show nI ((10000 * n0 + 100 * np0) / 100) - nI ((10000 * n0 + 100 * np0) / 100) / (100 : Int32) * (100 : Int32) = nI ((10000 * n0 + 100 * np0) / 100 % 100) from md9 (by omega) (by decide) (by decide)]
      congr 1
      omega
    rw [f7, f6, ti_n (by omega), if_neg (by omega), r1, r2, r3, r4, r5, l2, l3]
    refine ⟨v2, v3, ?_⟩
    refine q_looked hS hL eT (by omega) f3 (by omega) f5 (fun σ' ν' γ' ρ' eγ eρ hS' hL' => ?_)
    refine ⟨v2, fun t50 e50 => ⟨v3, fun t53 e53 => ?_⟩⟩
    rw [if_neg z1I]
    have e53 : t53 = u2 (u2 ρ' 0 2 (nI n0)) 0 3 (nI np0) := by rw [e53, e50]; rfl
    have gr : ∀ j, j ≠ 33 → j ≠ 34 → j ≠ 35 → γ' j = γ j := fun j h1 h2 h3 => by rw [eγ, u2_oth h3, u2_oth h2, u2_oth h1]
    have hln : lgn n γ γ' := ⟨fun j h1 h2 => gr j (by omega) (by omega) (by omega), fun k hk => by rw [gr 2 (by decide) (by decide) (by decide)]⟩
    refine q_all hS' (a := n0) (b := np0) (by rw [e53]; rfl) (by rw [e53]; rfl) f1 f2 ?_
    have g33 : γ' 33 0 = nI d0 := by rw [eγ]; rfl
    have g34 : γ' 34 0 = nI kn0 := by rw [eγ]; rfl
    have g35 : γ' 35 0 = nI te0 := by rw [eγ]; rfl
    rw [g33, g34, g35, AV_re hS.h8 (RE_ln hln) (Or.inl rfl) (Nat.le_refl _) h20 f1, ← f8, if_pos lcmp_same]
    unfold jL_law_1625
    refine ⟨v2, fun t57 e57 => ⟨v3, fun t60 e60 => ?_⟩⟩
    have e60 : t60 = ρ' := by
      rw [e60, e57, e53]
      have p2 : ρ' 0 2 = nI n := hL'.2.1
      have p3 : ρ' 0 3 = nI np := hL'.2.2.1
      funext x y
      show u2 (u2 (u2 (u2 ρ' 0 2 (nI n0)) 0 3 (nI np0)) 0 2 (nI n)) 0 3 (nI np) x y = ρ' x y
      by_cases c3 : x = 0 ∧ y = 3
      · obtain ⟨rfl, rfl⟩ := c3
        rw [u2_hit, p3]
      rw [u2_cell c3]
      by_cases c2 : x = 0 ∧ y = 2
      · obtain ⟨rfl, rfl⟩ := c2
        rw [u2_hit, p2]
      rw [u2_cell c2, u2_cell c3, u2_cell c2]
    rw [e60]
    exact l1637 hS' hL' hp
theorem lloop (hp : post 1) : ∀ (r i : Nat), i + r = 130 → ∀ (σ : SG) (ν : NU) (γ ρ : RH) (n np : Nat) (x6 : Int64) (x8 x9 : Int32), IV i σ ν γ ρ n np x6 x8 x9 → wL_law_115 L xs post (r + 1) σ ν ρ x6 x8 x9 1 (nI i) := by
  intro r
  induction r with
  | zero =>
    intro i hi σ ν γ ρ n np x6 x8 x9 hI
    have : i = 130 := by omega
    subst this
    unfold wL_law_115
    rw [ti_n (by omega), if_neg (by omega)]
    exact l1537 hI hp
  | succ r ih =>
    intro i hi σ ν γ ρ n np x6 x8 x9 hI
    have K : KK i (wL_law_115 L xs post (r + 1)) := fun σ ν γ ρ n np x6 x8 x9 h => ih (i + 1) (by omega) σ ν γ ρ n np x6 x8 x9 h
    have h40 := hI.1.h8.1
    have l2 : ρ 0 ((2 : Int32)).toNatClampNeg = nI n := hI.2.1.2.1
    unfold wL_law_115
    rw [ti_n (by omega), if_pos (by omega), if_neg z1I]
    unfold wpL_dice
    refine ⟨by rw [ti_n (by omega)]; omega, k14 (i := 2) (by decide), ?_⟩
    obtain ⟨D, hD, eD⟩ := dz_nn (L := L) (xs := xs) (k := nI i)
    have m1 : nI D - nI D / ((32 : Int32)) * ((32 : Int32)) = nI (D % 32) := md9 (by omega) (by decide) (by decide)
    have m2 : nI D / ((32 : Int32)) = nI (D / 32) := pk_div (by omega) (by decide) (by decide)
    rw [eD, m1, m2, l2, ti_n (show n < 2147483648 by omega)]
    by_cases c : n = 0
    · rw [if_pos (by omega)]
      exact l166 (k := 0) hI K hD (by omega) (by omega) (Nat.mod_lt _ (by decide)) (fun h => absurd h (by omega)) (fun _ => rfl)
    · rw [if_neg (by omega)]
      refine ⟨k14 (i := 2) (by decide), ?_, ?_⟩
      · intro z
        have := congrArg Int32.toInt z
        rw [ti_n (by omega), z0I] at this
        omega
      · have m3 : nI (D / 32) - nI (D / 32) / nI n * nI n = nI (D / 32 % n) := md9 (by omega) (by omega) (by omega)
        rw [m3]
        exact l166 hI K hD (by omega) (by omega) (Nat.mod_lt _ (by decide)) (fun h => Nat.mod_lt _ h) (fun h => absurd h c)
/-- the law, begun with a new code and new rows -/
theorem q_law (hS : SIM σ ν γ 0 0) (hρ : ∀ j c, ρ j c = 0) (g0 : γ 0 0 = 0) (g1 : γ 1 0 = 0) (g3 : γ 3 0 = 0) (g4 : γ 4 0 = 0) (g5 : γ 5 0 = 7) (g6 : γ 6 0 = -1) (g7 : γ 7 0 = 0) (g9 : γ 9 0 = 0) (g33 : γ 33 0 = 0) (g34 : γ 34 0 = 0) (g35 : γ 35 0 = 0) (hp : post 1) : wpL_law L xs σ ν ρ post := by
  unfold wpL_law
  refine ⟨k14 (i := 4) (by decide), fun t2 e2 => ⟨k14 (i := 12) (by decide), fun t5 e5 => ⟨k14 (i := 13) (by decide), fun t8 e8 => ?_⟩⟩⟩
  have e8 : t8 = u2 (u2 (u2 ρ 0 4 (-1)) 0 12 7) 0 13 (-1) := by rw [e8, e5, e2]; rfl
  have rr : ∀ j, j ≠ 4 → j ≠ 12 → j ≠ 13 → t8 0 j = 0 := fun j h1 h2 h3 => by
    rw [e8, u2_cell (fun z => h3 z.2), u2_cell (fun z => h2 z.2), u2_cell (fun z => h1 z.2)]
    exact hρ 0 j
  have s4 : t8 0 4 = -1 := by rw [e8]; rfl
  have s12 : t8 0 12 = 7 := by rw [e8]; rfl
  have s13 : t8 0 13 = -1 := by rw [e8]; rfl
  have hT : ∃ T : Nat, T ≤ 650 ∧ γ 0 0 = nI T ∧ t8 0 0 = nI T := ⟨0, by omega, g0, rr 0 (by decide) (by decide) (by decide)⟩
  have f2 : t8 0 2 = nI 0 := rr 2 (by decide) (by decide) (by decide)
  have f3 : t8 0 3 = nI 0 := rr 3 (by decide) (by decide) (by decide)
  have hLW : LKW γ t8 0 0 := by
    refine ⟨hT, f2, f3, ?_, ?_, ?_, ?_⟩
    · refine ⟨0, by omega, g1, rr 1 (by decide) (by decide) (by decide), ?_, fun b hb => absurd hb (Nat.not_lt_zero _)⟩
      rw [if_pos rfl]; exact s4
    · refine ⟨?_, ?_, ?_, ⟨0, by omega, g34⟩, ⟨0, by omega, g33⟩, 0, by omega, g35⟩
      · rw [rr 5 (by decide) (by decide) (by decide), g33]
      · rw [rr 6 (by decide) (by decide) (by decide), g34]
      · rw [rr 7 (by decide) (by decide) (by decide), g35]
    · refine ⟨?_, ?_, ?_, ?_, ?_, ?_, ⟨0, 0, by omega, by omega, g3, g4⟩, ⟨7, by omega, g5⟩, Or.inl g6⟩
      · rw [rr 8 (by decide) (by decide) (by decide), g7]
      · rw [rr 9 (by decide) (by decide) (by decide), g9]
      · rw [rr 10 (by decide) (by decide) (by decide), g3]
      · rw [rr 11 (by decide) (by decide) (by decide), g4]
      · rw [s12, g5]
      · rw [s13, g6]
    · refine ⟨fun k hk => absurd hk (Nat.not_lt_zero _), fun k _ _ => ?_⟩
      rw [e8, u2_oth (by decide), u2_oth (by decide), u2_oth (by decide)]
      exact hρ 3 k
  have hI : IV 0 σ ν γ t8 0 0 0 0 (-1) := ⟨hS, hLW, Nat.le_refl _, 0, by omega, g0, Or.inl rfl⟩
  have go : ∃ f, f ≤ 131 ∧ wL_law_115 L xs post f σ ν t8 0 0 (-1) 1 0 := ⟨131, Nat.le_refl _, lloop hp 130 0 (by omega) σ ν γ t8 0 0 0 0 (-1) hI⟩
  refine q_refused (X := 0) hS hT f2 f3 (by decide) ?_
  rw [if_neg z1I]
  refine q_refused (X := 1) hS hT f2 f3 (by decide) ?_
  rw [if_neg z1I]
  refine y_print hS ?_
  have hG := hS.gd
  have hnil : ls9 (cv9 0 0 γ) = [] := by
    cases q : ls9 (cv9 0 0 γ) with
    | nil => rfl
    | cons a l =>
      have := (ls9_len hG).2 a (by rw [q]; exact List.mem_cons_self)
      exact absurd (hG.1.1 a this.1 this.2) (Nat.not_lt_zero _)
  rw [hnil]
  rw [show pl8 (cv9 0 0 γ) [] 11 = 11 from rfl, if_pos lcmp_same]
  refine y_conflicts hS ?_
  rw [show pcl (cf9 γ (γ 34 0) (cv9 0 0 γ)) (or9 γ 0 (γ 33 0) (γ 34 0) (γ 35 0)) = 0 from rfl, if_pos (by decide)]
  refine zc_enact hS (fun z => absurd (Or.inl rfl) z) (fun _ z => absurd (show okLab 1 0 from ⟨1, 0, by decide, by decide, by decide, Or.inl rfl, rfl, rfl⟩) z) (fun _ _ _ => ?_) (fun _ _ _ a ha0 ha ea _ _ _ _ => ?_)
  · rw [if_pos (by decide)]
    exact go
  · rw [g1] at ea
    exact absurd (nI_inj (a := 0) (by decide) (by omega) ea) (by omega)
end LAWD
