/-! The law's steps: enacting and instructing. -/
theorem can_iff {γ ρ : RH} {n np : Nat} (hL : LKW γ ρ n np) : ((ρ 0 4).toInt = (ρ 0 0).toInt ∧ n < 40) ↔ opn9 n γ := by
  obtain ⟨⟨T', hT', t1, t2⟩, -, -, ⟨a, ha, ea, -, r4, -⟩, -⟩ := hL
  constructor
  · rintro ⟨h1, h2⟩
    have h1 := ti_eq.mp h1
    rw [r4, t2] at h1
    by_cases c : a = 0
    · rw [if_pos c] at h1
      exact absurd h1.symm (nI_m1 (by omega))
    · rw [if_neg c] at h1
      exact ⟨h2, a, by omega, ha, ea, h1.trans t1.symm⟩
  · rintro ⟨h2, a', h0, h10, ea', e9⟩
    have : a = a' := nI_inj (by omega) (by omega) (ea.symm.trans ea')
    subst this
    refine ⟨?_, h2⟩
    rw [r4, if_neg (by omega), e9, t1, t2]
section LAWC
variable {L : Nat} {xs : Nat → Int32} {κ : SG → NU → RH → Int64 → Int32 → Int32 → Int32 → Int32 → Prop} {post : Int32 → Prop} {σ : SG} {ν : NU} {γ ρ : RH} {n np i X Y : Nat} {x6 : Int64} {x8 x9 : Int32}
theorem l701_no {e : Int32} (hI : IV i σ ν γ ρ n np x6 x8 x9) (K : KK i κ) (hX : X < 2147483648) (hY : Y < 2147483648) : jL_law_701 L xs κ post σ ν ρ x6 x8 x9 (nI i) (nI X) (nI Y) e (-1383) 1 := by
  unfold jL_law_701
  rw [if_pos (by decide)]
  exact l1477 hI.up K hX hY
theorem l701_yes {e np1 a v : Nat} {γ1 : RH} {q1 q2 q3 la : Int32} {σ1 : SG} {ν1 : NU} (hI : IV i σ ν γ ρ n np x6 x8 x9) (K : KK i κ) (hX : X < 2147483648) (hY : Y < 2147483648) (hi : i < 130) (he : e ≤ 1) (hnp : np1 = np + e) (hv : v < 100) (hn : n < 40) (ha0 : 0 < a) (ha : a ≤ 10) (ea : γ 1 0 = nI a) (e9 : γ 2 (a - 1) = γ 0 0) (eγ : γ1 = u2 (lay9 n a γ q1 q2 q3 la) 12 0 (nI np1)) (hS1 : SIM σ1 ν1 γ1 (n + 1) np1) : jL_law_701 L xs κ post σ1 ν1 ρ x6 x8 x9 (nI i) (nI X) (nI Y) (nI e) (nI v) 1 := by
  obtain ⟨hS, hL, hpn, T, hT, eT, hF⟩ := id hI
  obtain ⟨⟨T', hT', t1, t2⟩, e2, e3, hA, hV, hN, hLI⟩ := id hL
  have h20 := hS.h8.2.1
  have h201 := hS1.h8.2.1
  have eTT : T = T' := nI_inj (by omega) (by omega) (eT.symm.trans t1)
  subst eTT
  obtain ⟨n8, n9, n10, n11, n12, n13, ⟨hw, wh, w1, w2, w3, w4⟩, ⟨te, te1, te2⟩, hsn⟩ := id hN
  obtain ⟨sn, sn1, sn2, sn3⟩ : ∃ sn : Nat, sn ≤ 90 ∧ γ 6 0 + 1 = nI sn ∧ ((γ 6 0 = -1 ∧ sn = 0) ∨ (0 < sn ∧ γ 6 0 = nI (sn - 1))) := by
    rcases hsn with e | ⟨s, hs, e⟩
    · exact ⟨0, by omega, by rw [e]; decide, Or.inl ⟨e, rfl⟩⟩
    · exact ⟨s + 1, by omega, by rw [e]; exact nI_1 s, Or.inr ⟨by omega, e⟩⟩
  have cn : (nI n).toNatClampNeg = n := cl_n (by omega)
  have hvn : vp_in (nI n) 40 := vi_n hn (by decide)
  unfold jL_law_701
  rw [ti_n (by omega), if_neg (by omega)]
  rw [show ρ 0 ((2 : Int32)).toNatClampNeg = nI n from e2, show ρ 0 ((10 : Int32)).toNatClampNeg = nI hw from n10.trans w3, show ρ 0 ((11 : Int32)).toNatClampNeg = nI wh from n11.trans w4, cn]
  refine ⟨k14 (i := 2) (by decide), k14 (i := 10) (by decide), k14 (i := 11) (by decide), hvn, fun t321 e321 => ?_⟩
  rw [show (4 : Int32) = nI 4 from rfl, pk_mul, nI_add] at e321
  have u0 : ∀ j, t321 0 j = ρ 0 j := fun j => by rw [e321, u2_cell (fun z => absurd z.1 (by decide))]
  rw [show t321 0 ((2 : Int32)).toNatClampNeg = nI n from (u0 2).trans e2, show t321 0 ((12 : Int32)).toNatClampNeg = nI te from (u0 12).trans (n12.trans te2), show t321 0 ((0 : Int32)).toNatClampNeg = nI T from (u0 0).trans t2, show t321 0 ((13 : Int32)).toNatClampNeg = γ 6 0 from (u0 13).trans n13, cn]
  refine ⟨k14 (i := 2) (by decide), k14 (i := 12) (by decide), k14 (i := 0) (by decide), k14 (i := 13) (by decide), hvn, fun t328 e328 => ?_⟩
  rw [sn2, sh_l3 (by omega), sh_l16 (by omega), bo_sum (k := 3) T (by omega), bo_sum (k := 16) sn (by omega)] at e328
  have u2' : ∀ j, t328 0 j = ρ 0 j := fun j => by rw [e328, u2_cell (fun z => absurd z.1 (by decide))]; exact u0 j
  rw [show t328 0 ((2 : Int32)).toNatClampNeg = nI n from (u2' 2).trans e2, nI_1]
  refine ⟨k14 (i := 2) (by decide), k14 (i := 2) (by decide), fun t332 e332 => ⟨k14 (i := 3) (by decide), ?_⟩⟩
  have e332 : t332 = u2 t328 0 2 (nI (n + 1)) := e332
  have u3' : t332 0 ((3 : Int32)).toNatClampNeg = nI np := by
    rw [e332]
    exact (u2' 3).trans e3
  rw [u3']
  have fin : ∀ y : Int32, nI np + y = nI np1 → jL_law_771 L xs κ post σ1 ν1 t332 x6 x8 x9 1 (nI i) (nI X) (nI Y) 0 (nI np) y := fun y hy => by
    unfold jL_law_771
    refine ⟨k14 (i := 3) (by decide), fun t337 e337 => ⟨k14 (i := 8) (by decide), fun t340 e340 => ⟨k14 (i := 9) (by decide), fun t343 e343 => ?_⟩⟩⟩
    rw [hy] at e337
    have e343 : t343 = u2 (u2 (u2 (u2 t328 0 2 (nI (n + 1))) 0 3 (nI np1)) 0 8 0) 0 9 0 := by rw [e343, e340, e337, e332]; rfl
    have rr : ∀ j, j ≠ 2 → j ≠ 3 → j ≠ 8 → j ≠ 9 → t343 0 j = ρ 0 j := fun j h1 h2 h3 h4 => by
      rw [e343, u2_cell (fun z => h4 z.2), u2_cell (fun z => h3 z.2), u2_cell (fun z => h2 z.2), u2_cell (fun z => h1 z.2)]
      exact u2' j
    have ro : ∀ j, j ≠ 0 → t343 j = t328 j := fun j h1 => by rw [e343, u2_oth h1, u2_oth h1, u2_oth h1, u2_oth h1]
    have s1 : ∀ c, t343 1 c = if c = n then nI (hw + 4 * wh) else ρ 1 c := fun c => by
      rw [ro 1 (by decide), e328, u2_cell (fun z => absurd z.1 (by decide)), e321, u2_at]
    have s2 : ∀ c, t343 2 c = if c = n then nI (te + T * 2 ^ 3 + sn * 2 ^ 16) else ρ 2 c := fun c => by
      rw [ro 2 (by decide), e328, u2_at, e321, u2_cell (f := ρ) (fun z => absurd z.1 (by decide))]
    have s3 : ∀ c, t343 3 c = ρ 3 c := fun c => by
      rw [ro 3 (by decide), e328, u2_cell (fun z => absurd z.1 (by decide)), e321, u2_cell (fun z => absurd z.1 (by decide))]
    have lt : ∀ j, j ≠ 7 ∧ j ≠ 9 ∧ j ≠ 11 ∧ (j < 13 ∨ j = 27 ∨ j = 29 ∨ 31 ≤ j) → j ≠ 12 → γ1 j = γ j := fun j h1 h2 => by rw [eγ, u2_oth h2]; exact lay9_oth h1
    have li : ∀ j, j ≠ 12 → γ1 j = lay9 n a γ q1 q2 q3 la j := fun j h2 => by rw [eγ, u2_oth h2]
    have g14 : ∀ c, γ1 14 c = if c = n then nI (a - 1) else γ 14 c := fun c => by rw [li 14 (by decide)]; rfl
    have g22 : ∀ c, γ1 22 c = if c = n then γ 3 0 else γ 22 c := fun c => by rw [li 22 (by decide)]; rfl
    have g23 : ∀ c, γ1 23 c = if c = n then γ 4 0 else γ 23 c := fun c => by rw [li 23 (by decide)]; rfl
    have g24 : ∀ c, γ1 24 c = if c = n then γ 5 0 else γ 24 c := fun c => by rw [li 24 (by decide)]; rfl
    have g25 : ∀ c, γ1 25 c = if c = n then γ 6 0 else γ 25 c := fun c => by rw [li 25 (by decide)]; rfl
    have g26 : ∀ c, γ1 26 c = if c = n then -1 else γ 26 c := fun c => by rw [li 26 (by decide)]; rfl
    have g27 : γ1 27 = γ 27 := lt 27 (by omega) (by decide)
    have g2 : γ1 2 = γ 2 := lt 2 (by omega) (by decide)
    have g0 : γ1 0 0 = nI T := by rw [lt 0 (by omega) (by decide)]; exact t1
    have g7 : γ1 7 0 = 0 := by rw [li 7 (by decide)]; rfl
    have g9 : γ1 9 0 = 0 := by rw [li 9 (by decide)]; rfl
    have made : γ1 2 (γ1 14 n).toNatClampNeg = nI T := by rw [g14, if_pos rfl, cl_n (by omega), g2, e9, t1]
    have hLW : LKW γ1 t343 (n + 1) np1 := by
      refine ⟨⟨T, hT', g0, by rw [rr 0 (by decide) (by decide) (by decide) (by decide)]; exact t2⟩, by rw [e343]; rfl, by rw [e343]; rfl, ?_, ?_, ?_, ?_, ?_⟩
      · exact hA.of (lt 1 (by omega) (by decide)) g2 (rr 1 (by decide) (by decide) (by decide) (by decide)) (rr 4 (by decide) (by decide) (by decide) (by decide))
      · exact hV.of (fun j h1 h2 => by rw [lt j (by omega) (by omega)]) (fun j h1 h2 => rr j (by omega) (by omega) (by omega) (by omega))
      · refine hN.of2 (fun j h1 h2 => by rw [lt j (by omega) (by omega)]) (fun j h1 h2 => rr j (by omega) (by omega) (by omega) (by omega)) ?_ ?_
        · rw [g7, e343]; rfl
        · rw [g9, e343]; rfl
      · intro k hk
        unfold HN TN ON
        rw [s1, s2, s3, g22, g23, g24, g25, g26, g27]
        by_cases c : k = n
        · subst c
          rw [if_pos rfl, if_pos rfl, if_pos rfl, if_pos rfl, if_pos rfl, if_pos rfl, if_pos rfl, made]
          refine ⟨⟨hw, wh, w1, w2, w3, w4, rfl⟩, ⟨te, T, sn, te1, hT', sn1, te2, rfl, sn3, ?_⟩, Or.inl ⟨rfl, hLI.2 k (Nat.le_refl _) hn⟩⟩
          congr 1
          omega
        · rw [if_neg c, if_neg c, if_neg c, if_neg c, if_neg c, if_neg c, if_neg c, g14, if_neg c, g2]
          exact hLI.1 k (by omega)
      · intro k h1 h2
        rw [s3]
        exact hLI.2 k (by omega) h2
    refine l1477 ⟨hS1, hLW, by omega, T, by omega, g0, hF.re hS.h8 (fun _ _ => by rw [eγ]; exact RE_lay hS.h8) (Or.inr ⟨rfl, fun _ _ _ hK => ef9_late made (by omega) hK⟩) (by omega) h201 (Nat.le_refl _)⟩ K hX hY
  by_cases c : e = 0
  · rw [if_pos (by rw [ti_n (by omega)]; omega)]
    exact fin 0 (by rw [Int32.add_zero]; congr 1; omega)
  · rw [if_neg (by rw [ti_n (by omega)]; omega)]
    have : e = 1 := by omega
    exact fin 1 (by rw [nI_1]; congr 1; omega)
theorem l693 {r v e : Int32} (h : r = v) (k : jL_law_701 L xs κ post σ ν ρ x6 x8 x9 (nI i) (nI X) (nI Y) e r 1) : jL_law_693 L xs κ post σ ν ρ x6 x8 x9 (nI i) (nI X) (nI Y) e r r v := by
  unfold jL_law_693
  rw [h, if_pos rfl, ← h]
  exact k
theorem l659_no {e c y : Int32} (h : c.toInt = 0 ∨ y.toInt = 0) (k : jL_law_701 L xs κ post σ ν ρ x6 x8 x9 (nI i) (nI X) (nI Y) e (-1383) 1) : jL_law_659 L xs κ post σ ν ρ x6 x8 x9 (nI i) (nI X) (nI Y) e (-1383) c y := by
  unfold jL_law_659
  by_cases q : c.toInt = 0
  · rw [if_pos q]
    exact l693 rfl k
  · rw [if_neg q, if_pos (h.resolve_left q)]
    exact l693 rfl k
theorem l534_no {e m : Int32} (k : jL_law_701 L xs κ post σ ν ρ x6 x8 x9 (nI i) (nI X) (nI Y) e (-1383) 1) : jL_law_534 L xs κ post σ ν ρ x6 x8 x9 (nI i) (nI X) (nI Y) e m (-1383) 0 := by
  have F : ∀ y : Int32, jL_law_659 L xs κ post σ ν ρ x6 x8 x9 (nI i) (nI X) (nI Y) e (-1383) 0 y := fun y => l659_no (Or.inl z0I) k
  unfold jL_law_534
  have v3 : vp_in (3 : Int32) 14 := k14 (i := 3) (by decide)
  have v8 : vp_in (8 : Int32) 14 := k14 (i := 8) (by decide)
  have v9 : vp_in (9 : Int32) 14 := k14 (i := 9) (by decide)
  exact i_both ⟨v3, i_both (F _) (i_both ⟨v9, i_both (F _) (F _)⟩ (i_both ⟨v8, i_both (F _) (F _)⟩ (i_both ⟨v8, i_both (F _) ⟨v9, i_both (F _) (F _)⟩⟩ (i_both ⟨v8, i_both (F _) (F _)⟩ ⟨v8, v9, i_both (F _) (F _)⟩))))⟩ ⟨v3, i_both ⟨v8, i_both (F _) (F _)⟩ (F _)⟩
/-- whether it can be, and is of the right kind -/
theorem l510 {e m r : Int32} (hL : LKW γ ρ n np) (hn : n ≤ 40) (h0 : ¬ opn9 n γ → r = -1383 ∧ jL_law_701 L xs κ post σ ν ρ x6 x8 x9 (nI i) (nI X) (nI Y) e (-1383) 1) (h1 : opn9 n γ → jL_law_534 L xs κ post σ ν ρ x6 x8 x9 (nI i) (nI X) (nI Y) e m r 1) : jL_law_510 L xs κ post σ ν ρ x6 x8 x9 (nI i) (nI X) (nI Y) e m r := by
  have hc := can_iff hL
  unfold jL_law_510
  refine ⟨k14 (i := 4) (by decide), k14 (i := 0) (by decide), ?_⟩
  rw [show ((4 : Int32)).toNatClampNeg = 4 from rfl, show ((0 : Int32)).toNatClampNeg = 0 from rfl, show ρ 0 ((2 : Int32)).toNatClampNeg = nI n from hL.2.1, ti_n (show n < 2147483648 by omega)]
  by_cases c1 : (ρ 0 4).toInt = (ρ 0 0).toInt
  · rw [if_pos c1]
    refine ⟨k14 (i := 2) (by decide), ?_⟩
    by_cases c2 : n < 40
    · rw [if_pos (by omega)]
      exact h1 (hc.mp ⟨c1, c2⟩)
    · rw [if_neg (by omega)]
      obtain ⟨e1, k⟩ := h0 (fun z => c2 (hc.mpr z).2)
      rw [e1]
      exact l534_no k
  · rw [if_neg c1]
    obtain ⟨e1, k⟩ := h0 (fun z => c1 (hc.mpr z).1)
    rw [e1]
    exact l534_no k
theorem l534_E {ms : Nat} {m r : Int32} (hL : LKW γ ρ n np) (h20 : np ≤ 20) (hms : γ 7 0 = nI ms) (hm4 : ms ≤ 4) (h1 : np < 20 ∧ ms = 0 → r = nI np ∧ jL_law_701 L xs κ post σ ν ρ x6 x8 x9 (nI i) (nI X) (nI Y) 1 r 1) (h0 : ¬ (np < 20 ∧ ms = 0) → r = -1383 ∧ jL_law_701 L xs κ post σ ν ρ x6 x8 x9 (nI i) (nI X) (nI Y) 1 (-1383) 1) : jL_law_534 L xs κ post σ ν ρ x6 x8 x9 (nI i) (nI X) (nI Y) 1 m r 1 := by
  obtain ⟨-, -, e3, -, -, hN, -⟩ := hL
  have l3 : ρ 0 ((3 : Int32)).toNatClampNeg = nI np := e3
  have l8 : ρ 0 ((8 : Int32)).toNatClampNeg = nI ms := hN.1.trans hms
  unfold jL_law_534
  rw [if_neg z1I]
  refine ⟨k14 (i := 3) (by decide), ?_⟩
  rw [l3, l8, ti_n (show np < 2147483648 by omega), ti_n (show ms < 2147483648 by omega)]
  by_cases c1 : np < 20
  · rw [if_pos (by omega)]
    refine ⟨k14 (i := 8) (by decide), ?_⟩
    by_cases c2 : ms = 0
    · rw [if_pos (by omega)]
      obtain ⟨e1, k⟩ := h1 ⟨c1, c2⟩
      unfold jL_law_659
      rw [if_neg z1I, if_neg z1I, if_neg z1I]
      refine ⟨k14 (i := 3) (by decide), ?_⟩
      exact l693 (e1.trans l3.symm) k
    · rw [if_neg (by omega)]
      obtain ⟨e1, k⟩ := h0 (fun z => c2 z.2)
      rw [e1]
      exact l659_no (Or.inr z0I) k
  · rw [if_neg (by omega)]
    obtain ⟨e1, k⟩ := h0 (fun z => c1 z.1)
    rw [e1]
    exact l659_no (Or.inr z0I) k
def OFI (np ms mf Kd : Nat) : Prop := 0 < np ∧ ((Kd = 1 ∧ 0 < mf) ∨ (Kd = 2 ∧ 0 < ms) ∨ (Kd = 3 ∧ 0 < ms ∧ mf = 0) ∨ (Kd = 7 ∧ ms = 0) ∨ (4 ≤ Kd ∧ Kd ≤ 6 ∧ ms + mf = 0))
theorem l534_I {ms mf Kd : Nat} {r : Int32} (hL : LKW γ ρ n np) (h20 : np ≤ 20) (hK : 1 ≤ Kd ∧ Kd ≤ 7) (hms : γ 7 0 = nI ms) (hm4 : ms ≤ 4) (hmf : γ 9 0 = nI mf) (hf4 : mf ≤ 4) (h1 : OFI np ms mf Kd → r = nI n ∧ jL_law_701 L xs κ post σ ν ρ x6 x8 x9 (nI i) (nI X) (nI Y) 0 r 1) (h0 : ¬ OFI np ms mf Kd → r = -1383 ∧ jL_law_701 L xs κ post σ ν ρ x6 x8 x9 (nI i) (nI X) (nI Y) 0 (-1383) 1) : jL_law_534 L xs κ post σ ν ρ x6 x8 x9 (nI i) (nI X) (nI Y) 0 (nI Kd) r 1 := by
  obtain ⟨-, e2, e3, -, -, hN, -⟩ := hL
  have l2 : ρ 0 ((2 : Int32)).toNatClampNeg = nI n := e2
  have l3 : ρ 0 ((3 : Int32)).toNatClampNeg = nI np := e3
  have l8 : ρ 0 ((8 : Int32)).toNatClampNeg = nI ms := hN.1.trans hms
  have l9 : ρ 0 ((9 : Int32)).toNatClampNeg = nI mf := hN.2.1.trans hmf
  have v8 : vp_in (8 : Int32) 14 := k14 (i := 8) (by decide)
  have v9 : vp_in (9 : Int32) 14 := k14 (i := 9) (by decide)
  have yes : OFI np ms mf Kd → jL_law_659 L xs κ post σ ν ρ x6 x8 x9 (nI i) (nI X) (nI Y) 0 r 1 1 := fun z => by
    obtain ⟨e1, k⟩ := h1 z
    unfold jL_law_659
    rw [if_neg z1I, if_neg z1I, if_pos z0I]
    exact ⟨k14 (i := 2) (by decide), l693 (e1.trans l2.symm) k⟩
  have no : ¬ OFI np ms mf Kd → jL_law_659 L xs κ post σ ν ρ x6 x8 x9 (nI i) (nI X) (nI Y) 0 r 1 0 := fun z => by
    obtain ⟨e1, k⟩ := h0 z
    rw [e1]
    exact l659_no (Or.inr z0I) k
  unfold jL_law_534
  rw [if_pos z0I]
  refine ⟨k14 (i := 3) (by decide), ?_⟩
  rw [l3, l8, l9, nI_add, ti_n (show np < 2147483648 by omega), ti_n (show ms < 2147483648 by omega), ti_n (show mf < 2147483648 by omega), ti_n (show Kd < 2147483648 by omega), ti_n (show ms + mf < 2147483648 by omega)]
  unfold OFI at yes no
  by_cases c0 : np = 0
  · rw [if_pos (by omega)]
    exact no (by omega)
  rw [if_neg (by omega)]
  by_cases k1 : Kd = 1
  · rw [if_pos (by omega)]
    refine ⟨v9, ?_⟩
    by_cases c : mf = 0
    · rw [if_pos (by omega)]; exact no (by omega)
    · rw [if_neg (by omega)]; exact yes (by omega)
  rw [if_neg (by omega)]
  by_cases k2 : Kd = 2
  · rw [if_pos (by omega)]
    refine ⟨v8, ?_⟩
    by_cases c : ms = 0
    · rw [if_pos (by omega)]; exact no (by omega)
    · rw [if_neg (by omega)]; exact yes (by omega)
  rw [if_neg (by omega)]
  by_cases k3 : Kd = 3
  · rw [if_pos (by omega)]
    refine ⟨v8, ?_⟩
    by_cases c : ms = 0
    · rw [if_pos (by omega)]; exact no (by omega)
    · rw [if_neg (by omega)]
      refine ⟨v9, ?_⟩
      by_cases c2 : mf = 0
      · rw [if_pos (by omega)]; exact yes (by omega)
      · rw [if_neg (by omega)]; exact no (by omega)
  rw [if_neg (by omega)]
  by_cases k7 : Kd = 7
  · rw [if_pos (by omega)]
    refine ⟨v8, ?_⟩
    by_cases c : ms = 0
    · rw [if_pos (by omega)]; exact yes (by omega)
    · rw [if_neg (by omega)]; exact no (by omega)
  rw [if_neg (by omega)]
  refine ⟨v8, v9, ?_⟩
  by_cases c : ms + mf = 0
  · rw [if_pos (by omega)]; exact yes (by omega)
  · rw [if_neg (by omega)]; exact no (by omega)
theorem lE {to m : Int32} {N Lb : Nat} (hI : IV i σ ν γ ρ n np x6 x8 x9) (K : KK i κ) (hX : X < 2147483648) (hY : Y < 2147483648) (hi : i < 130) (hto : to = -1 ∨ ∃ q, q < np ∧ to = nI q) (hN : 1 ≤ N ∧ N ≤ 99) (hb : Lb ≤ 728 ∧ (Lb = 0 ∨ Lb % 27 ≠ 0)) : wpL_does_3 σ ν ρ to (nI N) (nI Lb) 0 (fun r t v => jL_law_510 L xs κ post t v ρ x6 x8 x9 (nI i) (nI X) (nI Y) 1 m r) := by
  obtain ⟨hS, hL, -⟩ := id hI
  have h20 := hS.h8.2.1
  have h40 := hS.h8.1
  have ok1 : to = -1 ∨ (0 ≤ to.toInt ∧ to.toInt < np) := by
    rcases hto with e | ⟨q, hq, e⟩
    · exact Or.inl e
    · exact Or.inr (by rw [e, ti_n (by omega)]; omega)
  have ok2 : okLab (nI N) (nI Lb) := ⟨N, Lb, hN.1, hN.2, hb.1, hb.2, rfl, rfl⟩
  obtain ⟨ms, hm4, hms⟩ : ∃ ms : Nat, ms ≤ 4 ∧ γ 7 0 = nI ms := hS.1.2.2.2.2.2.1.2.2.1
  have m0 : γ 7 0 = nI 0 ↔ ms = 0 := ⟨fun z => nI_inj (by omega) (by decide) (hms.symm.trans z), fun z => by rw [hms, z]⟩
  refine zc_enact hS (fun z => absurd ok1 z) (fun _ z => absurd ok2 z) (fun _ _ hno => ?_) (fun _ _ hyes a ha0 ha ea e9 σ1 ν1 hS1 => ?_)
  · have k := l701_no (L := L) (xs := xs) (post := post) (e := 1) hI K hX hY
    refine l510 hL h40 (fun _ => ⟨rfl, k⟩) (fun ho => l534_E hL h20 hms hm4 (fun z => absurd ⟨ho, z.1, m0.mpr z.2⟩ hno) (fun _ => ⟨rfl, k⟩))
  · have k := l701_yes (L := L) (xs := xs) (post := post) (e := 1) hI K hX hY hi (Nat.le_refl _) rfl (show np < 100 by omega) hyes.1.1 ha0 ha ea e9 rfl hS1
    refine l510 hL h40 (fun z => absurd hyes.1 z) (fun _ => l534_E hL h20 hms hm4 (fun _ => ⟨rfl, k⟩) (fun z => absurd ⟨hyes.2.1, m0.mp hyes.2.2⟩ z))
theorem lI {of p3 p4 : Int32} {Kd : Nat} (hI : IV i σ ν γ ρ n np x6 x8 x9) (K : KK i κ) (hX : X < 2147483648) (hY : Y < 2147483648) (hi : i < 130) (hnp : 0 < np) (hK : 1 ≤ Kd ∧ Kd ≤ 7) (hok : okI9 n np (nI Kd) of p3) (hlab : nI Kd = 4 → okLab p3 p4) : wpL_does_4 σ ν ρ (nI Kd) of p3 p4 (fun r t v => jL_law_510 L xs κ post t v ρ x6 x8 x9 (nI i) (nI X) (nI Y) 0 (nI Kd) r) := by
  obtain ⟨hS, hL, -⟩ := id hI
  have h20 := hS.h8.2.1
  have h40 := hS.h8.1
  have ok2 : (1 ≤ (nI Kd).toInt ∧ (nI Kd).toInt ≤ 7) ∧ (nI Kd = 4 → okLab p3 p4) := ⟨by rw [ti_n (by omega)]; omega, hlab⟩
  have hof : ∀ ms mf, ¬ lk9 (nI Kd).toInt ms mf ∧ ¬ ex9 (nI Kd).toInt ms mf ↔ OFI np ms mf Kd := fun ms mf => by
    unfold lk9 ex9 OFI
    rw [ti_n (by omega)]
    omega
  refine zc_instruct hS (fun z => absurd hok z) (fun _ z => absurd ok2 z) (fun _ _ ms mf hm4 hf4 hms hmf hno => ?_) (fun _ _ ms mf hm4 hf4 hms hmf hyes a ha0 ha ea e9 la σ1 ν1 hS1 => ?_)
  · have k := l701_no (L := L) (xs := xs) (post := post) (e := 0) hI K hX hY
    refine l510 hL h40 (fun _ => ⟨rfl, k⟩) (fun ho => l534_I hL h20 hK hms hm4 hmf hf4 (fun z => absurd ⟨ho, (hof ms mf).mpr z⟩ hno) (fun _ => ⟨rfl, k⟩))
  · have e12 : lay9 n a γ (nI Kd) of p3 la = u2 (lay9 n a γ (nI Kd) of p3 la) 12 0 (nI np) := by
      have : lay9 n a γ (nI Kd) of p3 la 12 0 = nI np := hS.h8.2.2.2.1
      rw [← this, u2_same]
    have k := l701_yes (L := L) (xs := xs) (post := post) (e := 0) (np1 := np) hI K hX hY hi (by decide) rfl (show n < 100 by omega) hyes.1.1 ha0 ha ea e9 e12 hS1
    refine l510 hL h40 (fun z => absurd hyes.1 z) (fun _ => l534_I hL h20 hK hms hm4 hmf hf4 (fun _ => ⟨rfl, k⟩) (fun z => absurd ((hof ms mf).mp hyes.2) z))
theorem l399 {e of to : Int32} {Kd : Nat} (hI : IV i σ ν γ ρ n np x6 x8 x9) (K : KK i κ) (hX : X < 2147483648) (hY : Y < 2147483648) (hi : i < 130) (he : e = 0 ∨ e = 1) (hK : 1 ≤ Kd ∧ Kd ≤ 7) (hof : 0 < np → (Kd = 7 → 0 ≤ of.toInt ∧ of.toInt < n) ∧ (Kd ≠ 7 → 0 ≤ of.toInt ∧ of.toInt < np)) (hto : to = -1 ∨ ∃ q, q < np ∧ to = nI q) : jL_law_399 L xs κ post σ ν ρ x6 x8 x9 (nI i) (nI X) (nI Y) e (nI Kd) of to := by
  obtain ⟨hS, hL, -⟩ := id hI
  have h20 := hS.h8.2.1
  have h40 := hS.h8.1
  have l3 : ρ 0 ((3 : Int32)).toNatClampNeg = nI np := hL.2.2.1
  have m1 : ((1 : Int32)) + (nI Y - nI Y / ((6 : Int32)) * ((6 : Int32))) = nI (1 + Y % 6) := by
    rw [show nI Y - nI Y / (6 : Int32) * (6 : Int32) = nI (Y % 6) from md9 (by omega) (by decide) (by decide), li1, nI_add]
  have m0 : nI Y / (24 : Int32) = nI (Y / 24) := pk_div (by omega) (by decide) (by decide)
  have m6 : nI Y / (6 : Int32) = nI (Y / 6) := pk_div (by omega) (by decide) (by decide)
  have m2 : ((28 : Int32)) + (nI (Y / 24) - nI (Y / 24) / ((5 : Int32)) * ((5 : Int32))) = nI (28 + Y / 24 % 5) := by
    rw [show nI (Y / 24) - nI (Y / 24) / (5 : Int32) * (5 : Int32) = nI (Y / 24 % 5) from md9 (by omega) (by decide) (by decide), show (28 : Int32) = nI 28 from rfl, nI_add]
  have m3 : nI (Y / 24) - nI (Y / 24) / ((3 : Int32)) * ((3 : Int32)) = nI (Y / 24 % 3) := md9 (by omega) (by decide) (by decide)
  have m4 : nI (Y / 6) - nI (Y / 6) / ((3 : Int32)) * ((3 : Int32)) = nI (Y / 6 % 3) := md9 (by omega) (by decide) (by decide)
  unfold jL_law_399
  rcases he with rfl | rfl
  · rw [if_pos z0I]
    refine ⟨k14 (i := 3) (by decide), ?_⟩
    rw [l3, ti_n (show np < 2147483648 by omega)]
    by_cases c : np = 0
    · rw [if_pos (by omega)]
      have k := l701_no (L := L) (xs := xs) (post := post) (e := 0) hI K hX hY
      obtain ⟨ms, hm4, hms⟩ : ∃ ms : Nat, ms ≤ 4 ∧ γ 7 0 = nI ms := hS.1.2.2.2.2.2.1.2.2.1
      obtain ⟨mf, hf4, hmf⟩ : ∃ mf : Nat, mf ≤ 4 ∧ γ 9 0 = nI mf := hS.1.2.2.2.2.2.1.2.2.2.2.1
      exact l510 hL h40 (fun _ => ⟨rfl, k⟩) (fun ho => l534_I hL h20 hK hms hm4 hmf hf4 (fun z => absurd z.1 (by omega)) (fun _ => ⟨rfl, k⟩))
    · rw [if_neg (by omega), ti_n (show Kd < 2147483648 by omega)]
      obtain ⟨o7, o8⟩ := hof (by omega)
      have k7 : nI Kd = 7 ↔ Kd = 7 := ⟨fun z => nI_inj (by omega) (by decide) (z.trans (show (7 : Int32) = nI 7 from rfl)), fun z => by rw [z]; rfl⟩
      have k4 : nI Kd = 4 ↔ Kd = 4 := ⟨fun z => nI_inj (by omega) (by decide) (z.trans (show (4 : Int32) = nI 4 from rfl)), fun z => by rw [z]; rfl⟩
      have k5 : nI Kd = 5 ↔ Kd = 5 := ⟨fun z => nI_inj (by omega) (by decide) (z.trans (show (5 : Int32) = nI 5 from rfl)), fun z => by rw [z]; rfl⟩
      by_cases c4 : Kd = 4
      · rw [if_pos (by omega), m1]
        unfold jL_law_490
        rw [if_pos (by rw [ti_n (by omega)]; omega), m6, m4]
        exact lI hI K hX hY hi (by omega) hK ⟨fun z => o7 (k7.mp z), fun z => o8 (fun w => z (k7.mpr w)), fun z => absurd (k5.mp z) (by omega)⟩ (fun _ => ⟨1 + Y % 6, Y / 6 % 3, by omega, by omega, by omega, by omega, rfl, rfl⟩)
      · rw [if_neg (by omega)]
        unfold jL_law_490
        rw [if_neg (by rw [ti_n (by omega)]; omega)]
        refine lI hI K hX hY hi (by omega) hK ⟨fun z => o7 (k7.mp z), fun z => o8 (fun w => z (k7.mpr w)), fun _ => ?_⟩ (fun z => absurd (k4.mp z) c4)
        rcases hto with e | ⟨q, hq, e⟩
        · exact Or.inl e
        · exact Or.inr (by rw [e, ti_n (by omega)]; omega)
  · rw [if_neg z1I, m0, m1, m2, m3]
    exact i_both (lE hI K hX hY hi hto (by omega) (by omega)) (lE hI K hX hY hi hto (by omega) (by omega))
theorem l372 {e of : Int32} {Kd : Nat} (hI : IV i σ ν γ ρ n np x6 x8 x9) (K : KK i κ) (hX : X < 2147483648) (hY : Y < 2147483648) (hi : i < 130) (he : e = 0 ∨ e = 1) (hK : 1 ≤ Kd ∧ Kd ≤ 7) (hof : 0 < np → (Kd = 7 → 0 ≤ of.toInt ∧ of.toInt < n) ∧ (Kd ≠ 7 → 0 ≤ of.toInt ∧ of.toInt < np)) : jL_law_372 L xs κ post σ ν ρ x6 x8 x9 (nI i) (nI X) (nI Y) e (nI Kd) of := by
  have h20 := hI.1.h8.2.1
  have l3 : ρ 0 ((3 : Int32)).toNatClampNeg = nI np := hI.2.1.2.2.1
  have v3 : vp_in (3 : Int32) 14 := k14 (i := 3) (by decide)
  have top := l399 (L := L) (xs := xs) (post := post) (to := -1) hI K hX hY hi he hK hof (Or.inl rfl)
  unfold jL_law_372
  refine ⟨v3, ?_⟩
  rw [l3, ti_n (show np < 2147483648 by omega)]
  by_cases c : np = 0
  · rw [if_pos (by omega)]
    exact top
  · rw [if_neg (by omega)]
    refine i_both ⟨v3, ?_, ?_⟩ top
    · intro z
      have := congrArg Int32.toInt z
      rw [ti_n (by omega), z0I] at this
      omega
    · have m5 : (nI Y / ((5 : Int32))) - (nI Y / ((5 : Int32))) / (nI np) * (nI np) = nI (Y / 5 % np) := by
        rw [show nI Y / (5 : Int32) = nI (Y / 5) from pk_div (by omega) (by decide) (by decide)]
        exact md9 (by omega) (by omega) (by omega)
      rw [m5]
      exact l399 hI K hX hY hi he hK hof (Or.inr ⟨Y / 5 % np, Nat.mod_lt _ (by omega), rfl⟩)
theorem l339 {e : Int32} {Kd k : Nat} (hI : IV i σ ν γ ρ n np x6 x8 x9) (K : KK i κ) (hX : X < 2147483648) (hY : Y < 2147483648) (hi : i < 130) (he : e = 0 ∨ e = 1) (hK : 1 ≤ Kd ∧ Kd ≤ 7) (hk : 0 < n → k < n) : jL_law_339 L xs κ post σ ν ρ x6 x8 x9 (nI i) (nI X) (nI Y) (nI k) e (nI Kd) := by
  have h20 := hI.1.h8.2.1
  have h40 := hI.1.h8.1
  have hpn := hI.2.2.1
  have l3 : ρ 0 ((3 : Int32)).toNatClampNeg = nI np := hI.2.1.2.2.1
  have v3 : vp_in (3 : Int32) 14 := k14 (i := 3) (by decide)
  unfold jL_law_339
  rw [ti_n (show Kd < 2147483648 by omega)]
  by_cases c7 : Kd = 7
  · rw [if_pos (by omega)]
    refine l372 hI K hX hY hi he hK (fun h0 => ⟨fun _ => ?_, fun z => absurd c7 z⟩)
    have := hk (by omega)
    rw [ti_n (by omega)]
    omega
  · rw [if_neg (by omega)]
    refine ⟨v3, ?_⟩
    rw [l3, ti_n (show np < 2147483648 by omega)]
    by_cases c : np = 0
    · rw [if_pos (by omega)]
      exact l372 hI K hX hY hi he hK (fun h0 => absurd h0 (by omega))
    · rw [if_neg (by omega)]
      refine ⟨v3, ?_, ?_⟩
      · intro z
        have := congrArg Int32.toInt z
        rw [ti_n (by omega), z0I] at this
        omega
      · have m5 : (nI Y / ((64 : Int32))) - (nI Y / ((64 : Int32))) / (nI np) * (nI np) = nI (Y / 64 % np) := by
          rw [show nI Y / (64 : Int32) = nI (Y / 64) from pk_div (by omega) (by decide) (by decide)]
          exact md9 (by omega) (by omega) (by omega)
        have hm : Y / 64 % np < np := Nat.mod_lt _ (by omega)
        rw [m5]
        refine l372 hI K hX hY hi he hK (fun h0 => ⟨fun z => absurd z c7, fun _ => ?_⟩)
        rw [ti_n (by omega)]
        omega
theorem l275 {e : Int32} {Z k : Nat} (hI : IV i σ ν γ ρ n np x6 x8 x9) (K : KK i κ) (hX : X < 2147483648) (hY : Y < 2147483648) (hi : i < 130) (he : e = 0 ∨ e = 1) (hk : 0 < n → k < n) : jL_law_275 L xs κ post σ ν ρ x6 x8 x9 (nI i) (nI X) (nI Z) (nI Y) (nI k) e := by
  have m7 : (nI Y / ((7 : Int32))) - (nI Y / ((7 : Int32))) / ((2 : Int32)) * ((2 : Int32)) = nI (Y / 7 % 2) := by
    rw [show nI Y / (7 : Int32) = nI (Y / 7) from pk_div (by omega) (by decide) (by decide)]
    exact md9 (by omega) (by decide) (by decide)
  unfold jL_law_275
  rw [m7, show (3 : Int32) = nI 3 from rfl, show (5 : Int32) = nI 5 from rfl, nI_add, nI_add]
  exact i_both (l339 (Kd := 1) hI K hX hY hi he (by decide) hk) (i_both (l339 (Kd := 2) hI K hX hY hi he (by decide) hk) (i_both (l339 hI K hX hY hi he (by omega) hk) (i_both (l339 hI K hX hY hi he (by omega) hk) (l339 (Kd := 7) hI K hX hY hi he (by decide) hk))))
end LAWC
