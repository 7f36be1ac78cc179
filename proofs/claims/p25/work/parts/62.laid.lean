/-! With one instruction more, both stand side by side again. -/
theorem wds_congr {n : Int32} {g g' : Nat → Int32} (h : ∀ k, k < n.toNatClampNeg → g k = g' k) : wds n g = wds n g' := by
  unfold wds
  exact List.map_congr_left (fun k hk => h k (List.mem_range.mp hk))
theorem nI_ne {a b : Nat} (ha : a < 2147483648) (hb : b < 2147483648) (h : a ≠ b) : nI a ≠ nI b := fun e => h (nI_inj ha hb e)
set_option maxRecDepth 100000 in
set_option maxHeartbeats 2000000 in
theorem SIMD_lay {σ0 σ σ' σ9 : SG} {ν ν' : NU} {ρ ρ' ρ9 : RH} {n np np' a K p : Nat} {of fi la : Int32} (h : SIM σ0 ν ρ n np) (hσ : ∀ x y, ¬ (x = 3 ∧ y = n) → σ x y = σ0 x y) (hA : ADDED n σ σ' ν ν' (nI K) of) (hs : ∀ x y, ¬ (x = 0 ∧ y = 0) → σ9 x y = σ' x y) (hs0 : ∀ c, c ≠ 7 → σ9 0 0 c = σ' 0 0 c) (hs7 : σ9 0 0 7 = nI np')
    (hLd : LAID n a ρ ρ' (nI K) of fi la) (hr : ∀ j, j ≠ 12 → ρ9 j = ρ' j) (h12 : ρ9 12 0 = nI np') (hnp : np ≤ np') (hnp' : np' ≤ 20) (hn : n < 40) (ha1 : ρ 1 0 = nI a) (ha9 : a ≤ 10) (ha0 : 0 < a) (hday : ρ 2 (a - 1) = ρ 0 0)
    (hK : K ≤ 7) (hof : of = nI p) (hp7 : K = 7 → p < n) (hpp : K ≠ 7 → p < np') (hfi : K = 0 ∨ K = 5 → fi = -1 ∨ ∃ q, q < 20 ∧ fi = nI q) (h2 : K = 2 → ρ 7 0 ≠ 0) (hla : K = 0 ∨ K = 4 → okl la) (h0 : K = 0 → np ≤ p) (t5 : K = 0 ∨ K = 5 → σ 3 n 5 = fi) (t6 : K = 0 ∨ K = 4 → σ 3 n 6 = la) : SIMD σ9 ν' ρ9 (n + 1) np' := by
  obtain ⟨⟨hD, hC, ⟨b1, b2, b3, b4, b5, b6⟩, h7, hAd, hX, h5⟩, hV⟩ := id h
  obtain ⟨⟨A0, A1, A2, A3, A4, A5, A6⟩, B3, B4, B4n, B6, B6n, Bo, BL, n99, n991, n03, n3, n3n, n7, n13, bclo⟩ := hA
  obtain ⟨r13, r14, r15, r16, r17, r18, r19, r20, r21, r22, r23, r24, r25, r26, r28, r30, r7, r9, r11, ro⟩ := hLd
  obtain ⟨d1, d2, a', d3, d4, d5, d6, d7, d8, d9⟩ := id hAd
  have haa : a = a' := nI_inj (by omega) (by omega) (ha1.symm.trans d4)
  subst haa
  obtain ⟨x1, x2, ⟨ms, hms, es⟩, x4, ⟨mf, hmf, ef⟩, x6, x7, x8, x9, x10⟩ := id hX
  have x4' := x4
  have x6' := x6
  rw [es] at x4'
  rw [ef] at x6'
  -- the rows as they are at the end
  have s3 : ∀ i, i ≤ n → σ9 3 i = σ' 3 i := fun i _ => hs 3 i (fun z => by omega)
  have so : ∀ x y, x ≠ 0 → x ≠ 3 → x ≠ 4 → x ≠ 6 → x ≠ 22 → ¬ (x = 7 ∧ y = 0) → σ9 x y = σ0 x y := fun x y q0 q3 q4 q6 q22 q7 => by rw [hs x y (fun z => q0 z.1), Bo x y q3 q4 q6 q22 q7, hσ x y (fun z => q3 z.1)]
  have s00 : ∀ c, c ≠ 7 → σ9 0 0 c = σ0 0 0 c := fun c hc => by rw [hs0 c hc, Bo 0 0 (by decide) (by decide) (by decide) (by decide) (fun z => by omega), hσ 0 0 (fun z => by omega)]
  have sph : ∀ q s, q < 2 * n + 2 → PH σ0 q s → PH σ9 q s := fun q s hq hp => by
    unfold PH at *
    rw [hs 4 q (fun z => by omega), hs 22 q (fun z => by omega), (B4 q hq).1, (B4 q hq).2, hσ 4 q (fun z => by omega), hσ 22 q (fun z => by omega)]
    exact hp
  have s6 : ∀ q, q < 3 * n + 3 → σ9 6 q = σ0 6 q := fun q hq => by rw [hs 6 q (fun z => by omega), B6 q hq, hσ 6 q (fun z => by omega)]
  have R : ∀ j, j ≠ 7 → j ≠ 9 → j ≠ 11 → j ≠ 12 → (j < 13 ∨ j = 27 ∨ j = 29 ∨ 31 ≤ j) → ρ9 j = ρ j := fun j q1 q2 q3 q4 q5 => by rw [hr j q4, ro j q1 q2 q3 q4 q5]
  have w7 : (ρ 7 0).toNatClampNeg = ms := by rw [es, cl_n (by omega)]
  have w9 : (ρ 9 0).toNatClampNeg = mf := by rw [ef, cl_n (by omega)]
  have e18n : ρ9 18 n = nI ms := by rw [hr 18 (by decide), r18, if_pos rfl]; exact es
  have e20n : ρ9 20 n = nI mf := by rw [hr 20 (by decide), r20, if_pos rfl]; exact ef
  have e19n : ∀ k, k < 4 → ρ9 19 (4 * n + k) = ρ 8 k := fun k hk => by rw [hr 19 (by decide), r19, if_pos ⟨by omega, by omega⟩, Nat.add_sub_cancel_left]
  have e21n : ∀ k, k < 4 → ρ9 21 (4 * n + k) = ρ 10 k := fun k hk => by rw [hr 21 (by decide), r21, if_pos ⟨by omega, by omega⟩, Nat.add_sub_cancel_left]
  have e19 : ∀ i k, i < n → k < 4 → ρ9 19 (4 * i + k) = ρ 19 (4 * i + k) := fun i k hi hk => by rw [hr 19 (by decide), r19, if_neg (by omega)]
  have e21 : ∀ i k, i < n → k < 4 → ρ9 21 (4 * i + k) = ρ 21 (4 * i + k) := fun i k hi hk => by rw [hr 21 (by decide), r21, if_neg (by omega)]
  have lt : ∀ {j : Nat} {v : Int32}, (j ≠ 12) → (∀ i, ρ' j i = if i = n then v else ρ j i) → ∀ i, i < n → ρ9 j i = ρ j i := fun hj hrow i hi => by rw [hr _ hj, hrow, if_neg (by omega)]
  have pvn : pv9 ρ9 n = p := by
    unfold pv9
    rw [hr 15 (by decide), r15, if_pos rfl, hof, cl_n]
    by_cases q : K = 7
    · have := hp7 q; omega
    · have := hpp q; omega
  have pvi : ∀ i, i < n → pv9 ρ9 i = pv9 ρ i := fun i hi => by unfold pv9; rw [lt (by decide) r15 i hi]
  have pb : p < 2147483648 := by
    by_cases q : K = 7
    · have := hp7 q; omega
    · have := hpp q; omega
  have e13n : ρ9 13 n = nI K := by rw [hr 13 (by decide), r13, if_pos rfl]
  have kk : ∀ m, m < 8 → ρ9 13 n = nI m → K = m := fun m hm e => nI_inj (by omega) (by omega) (e13n.symm.trans e)
  have sw : ∀ i, i < n → sw9 ρ9 i = sw9 ρ i := fun i hi => by
    obtain ⟨⟨m, hm, em⟩, -⟩ := hD.2.2.2.2.1 i hi
    unfold sw9
    rw [lt (by decide) r18 i hi]
    exact wds_congr (fun k hk => e19 i k hi (by rw [em, cl_n (by omega)] at hk; omega))
  have aw : ∀ i, i < n → aw9 ρ9 i = aw9 ρ i := fun i hi => by
    obtain ⟨-, ⟨m, hm, em⟩, -⟩ := hD.2.2.2.2.1 i hi
    unfold aw9
    rw [lt (by decide) r20 i hi]
    exact wds_congr (fun k hk => e21 i k hi (by rw [em, cl_n (by omega)] at hk; omega))
  have swn : sw9 ρ9 n = wds (ρ 7 0) (ρ 8) := by
    unfold sw9
    rw [e18n, es]
    exact wds_congr (fun k hk => e19n k (by rw [cl_n (by omega)] at hk; omega))
  have awn : aw9 ρ9 n = wds (ρ 9 0) (ρ 10) := by
    unfold aw9
    rw [e20n, ef]
    exact wds_congr (fun k hk => e21n k (by rw [cl_n (by omega)] at hk; omega))
  have hDat : DAT (n + 1) np' ρ9 := by
    refine ⟨by omega, hnp', by rw [hr 11 (by decide)]; exact r11, h12, fun i hi => ?_, fun i j hi hj ki kj e => ?_, fun w i hw hi => ?_⟩
    · by_cases q : i = n
      · subst q
        refine ⟨⟨ms, hms, e18n⟩, ⟨mf, hmf, e20n⟩, ⟨K, hK, e13n⟩, by rw [pvn, hr 15 (by decide), r15, if_pos rfl]; exact hof, fun z => by rw [pvn]; exact hp7 (kk 7 (by decide) z), fun z => by rw [pvn]; exact hpp (fun w => z (by rw [e13n, w]; rfl)), fun z => ?_, fun z => ?_, fun z => ?_, fun k hk => by rw [e21n k hk]; exact x7 k hk, ?_, fun z => ?_, fun z => ?_, fun z => ?_, a - 1, by omega, by rw [hr 14 (by decide), r14, if_pos rfl]⟩
        · rw [hr 16 (by decide), r16, if_pos rfl]
          exact hfi (z.imp (kk 0 (by decide)) (kk 5 (by decide)))
        · rw [e18n, ← es]
          exact h2 (kk 2 (by decide) z)
        · rw [hr 17 (by decide), r17, if_pos rfl]
          exact hla (z.imp (kk 0 (by decide)) (kk 4 (by decide)))
        · rw [hr 22 (by decide), r22, if_pos rfl]; exact x2.1
        · rw [hr 22 (by decide), r22, if_pos rfl] at z
          rw [hr 23 (by decide), r23, if_pos rfl]
          exact x2.2.1 z
        · rw [hr 22 (by decide), r22, if_pos rfl] at z
          rw [hr 23 (by decide), r23, if_pos rfl]
          exact x2.2.2 z
        · rw [hr 26 (by decide), r26, if_pos rfl] at z
          exact absurd rfl z
      · have hi : i < n := by omega
        obtain ⟨i1, i2, i3, i4, i5, i6, i7, i8, i9, i10, i11, i12, i13, i14, i15⟩ := hD.2.2.2.2.1 i hi
        unfold IDT
        rw [lt (by decide) r18 i hi, lt (by decide) r20 i hi, lt (by decide) r13 i hi, lt (by decide) r15 i hi, pvi i hi, lt (by decide) r16 i hi, lt (by decide) r17 i hi, lt (by decide) r22 i hi, lt (by decide) r23 i hi, lt (by decide) r26 i hi, R 27 (by decide) (by decide) (by decide) (by decide) (by omega), lt (by decide) r14 i hi]
        exact ⟨i1, i2, i3, i4, i5, fun z => by have := i6 z; omega, i7, i8, i9, fun k hk => by rw [e21 i k hi hk]; exact i10 k hk, i11, i12, i13, i14, i15⟩
    · by_cases qi : i = n
      · by_cases qj : j = n
        · rw [qi, qj]
        · exfalso
          subst qi
          rw [pvn, pvi j (by omega)] at e
          obtain ⟨-, -, -, -, -, j6, -⟩ := hD.2.2.2.2.1 j (by omega)
          rw [lt (by decide) r13 j (by omega)] at kj
          have := j6 (by rw [kj]; decide)
          have := h0 (kk 0 (by decide) ki)
          omega
      · by_cases qj : j = n
        · exfalso
          subst qj
          rw [pvn, pvi i (by omega)] at e
          obtain ⟨-, -, -, -, -, j6, -⟩ := hD.2.2.2.2.1 i (by omega)
          rw [lt (by decide) r13 i (by omega)] at ki
          have := j6 (by rw [ki]; decide)
          have := h0 (kk 0 (by decide) kj)
          omega
        · rw [pvi i (by omega), pvi j (by omega)] at e
          rw [lt (by decide) r13 i (by omega)] at ki
          rw [lt (by decide) r13 j (by omega)] at kj
          exact hD.2.2.2.2.2.1 i j (by omega) (by omega) ki kj e
    · rw [R 2 (by decide) (by decide) (by decide) (by decide) (by omega)]
      have act : ∀ q, q ≤ n → ∃ b, b < a ∧ ρ9 14 q = nI b ∧ (q = n → b = a - 1) := fun q hq => by
        by_cases z : q = n
        · exact ⟨a - 1, by omega, by rw [z, hr 14 (by decide), r14, if_pos rfl], fun _ => rfl⟩
        · obtain ⟨b, hb, e⟩ := d7 q (by omega)
          exact ⟨b, hb, by rw [lt (by decide) r14 q (by omega)]; exact e, fun w => absurd w z⟩
      by_cases z : i = n
      · obtain ⟨b, hb, eb, -⟩ := act w (by omega)
        obtain ⟨c, hc, ec, hcn⟩ := act i (by omega)
        rw [eb, ec, cl_n (by omega), cl_n (by omega)]
        exact d8 b c (by have := hcn z; omega) hc
      · rw [lt (by decide) r14 w (by omega), lt (by decide) r14 i (by omega)]
        exact hD.2.2.2.2.2.2 w i hw (by omega)
  have n3i : ∀ i, i ≤ n → ν' 3 i 7 = ν 3 i 7 := fun i hi => by rw [n3 i hi]
  have s5 : ∀ t, σ9 5 t = σ0 5 t := fun t => so 5 t (by decide) (by decide) (by decide) (by decide) (by decide) (fun z => by omega)
  have hCdt : CDT σ9 ν' ρ9 (n + 1) := by
    refine ⟨by rw [n99]; omega, fun i hi => ?_⟩
    by_cases q : i = n
    · subst q
      have w4 := b4.2.2.2 i (by omega)
      unfold CI
      rw [swn, awn, n3i i (Nat.le_refl _), s5, s3 i (Nat.le_refl _), A0, A1, A2, A3, A4, A5, A6, s6 (3 * i) (by omega), s6 (3 * i + 1) (by omega), s6 (3 * i + 2) (by omega), hr 14 (by decide), r14, if_pos rfl, hr 15 (by decide), r15, if_pos rfl, hr 16 (by decide), r16, if_pos rfl, hr 17 (by decide), r17, if_pos rfl, hr 22 (by decide), r22, if_pos rfl, hr 23 (by decide), r23, if_pos rfl, hr 24 (by decide), r24, if_pos rfl, hr 25 (by decide), r25, if_pos rfl, hr 26 (by decide), r26, if_pos rfl, hr 28 (by decide), r28, if_pos rfl, hr 30 (by decide), r30, if_pos rfl, R 2 (by decide) (by decide) (by decide) (by decide) (by omega), hσ 0 0 (fun z => by omega), e13n]
      refine ⟨rfl, ?_, ?_, rfl, rfl, fun z => t5 (z.imp (fun w => nI_inj (by omega) (by decide) w) (fun w => nI_inj (by omega) (by decide) w)), fun z => t6 (z.imp (fun w => nI_inj (by omega) (by decide) w) (fun w => nI_inj (by omega) (by decide) w)), sph _ _ (by omega) x4, sph _ _ (by omega) x6, by rw [n991]; exact w4, x1.1, x1.2.1, x1.2.2.1, x1.2.2.2, x8, fun z => absurd rfl z, x9, fun z => absurd rfl z, x10, fun z => absurd rfl z⟩
      · rw [d5, li1, pk_sub (by omega)]
      · rw [cl_n (by omega), hday]; exact d1
    · have hi : i < n := by omega
      have hci := hC.2 i hi
      unfold CI at *
      rw [sw i hi, aw i hi, n3i i (by omega), s5, s3 i (by omega), B3 i hi, hσ 3 i (fun z => by omega), s6 (3 * i) (by omega), s6 (3 * i + 1) (by omega), s6 (3 * i + 2) (by omega), lt (by decide) r14 i hi, lt (by decide) r15 i hi, lt (by decide) r16 i hi, lt (by decide) r17 i hi, lt (by decide) r22 i hi, lt (by decide) r23 i hi, lt (by decide) r24 i hi, lt (by decide) r25 i hi, lt (by decide) r26 i hi, lt (by decide) r28 i hi, lt (by decide) r30 i hi, lt (by decide) r13 i hi, R 2 (by decide) (by decide) (by decide) (by decide) (by omega), R 27 (by decide) (by decide) (by decide) (by decide) (by omega), R 29 (by decide) (by decide) (by decide) (by decide) (by omega), R 31 (by decide) (by decide) (by decide) (by decide) (by omega), R 32 (by decide) (by decide) (by decide) (by decide) (by omega)]
      obtain ⟨c1, c2, c3, c4, c5, c6, c7, c8, c9, c10, c11⟩ := hci
      exact ⟨c1, c2, c3, c4, c5, c6, c7, sph _ _ (by omega) c8, sph _ _ (by omega) c9, by rw [n991]; exact c10, c11⟩
  refine ⟨hDat, hCdt, ⟨n99, n03, BL.same (by rw [hs 7 0 (fun z => by omega)]) rfl rfl rfl, bclo, ?_, ?_⟩, hs7, ?_, ?_, ?_⟩
  · exact b5.same (by rw [so 7 1 (by decide) (by decide) (by decide) (by decide) (by decide) (fun z => by omega)]) (n7 1 (by decide))
  · exact b6.same (by rw [so 7 2 (by decide) (by decide) (by decide) (by decide) (by decide) (fun z => by omega)]) (n7 2 (by decide))
  · refine ⟨by rw [s00 4 (by decide), R 0 (by decide) (by decide) (by decide) (by decide) (by omega)]; exact d1, by rw [R 0 (by decide) (by decide) (by decide) (by decide) (by omega)]; exact d2, a, d3, by rw [R 1 (by decide) (by decide) (by decide) (by decide) (by omega)]; exact d4, by rw [s00 5 (by decide)]; exact d5, by rw [s00 6 (by decide), R 2 (by decide) (by decide) (by decide) (by decide) (by omega)]; exact d6, fun i hi => ?_, by rw [R 2 (by decide) (by decide) (by decide) (by decide) (by omega)]; exact d8, by rw [R 2 (by decide) (by decide) (by decide) (by decide) (by omega), R 0 (by decide) (by decide) (by decide) (by decide) (by omega)]; exact d9⟩
    by_cases q : i = n
    · exact ⟨a - 1, by omega, by rw [q, hr 14 (by decide), r14, if_pos rfl]⟩
    · obtain ⟨b, hb, e⟩ := d7 i (by omega)
      exact ⟨b, hb, by rw [lt (by decide) r14 i (by omega)]; exact e⟩
  · have e7 : ρ9 7 0 = nI 0 := by rw [hr 7 (by decide)]; exact r7
    have e9 : ρ9 9 0 = nI 0 := by rw [hr 9 (by decide)]; exact r9
    have z4 : ∀ b, (b = 2 * n + 2 ∨ b = 2 * n + 3) → σ9 4 b 1 = nI 0 := fun b hb => by rw [hs 4 b (fun z => by omega)]; exact (B4n b hb 1).1
    have z6 : ∀ b, (b = 3 * n + 3 ∨ b = 3 * n + 4 ∨ b = 3 * n + 5) → σ9 6 b 0 = -1 := fun b hb => by rw [hs 6 b (fun z => by omega)]; exact B6n b hb 0
    refine ⟨by rw [n3n, s5, R 3 (by decide) (by decide) (by decide) (by decide) (by omega), R 4 (by decide) (by decide) (by decide) (by decide) (by omega), R 5 (by decide) (by decide) (by decide) (by decide) (by omega), R 6 (by decide) (by decide) (by decide) (by decide) (by omega)]; exact x1, ?_, ⟨0, by omega, e7⟩, ?_, ⟨0, by omega, e9⟩, ?_, by rw [R 10 (by decide) (by decide) (by decide) (by decide) (by omega)]; exact x7, z6 _ (by omega), z6 _ (by omega), z6 _ (by omega)⟩
    · rw [R 3 (by decide) (by decide) (by decide) (by decide) (by omega), R 4 (by decide) (by decide) (by decide) (by decide) (by omega)]
      exact ⟨x2.1, x2.2.1, fun z => by obtain ⟨w, hw, e⟩ := x2.2.2 z; exact ⟨w, by omega, e⟩⟩
    · rw [e7]
      exact PH_wds (by omega) (z4 _ (by omega)) (fun k hk => absurd hk (Nat.not_lt_zero k))
    · rw [e9]
      exact PH_wds (by omega) (z4 _ (by omega)) (fun k hk => absurd hk (Nat.not_lt_zero k))
  · unfold VDY at *
    rw [R 33 (by decide) (by decide) (by decide) (by decide) (by omega), R 34 (by decide) (by decide) (by decide) (by decide) (by omega), R 35 (by decide) (by decide) (by decide) (by decide) (by omega), so 1 0 (by decide) (by decide) (by decide) (by decide) (by decide) (fun z => by omega)]
    exact h5
