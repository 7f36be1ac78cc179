/-! What the law counts, against the data: its four rows. -/
theorem bo_and (a b : Nat) : nI a &&& nI b = nI (a &&& b) := by
  apply Int32.toBitVec_inj.1
  show BitVec.ofNat 32 a &&& BitVec.ofNat 32 b = BitVec.ofNat 32 (a &&& b)
  apply BitVec.eq_of_getLsbD_eq
  intro i hi
  simp [hi]
theorem bo_or (a b : Nat) : nI a ||| nI b = nI (a ||| b) := by
  apply Int32.toBitVec_inj.1
  show BitVec.ofNat 32 a ||| BitVec.ofNat 32 b = BitVec.ofNat 32 (a ||| b)
  apply BitVec.eq_of_getLsbD_eq
  intro i hi
  simp [hi]
theorem bo_sum {a k : Nat} (b : Nat) (h : a < 2 ^ k) : nI a ||| nI (b * 2 ^ k) = nI (a + b * 2 ^ k) := by
  rw [bo_or, Nat.or_comm, Nat.mul_comm b, ← Nat.two_pow_add_eq_or_of_lt h, Nat.add_comm]
theorem bo_8191 (a : Nat) : nI a &&& (8191 : Int32) = nI (a % 8192) := by
  rw [show (8191 : Int32) = nI (2 ^ 13 - 1) from rfl, bo_and, Nat.and_two_pow_sub_one_eq_mod]
theorem bo_1 (a : Nat) : nI a &&& (1 : Int32) = nI (a % 2) := by
  rw [show (1 : Int32) = nI (2 ^ 1 - 1) from rfl, bo_and, Nat.and_two_pow_sub_one_eq_mod]
theorem sh_l3 {a : Nat} (h : a < 100000) : nI a <<< ((3 : Int32) &&& 31) = nI (a * 2 ^ 3) := pk_shlN _ 3 (by decide) (by omega)
theorem sh_l13 {a : Nat} (h : a < 200000) : nI a <<< ((13 : Int32) &&& 31) = nI (a * 2 ^ 13) := pk_shlN _ 13 (by decide) (by omega)
theorem sh_l16 {a : Nat} (h : a < 30000) : nI a <<< ((16 : Int32) &&& 31) = nI (a * 2 ^ 16) := pk_shlN _ 16 (by decide) (by omega)
theorem sh_r3 {a : Nat} (h : a < 2 ^ 31) : nI a >>> ((3 : Int32) &&& 31) = nI (a / 2 ^ 3) := pk_shrN h _ 3 (by decide)
theorem sh_r13 {a : Nat} (h : a < 2 ^ 31) : nI a >>> ((13 : Int32) &&& 31) = nI (a / 2 ^ 13) := pk_shrN h _ 13 (by decide)
theorem sh_r16 {a : Nat} (h : a < 2 ^ 31) : nI a >>> ((16 : Int32) &&& 31) = nI (a / 2 ^ 16) := pk_shrN h _ 16 (by decide)
theorem sh_te : ∀ t, t < 3 → (((nI t) &&& 31).toBitVec.smod 32).toNat = t := by decide +kernel
theorem sh_rt {a t : Nat} (h : a < 2 ^ 31) (ht : t < 3) : nI a >>> (nI t &&& 31) = nI (a / 2 ^ t) := pk_shrN h _ t (sh_te t ht)
theorem SIM.h8 {σ : SG} {ν : NU} {ρ : RH} {n np : Nat} (h : SIM σ ν ρ n np) : DAT n np ρ := h.1.1
/-- the law's number for how an instruction commences, for its terms, for its order -/
def HN (γ : RH) (i : Nat) (x : Int32) : Prop := ∃ hw wh : Nat, hw ≤ 2 ∧ wh < 80 ∧ γ 22 i = nI hw ∧ γ 23 i = nI wh ∧ x = nI (hw + 4 * wh)
def TN (γ : RH) (i : Nat) (x : Int32) : Prop := ∃ te md sn : Nat, te < 8 ∧ md ≤ 650 ∧ sn ≤ 90 ∧ γ 24 i = nI te ∧ γ 2 (γ 14 i).toNatClampNeg = nI md ∧ ((γ 25 i = -1 ∧ sn = 0) ∨ (0 < sn ∧ γ 25 i = nI (sn - 1))) ∧ x = nI (te + 8 * md + 65536 * sn)
def ON (γ : RH) (i : Nat) (x : Int32) : Prop := (γ 26 i = -1 ∧ x = 0) ∨ ∃ om od : Nat, om ≤ 650 ∧ od < 90 ∧ γ 26 i = nI om ∧ γ 27 i = nI od ∧ x = nI (od + 1 + 8192 * om)
def LKI (γ ρ : RH) (n : Nat) : Prop := (∀ i, i < n → HN γ i (ρ 1 i) ∧ TN γ i (ρ 2 i) ∧ ON γ i (ρ 3 i)) ∧ ∀ i, n ≤ i → i < 40 → ρ 3 i = 0
def LKV (γ ρ : RH) : Prop := ρ 0 5 = γ 33 0 ∧ ρ 0 6 = γ 34 0 ∧ ρ 0 7 = γ 35 0 ∧ (∃ k : Nat, k ≤ 650 ∧ γ 34 0 = nI k) ∧ (∃ d : Nat, d < 100 ∧ γ 33 0 = nI d) ∧ ∃ t : Nat, t < 3 ∧ γ 35 0 = nI t
def LKN (γ ρ : RH) : Prop := ρ 0 8 = γ 7 0 ∧ ρ 0 9 = γ 9 0 ∧ ρ 0 10 = γ 3 0 ∧ ρ 0 11 = γ 4 0 ∧ ρ 0 12 = γ 5 0 ∧ ρ 0 13 = γ 6 0 ∧ (∃ hw wh : Nat, hw ≤ 2 ∧ wh < 80 ∧ γ 3 0 = nI hw ∧ γ 4 0 = nI wh) ∧ (∃ te : Nat, te < 8 ∧ γ 5 0 = nI te) ∧ (γ 6 0 = -1 ∨ ∃ s : Nat, s < 90 ∧ γ 6 0 = nI s)
def LKA (γ ρ : RH) : Prop := ∃ a : Nat, a ≤ 10 ∧ γ 1 0 = nI a ∧ ρ 0 1 = nI a ∧ ρ 0 4 = (if a = 0 then -1 else γ 2 (a - 1)) ∧ ∀ b, b < a → ∃ md : Nat, md ≤ 650 ∧ γ 2 b = nI md
def LKW (γ ρ : RH) (n np : Nat) : Prop := (∃ T : Nat, T ≤ 650 ∧ γ 0 0 = nI T ∧ ρ 0 0 = nI T) ∧ ρ 0 2 = nI n ∧ ρ 0 3 = nI np ∧ LKA γ ρ ∧ LKV γ ρ ∧ LKN γ ρ ∧ LKI γ ρ n
theorem k14 {i : Nat} (h : i < 14) : vp_in (nI i) 14 := vi_n h (by decide)
theorem HN_mod {γ : RH} {i hw wh : Nat} {x : Int32} (h1 : hw ≤ 2) (h2 : wh < 80) (e : x = nI (hw + 4 * wh)) : x - x / 4 * 4 = nI hw ∧ x / 4 = nI wh := by
  rw [e, show (4 : Int32) = nI 4 from rfl]
  refine ⟨?_, ?_⟩
  · rw [md9 (by omega) (by decide) (by decide)]; congr 1; omega
  · rw [pk_div (by omega) (by decide) (by decide)]; congr 1; omega
/-- the day on which an instruction commences, as the law reckons it -/
theorem q_begins {σ : SG} {ν : NU} {γ ρ : RH} {n np i : Nat} {post : Int32 → Prop} (hD : DAT n np γ) (hL : LKI γ ρ n) (hV : LKV γ ρ) (hi : i < n) (k : post (cm9 γ (γ 34 0) i)) : wpL_begins σ ν ρ (nI i) post := by
  have h40 := hD.1
  obtain ⟨hI, -⟩ := hL
  obtain ⟨-, h6, -, ⟨kn, hkn, ekn⟩, -⟩ := hV
  have l6 : ρ 0 ((6 : Int32)).toNatClampNeg = nI kn := by rw [show ((6 : Int32)).toNatClampNeg = 6 from rfl, h6, ekn]
  obtain ⟨-, ⟨te, md, sn, t1, t2, t3, -, t5, -, t7⟩, -⟩ := hI i hi
  have hci : (nI i).toNatClampNeg = i := cl_n (by omega)
  -- behind the loop
  have tail : ∀ (j : Nat) (y : Int32), j < n → γ 22 j ≠ 2 → (y.toInt = 0 ↔ ¬ kn9 (γ 26 j) (γ 34 0) = true) → (bg9 γ (γ 34 0) (i + 1) i = bg9 γ (γ 34 0) 1 j) → jL_begins_51 (nI i) post σ ν ρ (nI j) y := by
    intro j y hj h2 hy hb
    obtain ⟨⟨hw, wh, a1, a2, a3, a4, a5⟩, -, ho⟩ := hI j hj
    have hcj : (nI j).toNatClampNeg = j := cl_n (by omega)
    obtain ⟨m1, m2⟩ := HN_mod (γ := γ) (i := j) a1 a2 a5
    have b1 : bg9 γ (γ 34 0) 1 j = if γ 22 j = 0 then γ 23 j else if kn9 (γ 26 j) (γ 34 0) = true then γ 27 j else -1 := by
      show (if γ 22 j = 2 then _ else _) = _
      rw [if_neg h2]
    have em : (γ 2 (γ 14 i).toNatClampNeg).toInt = md := by rw [t5, ti_n (by omega)]
    have ek : (γ 34 0).toInt = kn := by rw [ekn, ti_n (by omega)]
    have hc : cm9 γ (γ 34 0) i = if md ≤ kn then bg9 γ (γ 34 0) (i + 1) i else -1 := by
      unfold cm9
      rw [em, ek]
      by_cases c : md ≤ kn
      · rw [if_pos c, if_pos (by omega)]
      · rw [if_neg c, if_neg (by omega)]
    rw [hc] at k
    unfold jL_begins_51
    refine ⟨vi_n (by omega) (by decide), k14 (i := 6) (by decide), ?_⟩
    rw [hci, t7, sh_r3 (by omega), bo_8191, l6, ti_n (by omega), ti_n (by omega)]
    have ed : (te + 8 * md + 65536 * sn) / 2 ^ 3 % 8192 = md := by omega
    rw [ed]
    by_cases c : md ≤ kn
    · rw [if_pos c, hb, b1] at k
      rw [if_pos (by omega)]
      refine ⟨vi_n (by omega) (by decide), ?_⟩
      rw [hcj, m1, m2, ti_n (by omega)]
      by_cases c0 : γ 22 j = 0
      · rw [if_pos c0] at k
        have : hw = 0 := nI_inj (by omega) (by omega) (a3.symm.trans c0)
        rw [if_pos (by omega)]
        refine ⟨vi_n (by omega) (by decide), ?_⟩
        rw [← a4]
        exact k
      · rw [if_neg c0] at k
        have : hw ≠ 0 := fun z => c0 (by rw [a3, z]; rfl)
        rw [if_neg (by omega)]
        by_cases c1 : kn9 (γ 26 j) (γ 34 0) = true
        · rw [if_pos c1] at k
          rw [if_neg (fun z => (hy.mp z) c1)]
          refine ⟨vi_n (by omega) (by decide), ?_⟩
          rcases ho with ⟨o1, o2⟩ | ⟨om, od, o1, o2, o3, o4, o5⟩
          · rw [o1] at c1
            exact absurd c1 (by simp [kn9])
          · rw [o5, bo_8191, li1, pk_sub (by omega)]
            have : (od + 1 + 8192 * om) % 8192 - 1 = od := by omega
            rw [this, ← o4]
            exact k
        · rw [if_neg c1] at k
          rw [if_pos (hy.mpr c1)]
          exact k
    · rw [if_neg c] at k
      rw [if_neg (by omega)]
      exact k
  -- the loop
  have loop : ∀ (f j : Nat), j < f → j < n → (bg9 γ (γ 34 0) (i + 1) i = bg9 γ (γ 34 0) (j + 1) j) → wL_begins_4 (nI i) post f σ ν ρ (nI j) := by
    intro f
    induction f with
    | zero => intro j h; exact absurd h (Nat.not_lt_zero _)
    | succ f ih =>
      intro j hjf hj hb
      obtain ⟨⟨hw, wh, a1, a2, a3, a4, a5⟩, -, ho⟩ := hI j hj
      have hcj : (nI j).toNatClampNeg = j := cl_n (by omega)
      have hvj : vp_in (nI j) 40 := vi_n (by omega) (by decide)
      obtain ⟨m1, m2⟩ := HN_mod (γ := γ) (i := j) a1 a2 a5
      obtain ⟨-, -, -, -, -, -, -, -, -, -, -, -, d22, -⟩ := hD.2.2.2.2.1 j hj
      unfold wL_begins_4
      refine ⟨hvj, ?_⟩
      rw [hcj, m1, m2, ti_n (by omega)]
      by_cases c : γ 22 j = 2
      · have e2 : hw = 2 := nI_inj (by omega) (by omega) (a3.symm.trans c)
        rw [if_pos (by omega)]
        refine ⟨hvj, ?_⟩
        obtain ⟨w, hw1, hw2⟩ := d22 c
        have ew : wh = w := nI_inj (by omega) (by omega) (a4.symm.trans hw2)
        rw [ew]
        refine ih w (by omega) (by omega) ?_
        rw [hb]
        show (if γ 22 j = 2 then bg9 γ (γ 34 0) j (γ 23 j).toNatClampNeg else _) = _
        rw [if_pos c, hw2, cl_n (by omega)]
        exact bg9_fuel hD j w (by omega) (by omega)
      · have e2 : hw ≠ 2 := fun z => c (by rw [a3, z]; rfl)
        have b1 : bg9 γ (γ 34 0) (i + 1) i = bg9 γ (γ 34 0) 1 j := by
          rw [hb]
          show (if γ 22 j = 2 then _ else _) = (if γ 22 j = 2 then _ else _)
          rw [if_neg c, if_neg c]
        rw [if_neg (by omega)]
        refine ⟨hvj, ?_⟩
        rcases ho with ⟨o1, o2⟩ | ⟨om, od, o1, o2, o3, o4, o5⟩
        · rw [o2, if_pos (by decide)]
          refine tail j 0 hj c ⟨fun _ z => ?_, fun _ => by decide⟩ b1
          rw [o1] at z
          exact absurd z (by simp [kn9])
        · rw [o5, ti_n (by omega), if_neg (by omega)]
          refine ⟨hvj, k14 (i := 6) (by decide), ?_⟩
          rw [sh_r13 (by omega), l6, ti_n (by omega), ti_n (by omega)]
          have e9 : (od + 1 + 8192 * om) / 2 ^ 13 = om := by omega
          have hk9 : kn9 (γ 26 j) (γ 34 0) = true ↔ om ≤ kn := by
            unfold kn9
            rw [o3, ekn, ti_n (by omega), ti_n (by omega)]
            simp [nI_m1 (show om < 2147483648 by omega)]
          rw [e9]
          by_cases c2 : om ≤ kn
          · rw [if_pos (by omega)]
            exact tail j 1 hj c ⟨fun z => absurd z z1I, fun z => absurd (hk9.mpr c2) z⟩ b1
          · rw [if_neg (by omega)]
            exact tail j 0 hj c ⟨fun _ z => c2 (hk9.mp z), fun _ => z0I⟩ b1
  exact ⟨i + 1, loop (i + 1) i (by omega) hi rfl⟩
