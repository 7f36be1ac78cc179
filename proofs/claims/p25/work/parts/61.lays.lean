/-! An instruction is laid: what it does to the rows of both. -/
def LAID (n a : Nat) (ρ ρ' : RH) (kd of fi la : Int32) : Prop :=
  (∀ i, ρ' 13 i = if i = n then kd else ρ 13 i) ∧ (∀ i, ρ' 14 i = if i = n then nI (a - 1) else ρ 14 i) ∧ (∀ i, ρ' 15 i = if i = n then of else ρ 15 i) ∧ (∀ i, ρ' 16 i = if i = n then fi else ρ 16 i) ∧ (∀ i, ρ' 17 i = if i = n then la else ρ 17 i) ∧
  (∀ i, ρ' 18 i = if i = n then ρ 7 0 else ρ 18 i) ∧ (∀ m, ρ' 19 m = if 4 * n ≤ m ∧ m < 4 * n + 4 then ρ 8 (m - 4 * n) else ρ 19 m) ∧ (∀ i, ρ' 20 i = if i = n then ρ 9 0 else ρ 20 i) ∧ (∀ m, ρ' 21 m = if 4 * n ≤ m ∧ m < 4 * n + 4 then ρ 10 (m - 4 * n) else ρ 21 m) ∧
  (∀ i, ρ' 22 i = if i = n then ρ 3 0 else ρ 22 i) ∧ (∀ i, ρ' 23 i = if i = n then ρ 4 0 else ρ 23 i) ∧ (∀ i, ρ' 24 i = if i = n then ρ 5 0 else ρ 24 i) ∧ (∀ i, ρ' 25 i = if i = n then ρ 6 0 else ρ 25 i) ∧
  (∀ i, ρ' 26 i = if i = n then -1 else ρ 26 i) ∧ (∀ i, ρ' 28 i = if i = n then -1 else ρ 28 i) ∧ (∀ i, ρ' 30 i = if i = n then -1 else ρ 30 i) ∧ ρ' 7 0 = 0 ∧ ρ' 9 0 = 0 ∧ ρ' 11 0 = nI (n + 1) ∧
  ∀ j, j ≠ 7 → j ≠ 9 → j ≠ 11 → j ≠ 12 → (j < 13 ∨ j = 27 ∨ j = 29 ∨ 31 ≤ j) → ρ' j = ρ j
set_option maxRecDepth 100000 in
set_option maxHeartbeats 1000000 in
theorem s_lays {ρ : RH} {n a : Nat} {kd of fi la : Int32} {post : Int32 → RH → Prop} (h11 : ρ 11 0 = nI n) (hn : n < 40) (h1 : ρ 1 0 = nI a) (ha : 0 < a) (k : ∀ ρ', LAID n a ρ ρ' kd of fi la → ρ' 12 = ρ 12 → ρ' 48 = ρ 48 → (∀ i, i ≠ 0 → ρ' 7 i = ρ 7 i ∧ ρ' 9 i = ρ 9 i ∧ ρ' 11 i = ρ 11 i) → post (nI n) ρ') : wpX7_lays ρ kd of fi la post := by
  have hc : (nI n).toNatClampNeg = n := cl_n (by omega)
  have hv : vp_in (nI n) 40 := vi_n hn (by decide)
  unfold wpX7_lays
  rw [h11]
  refine ⟨hv, fun t2 e2 => ?_⟩
  rw [hc] at e2
  have o2 : ∀ j, j ≠ 13 → t2 j = ρ j := fun j q => by rw [e2, u2_oth q]
  rw [o2 1 (by decide), h1]
  refine ⟨hv, fun t5 e5 => ?_⟩
  rw [hc, li1, pk_sub (by omega)] at e5
  have o5 : ∀ j, j ≠ 13 → j ≠ 14 → t5 j = ρ j := fun j q r => by rw [e5, u2_oth r, o2 j q]
  refine ⟨hv, fun t8 e8 => ?_⟩
  rw [hc] at e8
  have o8 : ∀ j, (j < 13 ∨ 16 ≤ j) → t8 j = ρ j := fun j q => by rw [e8, u2_oth (by omega), o5 j (by omega) (by omega)]
  refine ⟨hv, fun t11 e11 => ?_⟩
  rw [hc] at e11
  have o11 : ∀ j, (j < 13 ∨ 17 ≤ j) → t11 j = ρ j := fun j q => by rw [e11, u2_oth (by omega), o8 j (by omega)]
  refine ⟨hv, fun t14 e14 => ?_⟩
  rw [hc] at e14
  have o14 : ∀ j, (j < 13 ∨ 18 ≤ j) → t14 j = ρ j := fun j q => by rw [e14, u2_oth (by omega), o11 j (by omega)]
  rw [o14 7 (by omega)]
  refine ⟨hv, fun t17 e17 => ?_⟩
  rw [hc] at e17
  have o17 : ∀ j, (j < 13 ∨ 19 ≤ j) → t17 j = ρ j := fun j q => by rw [e17, u2_oth (by omega), o14 j (by omega)]
  rw [o17 9 (by omega)]
  refine ⟨hv, fun t20 e20 => ?_⟩
  rw [hc] at e20
  have o20 : ∀ j, (j < 13 ∨ j = 19 ∨ 21 ≤ j) → t20 j = ρ j := fun j q => by rw [e20, u2_oth (by omega), o17 j (by omega)]
  have a13 : ∀ i, t20 13 i = if i = n then kd else ρ 13 i := fun i => by rw [e20, u2_oth (by decide), e17, u2_oth (by decide), e14, u2_oth (by decide), e11, u2_oth (by decide), e8, u2_oth (by decide), e5, u2_oth (by decide), e2, u2_at]
  have a14 : ∀ i, t20 14 i = if i = n then nI (a - 1) else ρ 14 i := fun i => by rw [e20, u2_oth (by decide), e17, u2_oth (by decide), e14, u2_oth (by decide), e11, u2_oth (by decide), e8, u2_oth (by decide), e5, u2_at, o2 14 (by decide)]
  have a15 : ∀ i, t20 15 i = if i = n then of else ρ 15 i := fun i => by rw [e20, u2_oth (by decide), e17, u2_oth (by decide), e14, u2_oth (by decide), e11, u2_oth (by decide), e8, u2_at, o5 15 (by decide) (by decide)]
  have a16 : ∀ i, t20 16 i = if i = n then fi else ρ 16 i := fun i => by rw [e20, u2_oth (by decide), e17, u2_oth (by decide), e14, u2_oth (by decide), e11, u2_at, o8 16 (by omega)]
  have a17 : ∀ i, t20 17 i = if i = n then la else ρ 17 i := fun i => by rw [e20, u2_oth (by decide), e17, u2_oth (by decide), e14, u2_at, o11 17 (by omega)]
  have a18 : ∀ i, t20 18 i = if i = n then ρ 7 0 else ρ 18 i := fun i => by rw [e20, u2_oth (by decide), e17, u2_at, o14 18 (by omega)]
  have a20 : ∀ i, t20 20 i = if i = n then ρ 9 0 else ρ 20 i := fun i => by rw [e20, u2_at, o17 20 (by omega)]
  refine ⟨5, ?_⟩
  have key : ∀ d m, m + d = 4 → ∀ s : RH, (∀ j, j ≠ 19 → j ≠ 21 → s j = t20 j) → (∀ q, s 19 q = if 4 * n ≤ q ∧ q < 4 * n + m then ρ 8 (q - 4 * n) else ρ 19 q) → (∀ q, s 21 q = if 4 * n ≤ q ∧ q < 4 * n + m then ρ 10 (q - 4 * n) else ρ 21 q) → wX7_lays_77 kd of fi la post (d + 1) s (nI n) (nI m) := by
    intro d
    induction d with
    | zero =>
      intro m hm s s1 s2 s3
      have hm4 : m = 4 := by omega
      subst hm4
      unfold wX7_lays_77
      rw [ti_n (by omega), if_neg (by omega), hc]
      have so : ∀ j, (j < 13 ∨ 22 ≤ j) → s j = ρ j := fun j q => by rw [s1 j (by omega) (by omega), o20 j (by omega)]
      rw [so 3 (by omega)]
      refine ⟨hv, fun t24 e24 => ⟨hv, fun t27 e27 => ⟨hv, fun t30 e30 => ⟨hv, fun t33 e33 => ⟨hv, fun t36 e36 => ⟨hv, fun t39 e39 => ⟨hv, fun t42 e42 t44 e44 t46 e46 t48 e48 => ?_⟩⟩⟩⟩⟩⟩⟩
      have f24 : ∀ j, j ≠ 22 → t24 j = s j := fun j q => by rw [e24, u2_oth q]
      have f27 : ∀ j, j ≠ 22 → j ≠ 23 → t27 j = s j := fun j q r => by rw [e27, u2_oth r, f24 j q]
      have f30 : ∀ j, (j < 22 ∨ 25 ≤ j) → t30 j = s j := fun j q => by rw [e30, u2_oth (by omega), f27 j (by omega) (by omega)]
      have f33 : ∀ j, (j < 22 ∨ 26 ≤ j) → t33 j = s j := fun j q => by rw [e33, u2_oth (by omega), f30 j (by omega)]
      have f36 : ∀ j, (j < 22 ∨ 27 ≤ j) → t36 j = s j := fun j q => by rw [e36, u2_oth (by omega), f33 j (by omega)]
      have f39 : ∀ j, (j < 22 ∨ j = 27 ∨ 29 ≤ j) → t39 j = s j := fun j q => by rw [e39, u2_oth (by omega), f36 j (by omega)]
      have f42 : ∀ j, (j < 22 ∨ j = 27 ∨ j = 29 ∨ 31 ≤ j) → t42 j = s j := fun j q => by rw [e42, u2_oth (by omega), f39 j (by omega)]
      have f44 : ∀ j, j ≠ 7 → t44 j = t42 j := fun j q => by rw [e44, u2_oth q]
      have f46 : ∀ j, j ≠ 7 → j ≠ 9 → t46 j = t42 j := fun j q r => by rw [e46, u2_oth r, f44 j q]
      have f48 : ∀ j, j ≠ 7 → j ≠ 9 → j ≠ 11 → t48 j = t42 j := fun j q r z => by rw [e48, u2_oth z, f46 j q r]
      rw [f24 4 (by decide), so 4 (by omega)] at e27
      rw [f27 5 (by decide) (by decide), so 5 (by omega)] at e30
      rw [f30 6 (by omega), so 6 (by omega)] at e33
      have e11' : t46 11 0 = nI n := by rw [f46 11 (by decide) (by decide), f42 11 (by omega), so 11 (by omega)]; exact h11
      rw [e11', nI_1] at e48
      have lo : ∀ j, (13 ≤ j ∧ j < 22) → t48 j = s j := fun j q => by rw [f48 j (by omega) (by omega) (by omega), f42 j (by omega)]
      refine k t48 ⟨fun i => by rw [lo 13 (by omega), s1 13 (by decide) (by decide)]; exact a13 i, fun i => by rw [lo 14 (by omega), s1 14 (by decide) (by decide)]; exact a14 i, fun i => by rw [lo 15 (by omega), s1 15 (by decide) (by decide)]; exact a15 i, fun i => by rw [lo 16 (by omega), s1 16 (by decide) (by decide)]; exact a16 i, fun i => by rw [lo 17 (by omega), s1 17 (by decide) (by decide)]; exact a17 i, fun i => by rw [lo 18 (by omega), s1 18 (by decide) (by decide)]; exact a18 i, fun q => by rw [lo 19 (by omega)]; exact s2 q, fun i => by rw [lo 20 (by omega), s1 20 (by decide) (by decide)]; exact a20 i, fun q => by rw [lo 21 (by omega)]; exact s3 q, fun i => ?_, fun i => ?_, fun i => ?_, fun i => ?_, fun i => ?_, fun i => ?_, fun i => ?_, ?_, ?_, by rw [e48, u2_at, if_pos rfl], fun j q7 q9 q11 q12 q => ?_⟩ ?_ ?_ (fun i hi => ?_)
      · rw [f48 22 (by decide) (by decide) (by decide), e42, u2_oth (by decide), e39, u2_oth (by decide), e36, u2_oth (by decide), e33, u2_oth (by decide), e30, u2_oth (by decide), e27, u2_oth (by decide), e24, u2_at, so 22 (by omega)]
      · rw [f48 23 (by decide) (by decide) (by decide), e42, u2_oth (by decide), e39, u2_oth (by decide), e36, u2_oth (by decide), e33, u2_oth (by decide), e30, u2_oth (by decide), e27, u2_at, f24 23 (by decide), so 23 (by omega)]
      · rw [f48 24 (by decide) (by decide) (by decide), e42, u2_oth (by decide), e39, u2_oth (by decide), e36, u2_oth (by decide), e33, u2_oth (by decide), e30, u2_at, f27 24 (by decide) (by decide), so 24 (by omega)]
      · rw [f48 25 (by decide) (by decide) (by decide), e42, u2_oth (by decide), e39, u2_oth (by decide), e36, u2_oth (by decide), e33, u2_at, f30 25 (by omega), so 25 (by omega)]
      · rw [f48 26 (by decide) (by decide) (by decide), e42, u2_oth (by decide), e39, u2_oth (by decide), e36, u2_at, f33 26 (by omega), so 26 (by omega)]
      · rw [f48 28 (by decide) (by decide) (by decide), e42, u2_oth (by decide), e39, u2_at, f36 28 (by omega), so 28 (by omega)]
      · rw [f48 30 (by decide) (by decide) (by decide), e42, u2_at, f39 30 (by omega), so 30 (by omega)]
      · rw [e48, u2_oth (by decide), e46, u2_oth (by decide), e44, u2_at, if_pos rfl]
      · rw [e48, u2_oth (by decide), e46, u2_at, if_pos rfl]
      · rw [f48 j q7 q9 q11, f42 j (by omega), so j (by omega)]
      · rw [f48 12 (by decide) (by decide) (by decide), f42 12 (by omega), so 12 (by omega)]
      · rw [f48 48 (by decide) (by decide) (by decide), f42 48 (by omega), so 48 (by omega)]
      · refine ⟨?_, ?_, ?_⟩
        · rw [e48, u2_oth (by decide), e46, u2_oth (by decide), e44, u2_at, if_neg hi, f42 7 (by omega), so 7 (by omega)]
        · rw [e48, u2_oth (by decide), e46, u2_at, if_neg hi, f44 9 (by decide), f42 9 (by omega), so 9 (by omega)]
        · rw [e48, u2_at, if_neg hi, f46 11 (by decide) (by decide), f42 11 (by omega), so 11 (by omega)]
    | succ d ih =>
      intro m hm s s1 s2 s3
      have hm4 : m < 4 := by omega
      unfold wX7_lays_77
      rw [ti_n (by omega), if_pos (by omega), li4, pk_mul, nI_add, cl_n (by omega), cl_n (by omega), nI_1]
      refine ⟨vi_n hm4 (by decide), vi_n (by omega) (by decide), fun t52 e52 => ⟨vi_n hm4 (by decide), vi_n (by omega) (by decide), fun t56 e56 => ?_⟩⟩
      have r8 : s 8 m = ρ 8 m := by rw [s1 8 (by decide) (by decide), o20 8 (by omega)]
      have r10 : t52 10 m = ρ 10 m := by rw [e52, u2_oth (by decide), s1 10 (by decide) (by decide), o20 10 (by omega)]
      rw [r8] at e52
      rw [r10] at e56
      refine ih (m + 1) (by omega) t56 (fun j q r => by rw [e56, u2_oth r, e52, u2_oth q]; exact s1 j q r) (fun q => ?_) (fun q => ?_)
      · rw [e56, u2_oth (by decide), e52, u2_at, s2]
        by_cases z : q = 4 * n + m
        · subst z
          rw [if_pos rfl, if_pos ⟨by omega, by omega⟩, Nat.add_sub_cancel_left]
        · rw [if_neg z]
          by_cases z2 : 4 * n ≤ q ∧ q < 4 * n + m
          · rw [if_pos z2, if_pos ⟨z2.1, by omega⟩]
          · rw [if_neg z2, if_neg (fun w => z2 ⟨w.1, by omega⟩)]
      · rw [e56, u2_at, e52, u2_oth (by decide), s3]
        by_cases z : q = 4 * n + m
        · subst z
          rw [if_pos rfl, if_pos ⟨by omega, by omega⟩, Nat.add_sub_cancel_left]
        · rw [if_neg z]
          by_cases z2 : 4 * n ≤ q ∧ q < 4 * n + m
          · rw [if_pos z2, if_pos ⟨z2.1, by omega⟩]
          · rw [if_neg z2, if_neg (fun w => z2 ⟨w.1, by omega⟩)]
  exact key 4 0 rfl t20 (fun _ _ _ => rfl) (fun q => by rw [if_neg (by omega), o20 19 (by omega)]) (fun q => by rw [if_neg (by omega), o20 21 (by omega)])
/-- what add does in the class -/
def ADDED (n : Nat) (σ σ' : SG) (ν ν' : NU) (kd of : Int32) : Prop :=
  (σ' 3 n 0 = nI n ∧ σ' 3 n 1 = σ 0 0 5 - 1 ∧ σ' 3 n 2 = σ 0 0 4 ∧ σ' 3 n 3 = kd ∧ σ' 3 n 4 = of ∧ σ' 3 n 5 = σ 3 n 5 ∧ σ' 3 n 6 = σ 3 n 6) ∧ (∀ i, i < n → σ' 3 i = σ 3 i) ∧
  (∀ b, b < 2 * n + 2 → σ' 4 b = σ 4 b ∧ σ' 22 b = σ 22 b) ∧ (∀ b, (b = 2 * n + 2 ∨ b = 2 * n + 3) → ∀ c, σ' 4 b c = 0 ∧ σ' 22 b c = 0) ∧ (∀ b, b < 3 * n + 3 → σ' 6 b = σ 6 b) ∧ (∀ b, (b = 3 * n + 3 ∨ b = 3 * n + 4 ∨ b = 3 * n + 5) → ∀ c, σ' 6 b c = -1) ∧
  (∀ a b, a ≠ 3 → a ≠ 4 → a ≠ 6 → a ≠ 22 → ¬ (a = 7 ∧ b = 0) → σ' a b = σ a b) ∧ LI9 σ' ν' (n + 1) ∧ ν' 99 0 0 = n + 2 ∧ ν' 99 0 1 = ν 99 0 1 ∧ ν' 0 0 3 = n + 1 ∧ (∀ i, i ≤ n → ν' 3 i = ν 3 i) ∧ ν' 3 (n + 1) 7 = ν 3 n 7 ∧ (∀ b, b ≠ 0 → ν' 7 b = ν 7 b) ∧ ν' 13 = ν 13 ∧ clo ν'
set_option maxRecDepth 100000 in
set_option maxHeartbeats 1000000 in
theorem c_add {σ : SG} {ν : NU} {n : Nat} {kd of : Int32} {post : SG → NU → Prop} (hn : n < 40) (b1 : ν 99 0 0 = n + 1) (b2 : ν 0 0 3 = n) (b3 : LI9 σ ν n) (b4 : clo ν) (k : ∀ σ' ν', ADDED n σ σ' ν ν' kd of → post σ' ν') : wpX6_add σ ν kd of post := by
  obtain ⟨l1, ⟨l2, l3, l4, l5, l6⟩, l7⟩ := id b3
  obtain ⟨w1, w2, w3, w4⟩ := id b4
  unfold wpX6_add
  refine s_size0 b3 ?_
  rw [b2]
  refine ⟨by omega, fun t3 e3 t5 e5 t7 e7 t9 e9 t11 e11 => ?_⟩
  have o3 : ∀ a b, ¬ (a = 3 ∧ b = n) → t3 a b = σ a b := fun a b z => by rw [e3, u3_oth z]
  have o5 : ∀ a b, ¬ (a = 3 ∧ b = n) → t5 a b = σ a b := fun a b z => by rw [e5, u3_oth z, o3 a b z]
  have o11 : ∀ a b, ¬ (a = 3 ∧ b = n) → t11 a b = σ a b := fun a b z => by rw [e11, u3_oth z, e9, u3_oth z, e7, u3_oth z, o5 a b z]
  rw [o3 0 0 (by omega)] at e5
  rw [o5 0 0 (by omega)] at e7
  have r3 : ∀ c, t11 3 n c = if c = 4 then of else if c = 3 then kd else if c = 2 then σ 0 0 4 else if c = 1 then σ 0 0 5 - 1 else if c = 0 then nI n else σ 3 n c := fun c => by rw [e11, u3_at, e9, u3_at, e7, u3_at, e5, u3_at, e3, u3_at]
  refine ⟨by omega, by omega, n, by rw [o11 7 0 (by omega)]; exact l1, ⟨l2, l3, l4, l5, l6⟩, fun σ1 ν1 ν2 f1 hg f2 => ?_⟩
  obtain ⟨g1, g2, g3, g4⟩ := hg
  have p1 : ∀ a b, ¬ (a = 7 ∧ b = 0) → σ1 a b = t11 a b := fun a b z => by rw [f1, u3_oth z, u3_oth z]
  have m1 : ∀ a b c, ¬ (a = 7 ∧ b = 0 ∧ c = 1) → ¬ (a = 8 ∧ b = 0) → ν2 a b c = ν a b c := fun a b c z1 z2 => by
    rw [f2, u3_oth z2]
    exact g4 a b c z1 z2
  have m8 : ∀ i, ν2 8 0 i = if i = n then n + 1 else ν1 8 0 i := fun i => by rw [f2]; simp [u3]
  have m7 : ν2 7 0 1 = ν1 7 0 1 := by rw [f2, u3_oth (by omega)]
  have m99 : ν2 99 0 0 = n + 1 := by rw [m1 99 0 0 (by omega) (by omega)]; exact b1
  have hclo : clo ν2 := by
    refine ⟨fun o i => ?_, fun o i => ?_, ?_, fun i hi => ?_⟩
    · rw [m99]
      by_cases q : o = 0
      · subst q
        rw [m8]
        by_cases q2 : i = n
        · rw [if_pos q2]; exact Nat.le_refl _
        · rw [if_neg q2]
          rcases g3 i with q3 | q3
          · rw [q3, ← b1]; exact w1 0 i
          · rw [q3]; exact Nat.zero_le _
      · rw [m1 8 o i (by omega) (by omega), ← b1]; exact w1 o i
    · rw [m1 13 o i (by omega) (by omega), m99, ← b1]; exact w2 o i
    · rw [m1 0 0 3 (by omega) (by omega), m99, ← b1]; exact w3
    · rw [m1 3 i 7 (by omega) (by omega), m1 99 0 1 (by omega) (by omega)]
      rw [m99, ← b1] at hi
      exact w4 i hi
  refine ⟨hclo, fun t19 h19 v20 h20 => ?_⟩
  rw [m99] at h19 h20
  rw [m1 0 0 3 (by omega) (by omega), b2] at h20
  have sg : ∀ a b c, t19 a b c = if a = 3 ∧ b = n + 1 then -1 else if (a = 4 ∨ a = 22) ∧ (b = 2 * (n + 1) ∨ b = 2 * (n + 1) + 1) then 0 else if a = 6 ∧ (b = 3 * (n + 1) ∨ b = 3 * (n + 1) + 1 ∨ b = 3 * (n + 1) + 2) then -1 else σ1 a b c := fun a b c => by rw [h19]; rfl
  have sgo : ∀ a b, ¬ (a = 3 ∧ b = n + 1) → ¬ ((a = 4 ∨ a = 22) ∧ (b = 2 * (n + 1) ∨ b = 2 * (n + 1) + 1)) → ¬ (a = 6 ∧ (b = 3 * (n + 1) ∨ b = 3 * (n + 1) + 1 ∨ b = 3 * (n + 1) + 2)) → t19 a b = σ1 a b := fun a b z1 z2 z3 => by funext c; rw [sg, if_neg z1, if_neg z2, if_neg z3]
  have n20 : ∀ a b c, v20 a b c = if a = 0 ∧ b = 0 ∧ c = 3 then n + 1 else if a = 3 ∧ b = n + 1 ∧ c = 7 then ν2 3 n 7 else if a = 99 ∧ b = 0 ∧ c = 0 then n + 1 + 1 else ν2 a b c := fun a b c => by rw [h20]; rfl
  have n20o : ∀ a b, a ≠ 0 → ¬ (a = 3 ∧ b = n + 1) → a ≠ 99 → v20 a b = ν2 a b := fun a b z1 z2 z3 => by funext c; rw [n20, if_neg (fun z => z1 z.1), if_neg (fun z => z2 ⟨z.1, z.2.1⟩), if_neg (fun z => z3 z.1)]
  have q3 : ∀ c, t19 3 n c = t11 3 n c := fun c => by rw [sgo 3 n (by omega) (by omega) (by omega), p1 3 n (by omega)]
  refine k t19 v20 ⟨⟨by rw [q3, r3]; rfl, by rw [q3, r3]; rfl, by rw [q3, r3]; rfl, by rw [q3, r3]; rfl, by rw [q3, r3]; rfl, by rw [q3, r3]; rfl, by rw [q3, r3]; rfl⟩, fun i hi => by rw [sgo 3 i (by omega) (by omega) (by omega), p1 3 i (by omega), o11 3 i (by omega)], fun b hb => ⟨by rw [sgo 4 b (by omega) (by omega) (by omega), p1 4 b (by omega), o11 4 b (by omega)], by rw [sgo 22 b (by omega) (by omega) (by omega), p1 22 b (by omega), o11 22 b (by omega)]⟩, fun b hb c => ⟨by rw [sg, if_neg (by omega), if_pos ⟨by omega, by omega⟩], by rw [sg, if_neg (by omega), if_pos ⟨by omega, by omega⟩]⟩, fun b hb => by rw [sgo 6 b (by omega) (by omega) (by omega), p1 6 b (by omega), o11 6 b (by omega)], fun b hb c => by rw [sg, if_neg (by omega), if_neg (by omega), if_pos ⟨by omega, by omega⟩], fun a b z3 z4 z6 z22 z7 => by rw [sgo a b (by omega) (by omega) (by omega), p1 a b z7, o11 a b (by omega)], ?_, ?_, ?_, ?_, fun i hi => ?_, ?_, fun b hb => ?_, ?_, ?_⟩
  · refine ⟨?_, ⟨?_, ?_, ?_, by omega, fun i hi => ?_⟩, fun i hi => ?_⟩
    · rw [sgo 7 0 (by omega) (by omega) (by omega), f1, u3_at, if_pos rfl]
    · rw [n20o 7 0 (by decide) (by omega) (by decide), m7, g1]
      split
      · omega
      · unfold capn
        split <;> omega
    · rw [n20o 7 0 (by decide) (by omega) (by decide), m7, g1]
      split
      · omega
      · unfold capn
        split <;> omega
    · rw [n20o 7 0 (by decide) (by omega) (by decide), m7, g1]
      split
      · omega
      · unfold capn
        split <;> omega
    · rw [n20o 8 0 (by decide) (by omega) (by decide), n20 99 0 0, if_neg (by omega), if_neg (by omega), if_pos ⟨rfl, rfl, rfl⟩]
      have := hclo.1 0 i
      rw [m99] at this
      omega
    · rw [n20o 8 0 (by decide) (by omega) (by decide), m8]
      by_cases q : i = n
      · rw [if_pos q, q]
      · rw [if_neg q, g2 i (by omega), l7 i (by omega)]
  · rw [n20 99 0 0, if_neg (by omega), if_neg (by omega), if_pos ⟨rfl, rfl, rfl⟩]
  · rw [n20 99 0 1, if_neg (by omega), if_neg (by omega), if_neg (by omega), m1 99 0 1 (by omega) (by omega)]
  · rw [n20 0 0 3, if_pos ⟨rfl, rfl, rfl⟩]
  · rw [n20o 3 i (by decide) (by omega) (by decide)]
    funext c
    exact m1 3 i c (by omega) (by omega)
  · rw [n20 3 (n + 1) 7, if_neg (by omega), if_pos ⟨rfl, rfl, rfl⟩, m1 3 n 7 (by omega) (by omega)]
  · rw [n20o 7 b (by decide) (by omega) (by decide)]
    funext c
    exact m1 7 b c (by omega) (by omega)
  · funext b
    rw [n20o 13 b (by decide) (by omega) (by decide)]
    funext c
    exact m1 13 b c (by omega) (by omega)
  · have e99 : v20 99 0 0 = n + 2 := by rw [n20 99 0 0, if_neg (by omega), if_neg (by omega), if_pos ⟨rfl, rfl, rfl⟩]
    have e991 : v20 99 0 1 = ν2 99 0 1 := by rw [n20 99 0 1, if_neg (by omega), if_neg (by omega), if_neg (by omega)]
    refine ⟨fun o i => ?_, fun o i => ?_, ?_, fun i hi => ?_⟩
    · rw [n20o 8 o (by decide) (by omega) (by decide), e99]
      have := hclo.1 o i
      rw [m99] at this
      omega
    · rw [n20o 13 o (by decide) (by omega) (by decide), e99]
      have := hclo.2.1 o i
      rw [m99] at this
      omega
    · rw [n20 0 0 3, if_pos ⟨rfl, rfl, rfl⟩, e99]; omega
    · rw [e991, n20 3 i 7, if_neg (by omega)]
      rw [e99] at hi
      by_cases q : i = n + 1
      · rw [if_pos ⟨rfl, q, rfl⟩]
        exact hclo.2.2.2 n (by rw [m99]; omega)
      · rw [if_neg (by omega), if_neg (by omega)]
        exact hclo.2.2.2 i (by rw [m99]; omega)
