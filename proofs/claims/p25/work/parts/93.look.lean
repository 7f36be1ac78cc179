/-! A look at another view: what the law counts goes along. -/
theorem u2_cell {f : RH} {k i a c : Nat} {x : Int32} (h : ¬ (a = k ∧ c = i)) : u2 f k i x a c = f a c := if_neg h
theorem u2_hit {f : RH} {k i : Nat} {x : Int32} : u2 f k i x k i = x := if_pos ⟨rfl, rfl⟩
theorem LKI.of {γ γ' ρ ρ' : RH} {n : Nat} (h : LKI γ ρ n) (g2 : ∀ i, i < n → γ' 2 (γ 14 i).toNatClampNeg = γ 2 (γ 14 i).toNatClampNeg) (g : ∀ j, j = 14 ∨ (22 ≤ j ∧ j ≤ 27) → γ' j = γ j) (r : ∀ j, 1 ≤ j → j ≤ 3 → ρ' j = ρ j) : LKI γ' ρ' n := by
  refine ⟨fun i hi => ?_, fun i h1 h2 => by rw [r 3 (by omega) (by omega)]; exact h.2 i h1 h2⟩
  have := h.1 i hi
  unfold HN TN ON at *
  rw [g 14 (by omega), g 22 (by omega), g 23 (by omega), g 24 (by omega), g 25 (by omega), g 26 (by omega), g 27 (by omega), r 1 (by omega) (by omega), r 2 (by omega) (by omega), r 3 (by omega) (by omega), g2 i hi]
  exact this
theorem LKA.of {γ γ' ρ ρ' : RH} (h : LKA γ ρ) (g1 : γ' 1 = γ 1) (g2 : γ' 2 = γ 2) (r1 : ρ' 0 1 = ρ 0 1) (r4 : ρ' 0 4 = ρ 0 4) : LKA γ' ρ' := by
  unfold LKA at *
  rw [g1, g2, r1, r4]
  exact h
theorem LKN.of {γ γ' ρ ρ' : RH} (h : LKN γ ρ) (g : ∀ j, 3 ≤ j → j ≤ 9 → γ' j 0 = γ j 0) (r : ∀ j, 8 ≤ j → j ≤ 13 → ρ' 0 j = ρ 0 j) : LKN γ' ρ' := by
  unfold LKN at *
  rw [g 3 (by omega) (by omega), g 4 (by omega) (by omega), g 5 (by omega) (by omega), g 6 (by omega) (by omega), g 7 (by omega) (by omega), g 9 (by omega) (by omega), r 8 (by omega) (by omega), r 9 (by omega) (by omega), r 10 (by omega) (by omega), r 11 (by omega) (by omega), r 12 (by omega) (by omega), r 13 (by omega) (by omega)]
  exact h
theorem LKV.of {γ γ' ρ ρ' : RH} (h : LKV γ ρ) (g : ∀ j, 33 ≤ j → j ≤ 35 → γ' j 0 = γ j 0) (r : ∀ j, 5 ≤ j → j ≤ 7 → ρ' 0 j = ρ 0 j) : LKV γ' ρ' := by
  unfold LKV at *
  rw [g 33 (by omega) (by omega), g 34 (by omega) (by omega), g 35 (by omega) (by omega), r 5 (by omega) (by omega), r 6 (by omega) (by omega), r 7 (by omega) (by omega)]
  exact h
/-! what the law calls, with what it catches -/
section ZC
variable {σ : SG} {ν : NU} {γ ρ : RH} {n np : Nat} {a b c : Int32}
theorem zc_pass {p : Int32} {post : Int32 → SG → Prop} (h : SIM σ ν γ n np) (k1 : ¬ (1 ≤ p.toInt ∧ p.toInt ≤ 500) → post (-1382) σ) (k2 : (1 ≤ p.toInt ∧ p.toInt ≤ 500) → ¬ (γ 0 0 + p).toInt ≤ 5000 → post (-1383) σ) (k3 : (1 ≤ p.toInt ∧ p.toInt ≤ 500) → (γ 0 0 + p).toInt ≤ 5000 → ∀ σ1, SIM σ1 ν (u2 γ 0 0 (γ 0 0 + p)) n np → post (γ 0 0 + p) σ1) : wpL_does_0 σ ν ρ p a b c post := by
  unfold wpL_does_0
  exact y_pass h (fun z => hx_iae (k1 z)) (fun z z' => hx_ise (k2 z z')) k3
theorem zc_act {p : Int32} {post : Int32 → SG → Prop} (h : SIM σ ν γ n np) (k1 : γ 1 0 = nI 10 → post (-1383) σ) (k2 : ∀ a : Nat, a < 10 → γ 1 0 = nI a → ∀ σ1, SIM σ1 ν (u2 (u2 γ 2 a (γ 0 0)) 1 0 (nI (a + 1))) n np → post (nI a) σ1) : wpL_does_1 σ ν ρ p a b c post := by
  unfold wpL_does_1
  exact y_act h (fun z => hx_ise (k1 z)) k2
theorem zc_word0 {p : Int32} {post : Int32 → SG → Prop} (h : SIM σ ν γ n np) (k1 : ¬ (0 ≤ p.toInt ∧ p.toInt ≤ 139) → post (-1382) σ) (k2 : (0 ≤ p.toInt ∧ p.toInt ≤ 139) → γ 7 0 = nI 4 → post (-1383) σ) (k3 : (0 ≤ p.toInt ∧ p.toInt ≤ 139) → ∀ m : Nat, m < 4 → γ 7 0 = nI m → ∀ σ1, SIM σ1 ν (u2 (u2 γ 8 m p) 7 0 (nI (m + 1))) n np → post (nI (m + 1)) σ1) : wpL_does_2 σ ν ρ p 0 b c post := by
  unfold wpL_does_2
  rw [if_neg (by decide)]
  exact y_word0 h (fun z => hx_iae (k1 z)) (fun z z' => hx_ise (k2 z z')) k3
theorem zc_word1 {p : Int32} {post : Int32 → SG → Prop} (h : SIM σ ν γ n np) (k1 : ¬ (0 ≤ p.toInt ∧ p.toInt ≤ 139) → post (-1382) σ) (k2 : (0 ≤ p.toInt ∧ p.toInt ≤ 139) → γ 9 0 = nI 4 → post (-1383) σ) (k3 : (0 ≤ p.toInt ∧ p.toInt ≤ 139) → ∀ m : Nat, m < 4 → γ 9 0 = nI m → ∀ σ1, SIM σ1 ν (u2 (u2 γ 10 m p) 9 0 (nI (m + 1))) n np → post (nI (m + 1)) σ1) : wpL_does_2 σ ν ρ p 1 b c post := by
  unfold wpL_does_2
  rw [if_pos (by decide)]
  exact y_word1 h (fun z => hx_iae (k1 z)) (fun z z' => hx_ise (k2 z z')) k3
theorem zc_enact {p1 p2 p3 : Int32} {post : Int32 → SG → NU → Prop} (h : SIM σ ν γ n np) (k1 : ¬ (p1 = -1 ∨ (0 ≤ p1.toInt ∧ p1.toInt < np)) → post (-1381) σ ν) (k2 : (p1 = -1 ∨ (0 ≤ p1.toInt ∧ p1.toInt < np)) → ¬ okLab p2 p3 → post (-1382) σ ν) (k3 : (p1 = -1 ∨ (0 ≤ p1.toInt ∧ p1.toInt < np)) → okLab p2 p3 → ¬ (opn9 n γ ∧ np < 20 ∧ γ 7 0 = nI 0) → post (-1383) σ ν) (k4 : (p1 = -1 ∨ (0 ≤ p1.toInt ∧ p1.toInt < np)) → okLab p2 p3 → opn9 n γ ∧ np < 20 ∧ γ 7 0 = nI 0 → ∀ a : Nat, 0 < a → a ≤ 10 → γ 1 0 = nI a → γ 2 (a - 1) = γ 0 0 → ∀ σ1 ν1, SIM σ1 ν1 (u2 (lay9 n a γ 0 (nI np) p1 (((1000 : Int32) * p2) + p3)) 12 0 (nI (np + 1))) (n + 1) (np + 1) → post (nI np) σ1 ν1) : wpL_does_3 σ ν ρ p1 p2 p3 c post := by
  unfold wpL_does_3
  exact y_enact h (fun z => hx_iob (k1 z)) (fun z z' => hx_iae (k2 z z')) (fun z z' z2 => hx_ise (k3 z z' z2)) k4
theorem zc_instruct {p1 p2 p3 p4 : Int32} {post : Int32 → SG → NU → Prop} (h : SIM σ ν γ n np) (k1 : ¬ okI9 n np p1 p2 p3 → post (-1381) σ ν) (k2 : okI9 n np p1 p2 p3 → ¬ ((1 ≤ p1.toInt ∧ p1.toInt ≤ 7) ∧ (p1 = 4 → okLab p3 p4)) → post (-1382) σ ν) (k3 : okI9 n np p1 p2 p3 → ((1 ≤ p1.toInt ∧ p1.toInt ≤ 7) ∧ (p1 = 4 → okLab p3 p4)) → ∀ ms mf : Nat, ms ≤ 4 → mf ≤ 4 → γ 7 0 = nI ms → γ 9 0 = nI mf → ¬ (opn9 n γ ∧ ¬ lk9 p1.toInt ms mf ∧ ¬ ex9 p1.toInt ms mf) → post (-1383) σ ν) (k4 : okI9 n np p1 p2 p3 → ((1 ≤ p1.toInt ∧ p1.toInt ≤ 7) ∧ (p1 = 4 → okLab p3 p4)) → ∀ ms mf : Nat, ms ≤ 4 → mf ≤ 4 → γ 7 0 = nI ms → γ 9 0 = nI mf → opn9 n γ ∧ ¬ lk9 p1.toInt ms mf ∧ ¬ ex9 p1.toInt ms mf → ∀ a : Nat, 0 < a → a ≤ 10 → γ 1 0 = nI a → γ 2 (a - 1) = γ 0 0 → ∀ la σ1 ν1, SIM σ1 ν1 (lay9 n a γ p1 p2 p3 la) (n + 1) np → post (nI n) σ1 ν1) : wpL_does_4 σ ν ρ p1 p2 p3 p4 post := by
  unfold wpL_does_4
  exact y_instruct h (fun z => hx_iob (k1 z)) (fun z z' => hx_iae (k2 z z')) (fun z z' ms mf q1 q2 q3 q4 q5 => hx_ise (k3 z z' ms mf q1 q2 q3 q4 q5)) k4
theorem zc_look {d kn te : Int32} {post : Int32 → SG → NU → Prop} (h : SIM σ ν γ n np) (k1 : ¬ okL γ d kn te → post (-1382) σ ν) (k2 : okL γ d kn te → ∀ σ1 ν1, SIM σ1 ν1 (u2 (u2 (u2 γ 33 0 d) 34 0 kn) 35 0 te) n np → post (nI (ls9 (cv9 n np (u2 (u2 (u2 γ 33 0 d) 34 0 kn) 35 0 te))).length) σ1 ν1) : wpL_does_5 σ ν ρ d kn te c post := by
  unfold wpL_does_5
  exact y_look h (fun z => hx_iae (k1 z)) k2
theorem zc_provisionAt {p : Int32} {post : Int32 → Prop} (h : SIM σ ν γ n np) (k1 : p.toInt < 0 → post (-1381)) (k2 : ∀ k, k < 2147483648 → p = nI k → post (oI (ls9 (cv9 n np γ))[k]?)) : wpL_does_6 σ ν ρ p a b c post := by
  unfold wpL_does_6
  exact y_provisionAt h (fun z => hx_iob (k1 z)) k2
theorem zc_terms {p1 p2 p3 p4 : Int32} {post : Int32 → SG → NU → Prop} (h : SIM σ ν γ n np) (k1 : p1 = 2 → ¬ (0 ≤ p2.toInt ∧ p2.toInt < n) → post (-1381) σ ν) (k2 : (p1 = 2 → 0 ≤ p2.toInt ∧ p2.toInt < n) → ¬ okT n p1 p2 p3 p4 → post (-1382) σ ν) (k3 : (p1 = 2 → 0 ≤ p2.toInt ∧ p2.toInt < n) → okT n p1 p2 p3 p4 → ∀ σ1 ν1, SIM σ1 ν1 (u2 (u2 (u2 (u2 γ 3 0 p1) 4 0 p2) 5 0 p3) 6 0 p4) n np → post 0 σ1 ν1) : wpL_silent_0 σ ν ρ p1 p2 p3 p4 post := by
  unfold wpL_silent_0 wpL_tells_0
  exact y_terms h (fun z z' => hx_iob (k1 z z')) (fun z z' => hx_iae (k2 z z')) (fun z z' σ1 ν1 q => t_silent (k3 z z' σ1 ν1 q))
theorem zc_order {p d : Int32} {post : Int32 → SG → NU → Prop} (h : SIM σ ν γ n np) (k1 : ¬ (0 ≤ p.toInt ∧ p.toInt < n) → post (-1381) σ ν) (k2 : ¬ (okd d) → (0 ≤ p.toInt ∧ p.toInt < n) → post (-1382) σ ν) (k3 : ∀ k : Nat, k < n → p = nI k → okd d → ¬ (γ 22 k = 1 ∧ γ 26 k = -1) → post (-1383) σ ν) (k4 : ∀ k : Nat, k < n → p = nI k → okd d → (γ 22 k = 1 ∧ γ 26 k = -1) → ∀ σ1 ν1, SIM σ1 ν1 (u2 (u2 γ 26 k (γ 0 0)) 27 k d) n np → post 0 σ1 ν1) : wpL_silent_1 σ ν ρ p d b c post := by
  unfold wpL_silent_1 wpL_tells_1
  exact y_order h (fun z => hx_iob (k1 z)) (fun z z' => hx_iae (k2 z z')) (fun k z z' z2 z3 => hx_ise (k3 k z z' z2 z3)) (fun k z z' z2 z3 σ1 ν1 q => t_silent (k4 k z z' z2 z3 σ1 ν1 q))
theorem zc_strike {p d : Int32} {post : Int32 → SG → NU → Prop} (h : SIM σ ν γ n np) (k1 : ¬ (0 ≤ p.toInt ∧ p.toInt < n) → post (-1381) σ ν) (k2 : ¬ (okd d) → (0 ≤ p.toInt ∧ p.toInt < n) → post (-1382) σ ν) (k3 : ∀ k : Nat, k < n → p = nI k → okd d → ¬ (γ 28 k = -1) → post (-1383) σ ν) (k4 : ∀ k : Nat, k < n → p = nI k → okd d → (γ 28 k = -1) → ∀ σ1 ν1, SIM σ1 ν1 (u2 (u2 γ 28 k (γ 0 0)) 29 k d) n np → post 0 σ1 ν1) : wpL_silent_2 σ ν ρ p d b c post := by
  unfold wpL_silent_2 wpL_tells_2
  exact y_strike h (fun z => hx_iob (k1 z)) (fun z z' => hx_iae (k2 z z')) (fun k z z' z2 z3 => hx_ise (k3 k z z' z2 z3)) (fun k z z' z2 z3 σ1 ν1 q => t_silent (k4 k z z' z2 z3 σ1 ν1 q))
theorem zc_suspend {p d f : Int32} {post : Int32 → SG → NU → Prop} (h : SIM σ ν γ n np) (k1 : ¬ (0 ≤ p.toInt ∧ p.toInt < n) → post (-1381) σ ν) (k2 : ¬ (okd d ∧ d.toInt ≤ f.toInt ∧ f.toInt ≤ 5000) → (0 ≤ p.toInt ∧ p.toInt < n) → post (-1382) σ ν) (k3 : ∀ k : Nat, k < n → p = nI k → okd d ∧ d.toInt ≤ f.toInt ∧ f.toInt ≤ 5000 → ¬ (γ 30 k = -1) → post (-1383) σ ν) (k4 : ∀ k : Nat, k < n → p = nI k → okd d ∧ d.toInt ≤ f.toInt ∧ f.toInt ≤ 5000 → (γ 30 k = -1) → ∀ σ1 ν1, SIM σ1 ν1 (u2 (u2 (u2 γ 30 k (γ 0 0)) 31 k d) 32 k f) n np → post 0 σ1 ν1) : wpL_silent_3 σ ν ρ p d f c post := by
  unfold wpL_silent_3 wpL_tells_3
  exact y_suspend h (fun z => hx_iob (k1 z)) (fun z z' => hx_iae (k2 z z')) (fun k z z' z2 z3 => hx_ise (k3 k z z' z2 z3)) (fun k z z' z2 z3 σ1 ν1 q => t_silent (k4 k z z' z2 z3 σ1 ν1 q))
end ZC
theorem q_looked {σ : SG} {ν : NU} {γ ρ : RH} {n np d kn te T : Nat} {post : Int32 → SG → NU → RH → Prop} (hS : SIM σ ν γ n np) (hL : LKW γ ρ n np) (hT : γ 0 0 = nI T) (hT9 : T ≤ 650) (hd : d < 100) (hk : kn ≤ T) (ht : te < 3) (k : ∀ σ' ν' γ' ρ', γ' = u2 (u2 (u2 γ 33 0 (nI d)) 34 0 (nI kn)) 35 0 (nI te) → ρ' = u2 (u2 (u2 ρ 0 5 (nI d)) 0 6 (nI kn)) 0 7 (nI te) → SIM σ' ν' γ' n np → LKW γ' ρ' n np → post 1 σ' ν' ρ') : wpL_isLooked σ ν ρ (nI d) (nI kn) (nI te) post := by
  have h20 := hS.h8.2.1
  unfold wpL_isLooked
  refine ⟨k14 (i := 5) (by decide), fun t2 e2 => ⟨k14 (i := 6) (by decide), fun t5 e5 => ⟨k14 (i := 7) (by decide), fun t8 e8 => ?_⟩⟩⟩
  have e9 : t8 = u2 (u2 (u2 ρ 0 5 (nI d)) 0 6 (nI kn)) 0 7 (nI te) := by rw [e8, e5, e2]; rfl
  obtain ⟨γ', eγ⟩ : ∃ γ', γ' = u2 (u2 (u2 γ 33 0 (nI d)) 34 0 (nI kn)) 35 0 (nI te) := ⟨_, rfl⟩
  have gr : ∀ j, j ≠ 33 → j ≠ 34 → j ≠ 35 → γ' j = γ j := fun j h1 h2 h3 => by rw [eγ, u2_oth h3, u2_oth h2, u2_oth h1]
  have rr : ∀ j, j ≠ 5 → j ≠ 6 → j ≠ 7 → t8 0 j = ρ 0 j := fun j h1 h2 h3 => by rw [e9, u2_cell (fun z => h3 z.2), u2_cell (fun z => h2 z.2), u2_cell (fun z => h1 z.2)]
  have ro : ∀ j, j ≠ 0 → t8 j = ρ j := fun j h1 => by rw [e9, u2_oth h1, u2_oth h1, u2_oth h1]
  have g33 : γ' 33 0 = nI d := by rw [eγ]; rfl
  have g34 : γ' 34 0 = nI kn := by rw [eγ]; rfl
  have g35 : γ' 35 0 = nI te := by rw [eγ]; rfl
  have hLW : LKW γ' t8 n np := by
    obtain ⟨⟨T', a1, a2, a3⟩, e2', e3', hA, -, hN, hI⟩ := hL
    refine ⟨⟨T', a1, by rw [gr 0 (by decide) (by decide) (by decide)]; exact a2, by rw [rr 0 (by decide) (by decide) (by decide)]; exact a3⟩, by rw [rr 2 (by decide) (by decide) (by decide)]; exact e2', by rw [rr 3 (by decide) (by decide) (by decide)]; exact e3', ?_, ?_, ?_, ?_⟩
    · exact hA.of (gr 1 (by decide) (by decide) (by decide)) (gr 2 (by decide) (by decide) (by decide)) (rr 1 (by decide) (by decide) (by decide)) (rr 4 (by decide) (by decide) (by decide))
    · refine ⟨?_, ?_, ?_, ⟨kn, by omega, g34⟩, ⟨d, hd, g33⟩, te, ht, g35⟩
      · rw [g33, e9]; rfl
      · rw [g34, e9]; rfl
      · rw [g35, e9]; rfl
    · exact hN.of (fun j h1 h2 => by rw [gr j (by omega) (by omega) (by omega)]) (fun j h1 h2 => rr j (by omega) (by omega) (by omega))
    · exact hI.of (fun i hi => by rw [gr 2 (by decide) (by decide) (by decide)]) (fun j hj => gr j (by omega) (by omega) (by omega)) (fun j h1 h2 => ro j (by omega))
  have h3 : t8 0 3 = nI np := hLW.2.2.1
  have hok : okL γ (nI d) (nI kn) (nI te) := by
    refine ⟨⟨?_, ?_⟩, ⟨?_, ?_⟩, ?_, ?_⟩
    · rw [ti_n (by omega)]; omega
    · rw [ti_n (by omega)]; omega
    · rw [ti_n (by omega)]; omega
    · rw [hT, ti_n (by omega), ti_n (by omega)]; omega
    · rw [ti_n (by omega)]; omega
    · rw [ti_n (by omega)]; omega
  refine zc_look hS (fun z => absurd hok z) (fun _ σ1 ν1 hS1 => ?_)
  rw [← eγ] at hS1 ⊢
  have hG := hS1.gd
  obtain ⟨hlen, hmem⟩ := ls9_len hG
  have hle : (ls9 (cv9 n np γ')).length ≤ np := Nat.le_trans (nodup_cn9 np _ (ls9_nodup hG) (fun x hx => ⟨hG.1.1 x (hmem x hx).1 (hmem x hx).2, (hmem x hx).2⟩)) (cn9_le np)
  have fin : post 1 σ1 ν1 t8 := k σ1 ν1 γ' t8 eγ e9 hS1 hLW
  rw [ti_n (by omega), if_neg (by omega)]
  refine ⟨k14 (i := 3) (by decide), ?_⟩
  rw [show ((3 : Int32)).toNatClampNeg = 3 from rfl, h3, ti_n (by omega), if_pos (by omega)]
  refine zc_provisionAt hS1 (fun z => absurd z (by rw [ti_n (by omega)]; omega)) (fun k1 hk1 e1 => ?_)
  have q1 : (ls9 (cv9 n np γ')).length = k1 := nI_inj (by omega) (by omega) e1
  rw [← q1, List.getElem?_eq_none (Nat.le_refl _), oI_none, if_pos ti_m1]
  unfold jL_isLooked_60
  rw [if_neg z1I, ti_n (by omega)]
  by_cases c : (ls9 (cv9 n np γ')).length = 0
  · rw [if_pos (by omega)]
    exact fin
  · have e11 : nI (ls9 (cv9 n np γ')).length - (1 : Int32) = nI ((ls9 (cv9 n np γ')).length - 1) := by rw [li1, pk_sub (by omega)]
    rw [if_neg (by omega), e11]
    refine zc_provisionAt hS1 (fun z => absurd z (by rw [ti_n (by omega)]; omega)) (fun k2 hk2 e3 => ?_)
    have q2 : (ls9 (cv9 n np γ')).length - 1 = k2 := nI_inj (by omega) (by omega) e3
    have hl : (ls9 (cv9 n np γ')).length - 1 < (ls9 (cv9 n np γ')).length := by omega
    have hm := (hmem _ (List.getElem_mem hl)).1
    rw [← q2, List.getElem?_eq_getElem hl, oI_some, ti_n (by omega), if_neg (by omega)]
    exact fin
