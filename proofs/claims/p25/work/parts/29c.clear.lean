/-! A view begins from nothing, in the reference. -/
def c09 (f : Nat → List Int32) : CS := (fun _ => false, fun _ => -1, fun _ => -1, fun _ => [], fun _ => 0, f)
theorem s_clear {n : Nat} {ρ : RH} {d kn te : Int32} {f : Nat → List Int32} {post : RH → Prop} (hn : ρ 11 0 = nI n) (h40 : n ≤ 40) (hf : ∀ i, i < n → AW ρ i (f i)) (k : ∀ ρ', RSC n ρ' (c09 f) → lgD ρ ρ' → ∃ m, wX7_views_120 d kn te post m ρ' 1 (-1) (-1)) : wpX7_views ρ d kn te post := by
  have L2 : ∀ e j, j + e = n → ∀ ρ1 : RH, lgD ρ ρ1 → (∀ q, q < 20 → ρ1 37 q = 0) → (∀ i, i < j → ρ1 36 i = 0 ∧ ρ1 43 i = ρ 20 i ∧ ∀ m, m < 4 → ρ1 44 (4 * i + m) = ρ 21 (4 * i + m)) → wX7_views_35 d kn te post (e + 1) ρ1 (nI j) := by
    intro e
    induction e with
    | zero =>
      intro j hj ρ1 r1 r2 r3
      have hjn : j = n := by omega
      subst hjn
      unfold wX7_views_35
      rw [r1 11 (by omega), hn, if_neg (by omega)]
      refine k ρ1 ⟨fun q hq => ⟨by rw [r2 q hq]; exact (bI_f (show ¬ (false = true) by decide)).symm, fun hx => absurd (show false = true from hx) (by decide)⟩, fun i hi => ?_⟩ r1
      obtain ⟨a1, a2, a3⟩ := r3 i hi
      obtain ⟨b1, b2, b3⟩ := hf i hi
      exact ⟨a1, b1, by rw [a2]; exact b2, fun m hm => by rw [a3 m (by have : m < (f i).length := hm; omega)]; exact b3 m hm⟩
    | succ e ih =>
      intro j hj ρ1 r1 r2 r3
      have hc : (nI j).toNatClampNeg = j := cl_n (by omega)
      have hv : vp_in (nI j) 40 := vi_n (by omega) (by decide)
      unfold wX7_views_35
      rw [r1 11 (by omega), hn, ti_n (by omega), ti_n (by omega), if_pos (by omega), hc]
      refine ⟨hv, ?_⟩
      intro t1 e1
      refine ⟨hv, hv, ?_⟩
      intro t2 e2
      have e20 : t1 20 j = ρ 20 j := by rw [e1, u2_oth (by decide), r1 20 (by omega)]
      rw [e20] at e2
      refine ⟨5, ?_⟩
      have L3 : ∀ e2 m, m + e2 = 4 → ∀ ρ2 : RH, lgD ρ ρ2 → (∀ q, q < 20 → ρ2 37 q = 0) → ρ2 36 j = 0 → ρ2 43 j = ρ 20 j → (∀ m', m' < m → ρ2 44 (4 * j + m') = ρ 21 (4 * j + m')) → (∀ i, i < j → ρ2 36 i = 0 ∧ ρ2 43 i = ρ 20 i ∧ ∀ m, m < 4 → ρ2 44 (4 * i + m) = ρ 21 (4 * i + m)) → wX7_views_69 d kn te (wX7_views_35 d kn te post (e + 1)) post (e2 + 1) ρ2 (nI j) (nI m) := by
        intro e2
        induction e2 with
        | zero =>
          intro m hm ρ2 q1 q2 q3 q4 q5 q6
          have hm4 : m = 4 := by omega
          subst hm4
          unfold wX7_views_69
          rw [ti_n (by omega), if_neg (by omega), li1, nI_add]
          refine ih (j + 1) (by omega) ρ2 q1 q2 (fun i hi => ?_)
          by_cases c : i = j
          · subst c; exact ⟨q3, q4, q5⟩
          · exact q6 i (by omega)
        | succ e2 ih2 =>
          intro m hm ρ2 q1 q2 q3 q4 q5 q6
          unfold wX7_views_69
          rw [ti_n (by omega), if_pos (by omega), li4, pk_mul, nI_add, li1, nI_add, cl_n (by omega)]
          refine ⟨vi_n (by omega) (by decide), vi_n (by omega) (by decide), ?_⟩
          intro t e9
          rw [q1 21 (by omega)] at e9
          refine ih2 (m + 1) (by omega) t (fun a ha => by rw [e9, u2_oth (by omega)]; exact q1 a ha) (fun q hq => by rw [e9, u2_oth (by decide)]; exact q2 q hq) (by rw [e9, u2_oth (by decide)]; exact q3) (by rw [e9, u2_oth (by decide)]; exact q4) (fun m' hm' => ?_) (fun i hi => ?_)
          · rw [e9, u2_at]
            by_cases c : m' = m
            · subst c; rw [if_pos rfl]
            · rw [if_neg (by omega)]; exact q5 m' (by omega)
          · obtain ⟨a1, a2, a3⟩ := q6 i hi
            rw [e9, u2_oth (by decide), u2_oth (by decide)]
            exact ⟨a1, a2, fun m2 h2 => by rw [u2_at, if_neg (by omega)]; exact a3 m2 h2⟩
      refine L3 4 0 rfl t2 (fun a ha => by rw [e2, u2_oth (by omega), e1, u2_oth (by omega)]; exact r1 a ha) (fun q hq => by rw [e2, u2_oth (by decide), e1, u2_oth (by decide)]; exact r2 q hq) (by rw [e2, u2_oth (by decide), e1, u2_at, if_pos rfl]) (by rw [e2, u2_at, if_pos rfl]) (fun m' h' => absurd h' (Nat.not_lt_zero m')) (fun i hi => ?_)
      obtain ⟨a1, a2, a3⟩ := r3 i hi
      refine ⟨by rw [e2, u2_oth (by decide), e1, u2_at, if_neg (by omega)]; exact a1, by rw [e2, u2_at, if_neg (by omega), e1, u2_oth (by decide)]; exact a2, fun m2 h2 => by rw [e2, u2_oth (by decide), e1, u2_oth (by decide)]; exact a3 m2 h2⟩
  have L1 : ∀ e j, j + e = 20 → ∀ ρ1 : RH, lgD ρ ρ1 → (∀ q, q < j → ρ1 37 q = 0) → wX7_views_3 d kn te post (e + 1) ρ1 (nI j) := by
    intro e
    induction e with
    | zero =>
      intro j hj ρ1 r1 r2
      have hj20 : j = 20 := by omega
      subst hj20
      unfold wX7_views_3
      rw [ti_n (by omega), if_neg (by omega)]
      exact ⟨n + 1, L2 n 0 (by omega) ρ1 r1 r2 (fun i hi => absurd hi (Nat.not_lt_zero i))⟩
    | succ e ih =>
      intro j hj ρ1 r1 r2
      have hv : vp_in (nI j) 20 := vi_n (by omega) (by decide)
      unfold wX7_views_3
      rw [ti_n (by omega), if_pos (by omega), cl_n (by omega), vn0, li1, nI_add]
      refine ⟨hv, ?_⟩
      intro t1 e1
      refine ⟨hv, ?_⟩
      intro t2 e2
      refine ih (j + 1) (by omega) t2 (fun a ha => by rw [e2, u2_oth (by omega), e1, u2_oth (by omega)]; exact r1 a ha) (fun q hq => ?_)
      rw [e2, u2_oth (by decide), e1, u2_at]
      by_cases c : q = j
      · rw [if_pos c]
      · rw [if_neg c]; exact r2 q (by omega)
  exact ⟨21, L1 20 0 rfl ρ lgD.rf (fun q hq => absurd hq (Nat.not_lt_zero q))⟩
