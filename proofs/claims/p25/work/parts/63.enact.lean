/-! enact and instruct: both throw alike, lay alike, answer alike. -/
def lay9 (n a : Nat) (ρ : RH) (kd of fi la : Int32) : RH := fun j k =>
  if j = 13 then (if k = n then kd else ρ 13 k) else
  if j = 14 then (if k = n then nI (a - 1) else ρ 14 k) else
  if j = 15 then (if k = n then of else ρ 15 k) else
  if j = 16 then (if k = n then fi else ρ 16 k) else
  if j = 17 then (if k = n then la else ρ 17 k) else
  if j = 18 then (if k = n then ρ 7 0 else ρ 18 k) else
  if j = 20 then (if k = n then ρ 9 0 else ρ 20 k) else
  if j = 22 then (if k = n then ρ 3 0 else ρ 22 k) else
  if j = 23 then (if k = n then ρ 4 0 else ρ 23 k) else
  if j = 24 then (if k = n then ρ 5 0 else ρ 24 k) else
  if j = 25 then (if k = n then ρ 6 0 else ρ 25 k) else
  if j = 26 then (if k = n then -1 else ρ 26 k) else
  if j = 28 then (if k = n then -1 else ρ 28 k) else
  if j = 30 then (if k = n then -1 else ρ 30 k) else
  if j = 19 then (if 4 * n ≤ k ∧ k < 4 * n + 4 then ρ 8 (k - 4 * n) else ρ 19 k) else
  if j = 21 then (if 4 * n ≤ k ∧ k < 4 * n + 4 then ρ 10 (k - 4 * n) else ρ 21 k) else
  if j = 7 then (if k = 0 then 0 else ρ 7 k) else if j = 9 then (if k = 0 then 0 else ρ 9 k) else if j = 11 then (if k = 0 then nI (n + 1) else ρ 11 k) else ρ j k
theorem lay9_oth {n a j : Nat} {ρ : RH} {kd of fi la : Int32} (h : j ≠ 7 ∧ j ≠ 9 ∧ j ≠ 11 ∧ (j < 13 ∨ j = 27 ∨ j = 29 ∨ 31 ≤ j)) : lay9 n a ρ kd of fi la j = ρ j := by
  funext k
  unfold lay9
  rw [if_neg (show ¬ j = 13 by omega), if_neg (show ¬ j = 14 by omega), if_neg (show ¬ j = 15 by omega), if_neg (show ¬ j = 16 by omega), if_neg (show ¬ j = 17 by omega), if_neg (show ¬ j = 18 by omega), if_neg (show ¬ j = 20 by omega), if_neg (show ¬ j = 22 by omega), if_neg (show ¬ j = 23 by omega), if_neg (show ¬ j = 24 by omega), if_neg (show ¬ j = 25 by omega), if_neg (show ¬ j = 26 by omega), if_neg (show ¬ j = 28 by omega), if_neg (show ¬ j = 30 by omega), if_neg (show ¬ j = 19 by omega), if_neg (show ¬ j = 21 by omega), if_neg (show ¬ j = 7 by omega), if_neg (show ¬ j = 9 by omega), if_neg (show ¬ j = 11 by omega)]
theorem lay9_laid {n a : Nat} {ρ : RH} {kd of fi la : Int32} : LAID n a ρ (lay9 n a ρ kd of fi la) kd of fi la :=
  ⟨fun _ => rfl, fun _ => rfl, fun _ => rfl, fun _ => rfl, fun _ => rfl, fun _ => rfl, fun _ => rfl, fun _ => rfl, fun _ => rfl, fun _ => rfl, fun _ => rfl, fun _ => rfl, fun _ => rfl, fun _ => rfl, fun _ => rfl, fun _ => rfl, rfl, rfl, rfl, fun j q7 q9 q11 _ q => lay9_oth ⟨q7, q9, q11, q⟩⟩
theorem lay9_lgd {n a : Nat} {ρ ρ' : RH} {kd of fi la : Int32} (h : LAID n a ρ ρ' kd of fi la) (h12 : ρ' 12 = ρ 12) (h0 : ∀ i, i ≠ 0 → ρ' 7 i = ρ 7 i ∧ ρ' 9 i = ρ 9 i ∧ ρ' 11 i = ρ 11 i) : lgd (lay9 n a ρ kd of fi la) ρ' := by
  obtain ⟨r13, r14, r15, r16, r17, r18, r19, r20, r21, r22, r23, r24, r25, r26, r28, r30, r7, r9, r11, ro⟩ := h
  intro j hj
  by_cases q13 : j = 13
  · subst q13; funext k; exact r13 k
  by_cases q14 : j = 14
  · subst q14; funext k; exact r14 k
  by_cases q15 : j = 15
  · subst q15; funext k; exact r15 k
  by_cases q16 : j = 16
  · subst q16; funext k; exact r16 k
  by_cases q17 : j = 17
  · subst q17; funext k; exact r17 k
  by_cases q18 : j = 18
  · subst q18; funext k; exact r18 k
  by_cases q19 : j = 19
  · subst q19; funext k; exact r19 k
  by_cases q20 : j = 20
  · subst q20; funext k; exact r20 k
  by_cases q21 : j = 21
  · subst q21; funext k; exact r21 k
  by_cases q22 : j = 22
  · subst q22; funext k; exact r22 k
  by_cases q23 : j = 23
  · subst q23; funext k; exact r23 k
  by_cases q24 : j = 24
  · subst q24; funext k; exact r24 k
  by_cases q25 : j = 25
  · subst q25; funext k; exact r25 k
  by_cases q26 : j = 26
  · subst q26; funext k; exact r26 k
  by_cases q28 : j = 28
  · subst q28; funext k; exact r28 k
  by_cases q30 : j = 30
  · subst q30; funext k; exact r30 k
  by_cases q7 : j = 7
  · subst q7
    funext k
    by_cases z : k = 0
    · subst z; exact r7
    · rw [(h0 k z).1]; exact (if_neg z).symm
  by_cases q9 : j = 9
  · subst q9
    funext k
    by_cases z : k = 0
    · subst z; exact r9
    · rw [(h0 k z).2.1]; exact (if_neg z).symm
  by_cases q11 : j = 11
  · subst q11
    funext k
    by_cases z : k = 0
    · subst z; exact r11
    · rw [(h0 k z).2.2]; exact (if_neg z).symm
  rw [lay9_oth ⟨q7, q9, q11, by omega⟩]
  by_cases q12 : j = 12
  · subst q12; exact h12
  · exact ro j q7 q9 q11 q12 (by omega)
def okLab (p0 p1 : Int32) : Prop := ∃ N L : Nat, 1 ≤ N ∧ N ≤ 99 ∧ L ≤ 728 ∧ (L = 0 ∨ L % 27 ≠ 0) ∧ p0 = nI N ∧ p1 = nI L
theorem okLab_l {p0 p1 : Int32} (h : okLab p0 p1) : okl (((1000 : Int32) * p0) + p1) := by
  obtain ⟨N, L, h1, h2, h3, h4, rfl, rfl⟩ := h
  refine ⟨1000 * N + L, by omega, by omega, ?_, by rw [li1000, pk_mul, nI_add]⟩
  have e : (1000 * N + L) % 1000 = L := by omega
  rw [e]
  exact h4
theorem r_isLabel {ρ : RH} {p0 p1 : Int32} {post : Int32 → Prop} (kn : ¬ okLab p0 p1 → post 0) (ky : okLab p0 p1 → post 1) : wpX7_isLabel ρ p0 p1 post := by
  have t1 : (1 : Int32).toInt = 1 := by decide
  have t99 : (99 : Int32).toInt = 99 := by decide
  have t728 : (728 : Int32).toInt = 728 := by decide
  unfold wpX7_isLabel
  refine s_isIn ?_
  rw [t1, t99]
  by_cases c1 : 1 ≤ p0.toInt ∧ p0.toInt ≤ 99
  · rw [bI_t c1, if_neg z1I]
    refine s_isIn ?_
    rw [z0I, t728]
    by_cases c2 : 0 ≤ p1.toInt ∧ p1.toInt ≤ 728
    · rw [bI_t c2, if_neg z1I]
      obtain ⟨N, hN, rfl⟩ := in_nI (N := 100) (p := p0) (by omega) (by omega)
      obtain ⟨L, hL, rfl⟩ := in_nI (N := 729) c2.1 (by omega)
      rw [ti_n (by omega)] at c1
      rw [ti_n (by omega), li27, md9 (by omega) (by decide) (by decide), ti_n (by omega)]
      by_cases c3 : L < 27
      · rw [if_pos (by omega)]
        exact ky ⟨N, L, by omega, by omega, by omega, by omega, rfl, rfl⟩
      · rw [if_neg (by omega)]
        by_cases c4 : L % 27 = 0
        · rw [if_pos (by omega)]
          refine kn (fun ⟨N', L', _, _, a3, a4, _, a6⟩ => ?_)
          have : L = L' := nI_inj (by omega) (by omega) a6
          omega
        · rw [if_neg (by omega)]
          exact ky ⟨N, L, by omega, by omega, by omega, Or.inr c4, rfl, rfl⟩
    · rw [bI_f c2, if_pos z0I]
      refine kn (fun ⟨N, L, _, _, a3, _, _, a6⟩ => c2 ?_)
      rw [a6, ti_n (by omega)]
      omega
  · rw [bI_f c1, if_pos z0I]
    refine kn (fun ⟨N, L, a1, a2, _, _, a5, _⟩ => c1 ?_)
    rw [a5, ti_n (by omega)]
    omega
theorem c_needLabel {σ : SG} {ν : NU} {p0 p1 : Int32} {post : Prop} {px : String → Prop} (kn : ¬ okLab p0 p1 → px IAE) (ky : okLab p0 p1 → post) : wpX6_needLabel σ ν p0 p1 post px := by
  have bad0 : ¬ (1 ≤ p0.toInt ∧ p0.toInt ≤ 99) → px IAE := fun c1 => kn (fun ⟨N, L, a1, a2, _, _, a5, _⟩ => c1 (by rw [a5, ti_n (by omega)]; omega))
  have bad1 : ¬ (0 ≤ p1.toInt ∧ p1.toInt ≤ 728) → px IAE := fun c2 => kn (fun ⟨N, L, _, _, a3, _, _, a6⟩ => c2 (by rw [a6, ti_n (by omega)]; omega))
  unfold wpX6_needLabel
  by_cases c1 : p0.toInt < 1
  · rw [if_pos c1]; exact bad0 (fun z => by omega)
  rw [if_neg c1]
  by_cases c2 : ¬ p0.toInt ≤ 99
  · rw [if_neg c2]; exact bad0 (fun z => c2 z.2)
  have c2 := Decidable.byContradiction c2
  rw [if_pos c2]
  by_cases c3 : p1.toInt < 0
  · rw [if_pos c3]; exact bad1 (fun z => by omega)
  rw [if_neg c3]
  by_cases c4 : ¬ p1.toInt ≤ 728
  · rw [if_neg c4]; exact bad1 (fun z => c4 z.2)
  have c4 := Decidable.byContradiction c4
  rw [if_pos c4]
  obtain ⟨N, hN, rfl⟩ := in_nI (N := 100) (p := p0) (by omega) (by omega)
  obtain ⟨L, hL, rfl⟩ := in_nI (N := 729) (p := p1) (by omega) (by omega)
  rw [ti_n (by omega)] at c1
  rw [ti_n (by omega), li27, md9 (by omega) (by decide) (by decide), ti_n (by omega)]
  by_cases c5 : L = 0
  · rw [if_pos (by omega)]
    exact ky ⟨N, L, by omega, by omega, by omega, Or.inl c5, rfl, rfl⟩
  · rw [if_neg (by omega)]
    by_cases c6 : L % 27 = 0
    · rw [if_pos (by omega)]
      refine kn (fun ⟨N', L', _, _, a3, a4, _, a6⟩ => ?_)
      have : L = L' := nI_inj (by omega) (by omega) a6
      omega
    · rw [if_neg (by omega)]
      exact ky ⟨N, L, by omega, by omega, by omega, Or.inr c6, rfl, rfl⟩
/-- an act was made today, and there is room -/
def opn9 (n : Nat) (ρ : RH) : Prop := n < 40 ∧ ∃ a : Nat, 0 < a ∧ a ≤ 10 ∧ ρ 1 0 = nI a ∧ ρ 2 (a - 1) = ρ 0 0
theorem r_isShut {σ : SG} {ρ : RH} {n np : Nat} {post : Int32 → Prop} (hD : DAT n np ρ) (hA : ADY σ ρ n) (kn : ¬ opn9 n ρ → post 1) (ky : opn9 n ρ → post 0) : wpX7_isShut ρ post := by
  have h40 := hD.1
  obtain ⟨d1, d2, a, d3, d4, d5, d6, d7, d8, d9⟩ := hA
  have t40 : (nI 40).toInt = 40 := ti_n (by omega)
  unfold wpX7_isShut
  rw [d4, ti_n (by omega)]
  by_cases c : a = 0
  · rw [if_pos (by omega)]
    refine kn (fun ⟨_, b, b1, b2, b3, _⟩ => ?_)
    have : a = b := nI_inj (by omega) (by omega) (d4.symm.trans b3)
    omega
  · rw [if_neg (by omega), li1, pk_sub (by omega), cl_n (by omega)]
    refine ⟨vi_n (by omega) (by decide), ?_⟩
    by_cases c2 : ρ 2 (a - 1) = ρ 0 0
    · rw [if_pos (by rw [c2]), hD.2.2.1, ti_n (by omega)]
      by_cases c3 : n = 40
      · rw [if_pos (by omega)]; exact kn (fun z => by have := z.1; omega)
      · rw [if_neg (by omega)]; exact ky ⟨by omega, a, by omega, d3, d4, c2⟩
    · rw [if_neg (fun z => c2 (ti_eq.mp z))]
      refine kn (fun ⟨_, b, b1, b2, b3, b4⟩ => ?_)
      have : a = b := nI_inj (by omega) (by omega) (d4.symm.trans b3)
      subst this
      exact c2 b4
theorem c_needRoom {σ : SG} {ν : NU} {ρ : RH} {n np : Nat} {post : Prop} {px : String → Prop} (hD : DAT n np ρ) (hL : LI9 σ ν n) (hA : ADY σ ρ n) (kn : ¬ opn9 n ρ → px ISE) (ky : opn9 n ρ → post) : wpX6_needRoomInAct σ ν post px := by
  have h40 := hD.1
  obtain ⟨d1, d2, a, d3, d4, d5, d6, d7, d8, d9⟩ := hA
  unfold wpX6_needRoomInAct
  rw [d6, d1]
  by_cases c : a = 0
  · rw [if_pos c, if_neg (fun z => by have := d2.1; rw [← z, ti_m1] at this; omega)]
    refine kn (fun ⟨_, b, b1, b2, b3, _⟩ => ?_)
    have : a = b := nI_inj (by omega) (by omega) (d4.symm.trans b3)
    omega
  · rw [if_neg c]
    by_cases c2 : ρ 2 (a - 1) = ρ 0 0
    · rw [if_pos (by rw [c2])]
      refine s_size0 hL ?_
      rw [ti_n (by omega)]
      by_cases c3 : n < 40
      · rw [if_pos (by omega)]; exact ky ⟨c3, a, by omega, d3, d4, c2⟩
      · rw [if_neg (by omega)]; exact kn (fun z => c3 z.1)
    · rw [if_neg (fun z => c2 (ti_eq.mp z))]
      refine kn (fun ⟨_, b, b1, b2, b3, b4⟩ => ?_)
      have : a = b := nI_inj (by omega) (by omega) (d4.symm.trans b3)
      subst this
      exact c2 b4
theorem c_needPT {σ : SG} {ν : NU} {np : Nat} {p : Int32} {post : Prop} {px : String → Prop} (h7 : σ 0 0 7 = nI np) (h20 : np ≤ 20) (kn : ¬ (p = -1 ∨ (0 ≤ p.toInt ∧ p.toInt < np)) → px IOB) (ky : p = -1 ∨ (0 ≤ p.toInt ∧ p.toInt < np) → post) : wpX6_needProvisionOrTop σ ν p post px := by
  unfold wpX6_needProvisionOrTop
  by_cases c : p = -1
  · rw [if_pos (by rw [c]; exact ti_m1)]; exact ky (Or.inl c)
  · rw [if_neg (fun z => c (ti_eq.mp (z.trans ti_m1.symm)))]
    exact c_needP h7 h20 (fun z => kn (fun y => y.elim c z)) (fun z => ky (Or.inr z))
theorem pt_q {np : Nat} {p : Int32} (h20 : np ≤ 20) (h : p = -1 ∨ (0 ≤ p.toInt ∧ p.toInt < np)) : p = -1 ∨ ∃ q, q < 20 ∧ p = nI q := by
  rcases h with h | h
  · exact Or.inl h
  · obtain ⟨k, hk, e⟩ := in_nI h.1 h.2
    exact Or.inr ⟨k, by omega, e⟩
set_option maxRecDepth 100000 in
set_option maxHeartbeats 2000000 in
theorem z_enact {σ : SG} {ν : NU} {ρ : RH} {n np : Nat} (h : SIM σ ν ρ n np) (p1 p2 p3 : Int32) : ZS [IOB, IAE, ISE] (fun post px => wpX6_enact σ ν p1 p2 p3 post (fun E => px E σ ν)) (wpX7_enact ρ p1 p2 p3) := by
  obtain ⟨⟨hD, hC, ⟨b1, b2, b3, b4, b5, b6⟩, h7, hA, hX, h5⟩, hV⟩ := id h
  have h20 := hD.2.1
  obtain ⟨e1, e2, ⟨ms, hms, es⟩, e4, ⟨mf, hmf, ef⟩, e6, e7, e8⟩ := id hX
  have e4' := e4
  rw [es] at e4'
  have hcs := (PH_of hms e4').1
  have stay : ∀ σ' ν' ρ', SIM σ' ν' ρ n np → lgd ρ ρ' → ∃ n' np', SIM σ' ν' ρ' n' np' := fun σ' ν' ρ' a b => ⟨n, np, a.lo b⟩
  have R58 : ∀ (c : Int32) (post : Int32 → RH → Prop), c ≠ 0 → (∀ t, lgd ρ t → t 48 0 = c → post 0 t) → jX7_enact_58 p1 p2 p3 post ρ 0 c := by
    intro c post q k1
    unfold jX7_enact_58
    refine s_goes (fun t et => ?_)
    rw [bI_f q, if_pos z0I]
    subst et
    exact k1 _ lgd_48 (by rw [u2_at, if_pos rfl])
  have R0 : ∀ (post : Int32 → RH → Prop), (¬ (p1 = -1 ∨ (0 ≤ p1.toInt ∧ p1.toInt < np)) → jX7_enact_58 p1 p2 p3 post ρ 0 1) → (p1 = -1 ∨ (0 ≤ p1.toInt ∧ p1.toInt < np) → jX7_enact_18 p1 p2 p3 post ρ 0) → wpX7_enact ρ p1 p2 p3 post := by
    intro post k1 k2
    unfold wpX7_enact
    by_cases c : p1 = -1
    · rw [if_pos (by rw [c]; exact ti_m1)]; exact k2 (Or.inl c)
    · rw [if_neg (fun z => c (ti_eq.mp (z.trans ti_m1.symm)))]
      refine s_isProvisionR hD.2.2.2.1 h20 ?_
      by_cases c2 : 0 ≤ p1.toInt ∧ p1.toInt < np
      · rw [bI_t c2, if_neg z1I]; exact k2 (Or.inr c2)
      · rw [bI_f c2, if_pos z0I]; exact k1 (fun z => z.elim c c2)
  have R18 : ∀ (post : Int32 → RH → Prop), (¬ okLab p2 p3 → jX7_enact_58 p1 p2 p3 post ρ 0 2) → (okLab p2 p3 → ¬ (opn9 n ρ ∧ np < 20 ∧ ms = 0) → jX7_enact_58 p1 p2 p3 post ρ 0 3) → (okLab p2 p3 → opn9 n ρ ∧ np < 20 ∧ ms = 0 → jX7_enact_58 p1 p2 p3 post ρ 0 0) → jX7_enact_18 p1 p2 p3 post ρ 0 := by
    intro post k1 k2 k3
    unfold jX7_enact_18
    refine r_isLabel (fun c => ?_) (fun c => ?_)
    · rw [if_pos z0I]; exact k1 c
    · rw [if_neg z1I]
      refine r_isShut hD hA (fun c2 => ?_) (fun c2 => ?_)
      · rw [if_neg z1I]; exact k2 c (fun z => c2 z.1)
      · rw [if_pos z0I, hD.2.2.2.1, es, ti_n (by omega), ti_n (by omega)]
        by_cases c3 : np = 20
        · rw [if_pos (by omega)]; exact k2 c (fun z => by have := z.2.1; omega)
        · rw [if_neg (by omega)]
          by_cases c4 : ms = 0
          · rw [if_pos (by omega)]; exact k3 c ⟨c2, by omega, c4⟩
          · rw [if_neg (by omega)]; exact k2 c (fun z => c4 z.2.2)
  by_cases c1 : ¬ (p1 = -1 ∨ (0 ≤ p1.toInt ∧ p1.toInt < np))
  · refine ⟨1, 0, fun s m => SIM s m ρ n np, fun ρ' => lgd ρ ρ', c_needPT h7 h20 (fun _ => ⟨xk9_0, h⟩) (fun z => absurd z c1), R0 _ (fun _ => R58 1 _ i1n0 (fun t g e => ⟨e, fun q => absurd q i1n0, g⟩)) (fun z => absurd z c1), stay⟩
  have c1 := Decidable.byContradiction c1
  by_cases c2 : ¬ okLab p2 p3
  · refine ⟨2, 0, fun s m => SIM s m ρ n np, fun ρ' => lgd ρ ρ', c_needPT h7 h20 (fun z => absurd c1 z) (fun _ => c_needLabel (fun _ => ⟨xk9_1, h⟩) (fun z => absurd z c2)), R0 _ (fun z => absurd c1 z) (fun _ => R18 _ (fun _ => R58 2 _ i2n0 (fun t g e => ⟨e, fun q => absurd q i2n0, g⟩)) (fun z => absurd z c2) (fun z => absurd z c2)), stay⟩
  have c2 := Classical.byContradiction c2
  -- the class, behind the label
  have C3 : ∀ (post : Int32 → SG → NU → Prop) (px : String → Prop), (¬ (opn9 n ρ ∧ np < 20 ∧ ms = 0) → px ISE) → (opn9 n ρ ∧ np < 20 ∧ ms = 0 → wpX6_add (u3 (u3 σ 3 n 5 p1) 3 n 6 (((1000 : Int32) * p2) + p3)) ν 0 (nI np) (fun t10 vv11 => ∀ t15 : SG, t15 = u3 t10 0 0 7 ((t10 0 0 7) + ((1 : Int32))) → wpX5_build t15 vv11 0 0 (fun t17 vv18 => post ((t17 0 0 7) - ((1 : Int32))) t17 vv18))) → wpX6_enact σ ν p1 p2 p3 post px := by
    intro post px k1 k2
    refine c_needPT h7 h20 (fun z => absurd c1 z) (fun _ => c_needLabel (fun z => absurd c2 z) (fun _ => c_needRoom hD b3 hA (fun z => k1 (fun y => z y.1)) (fun c3 => ?_)))
    rw [h7, ti_n (by omega), b2]
    by_cases c4 : np < 20
    · rw [if_pos (by omega)]
      refine ⟨by omega, by omega, ?_⟩
      rw [hcs, ti_n (by omega)]
      by_cases c5 : ms = 0
      · rw [if_pos (by omega)]
        intro t5 e5 t8 e8
        have e9 : t8 0 0 7 = nI np := by rw [e8, u3_oth (fun z => by omega), e5, u3_oth (fun z => by omega)]; exact h7
        rw [e9, e8, e5]
        exact k2 ⟨c3, c4, c5⟩
      · rw [if_neg (by omega)]; exact k1 (fun z => c5 z.2.2)
    · rw [if_neg (by omega)]; exact k1 (fun z => c4 z.2.1)
  by_cases c3 : ¬ (opn9 n ρ ∧ np < 20 ∧ ms = 0)
  · refine ⟨3, 0, fun s m => SIM s m ρ n np, fun ρ' => lgd ρ ρ', C3 _ _ (fun _ => ⟨xk9_2, h⟩) (fun z => absurd z c3), R0 _ (fun z => absurd c1 z) (fun _ => R18 _ (fun z => absurd c2 z) (fun _ _ => R58 3 _ i3n0 (fun t g e => ⟨e, fun q => absurd q i3n0, g⟩)) (fun _ z => absurd z c3)), stay⟩
  have c3 := Classical.byContradiction c3
  obtain ⟨⟨hn, a, ha0, ha9, ha1, hday⟩, hnp, hm0⟩ := id c3
  have hlab := okLab_l c2
  refine ⟨0, nI np, fun s m => SIM s m (u2 (lay9 n a ρ 0 (nI np) p1 (((1000 : Int32) * p2) + p3)) 12 0 (nI (np + 1))) (n + 1) (np + 1), fun ρ' => lgd (u2 (lay9 n a ρ 0 (nI np) p1 (((1000 : Int32) * p2) + p3)) 12 0 (nI (np + 1))) ρ', C3 _ _ (fun z => absurd c3 z) (fun _ => ?_), R0 _ (fun z => absurd c1 z) (fun _ => R18 _ (fun z => absurd c2 z) (fun _ z => absurd c3 z) (fun _ _ => ?_)), fun σ' ν' ρ' q b => ⟨n + 1, np + 1, q.lo b⟩⟩
  · have hσ : ∀ x y, ¬ (x = 3 ∧ y = n) → u3 (u3 σ 3 n 5 p1) 3 n 6 (((1000 : Int32) * p2) + p3) x y = σ x y := fun x y z => by rw [u3_oth z, u3_oth z]
    have hL' : LI9 (u3 (u3 σ 3 n 5 p1) 3 n 6 (((1000 : Int32) * p2) + p3)) ν n := b3.same (by rw [hσ 7 0 (fun z => by omega)]) rfl rfl rfl
    refine c_add hn b1 b2 hL' b4 (fun σ' ν' hAd t15 e15 => ?_)
    have e07 : σ' 0 0 7 = nI np := by rw [hAd.2.2.2.2.2.2.1 0 0 (by decide) (by decide) (by decide) (by decide) (fun z => by omega), hσ 0 0 (fun z => by omega)]; exact h7
    rw [e07, nI_1] at e15
    have hS := SIMD_lay (K := 0) (p := np) (np' := np + 1) (σ9 := t15) (ρ9 := u2 (lay9 n a ρ 0 (nI np) p1 (((1000 : Int32) * p2) + p3)) 12 0 (nI (np + 1))) h hσ hAd (fun x y z => by rw [e15, u3_oth z]) (fun c hc => by rw [e15, u3_at, if_neg hc]) (by rw [e15, u3_at, if_pos rfl]) lay9_laid (fun j hj => u2_oth hj) (by rw [u2_at, if_pos rfl]) (by omega) (by omega) hn ha1 ha9 ha0 hday (by omega) rfl (fun z => absurd z (by decide)) (fun _ => by omega) (fun _ => pt_q h20 c1) (fun z => absurd z (by decide)) (fun _ => hlab) (fun _ => Nat.le_refl _) (fun _ => by rw [u3_at, if_neg (by decide), u3_at, if_pos rfl]) (fun _ => by rw [u3_at, if_pos rfl])
    refine s_buildS hS (fun σ1 ν1 hs g0 _ => ⟨rfl, ?_, hs⟩)
    rw [g0, e15, u3_at, if_pos rfl, li1, pk_sub (by omega), Nat.add_sub_cancel]
  · unfold jX7_enact_58
    refine s_goes (fun t et => ?_)
    rw [bI_t rfl, if_neg z1I]
    have et12 : t 12 0 = nI np := by rw [et, u2_oth (by decide)]; exact hD.2.2.2.1
    rw [et12]
    refine s_lays (n := n) (a := a) (by rw [et, u2_oth (by decide)]; exact hD.2.2.1) hn (by rw [et, u2_oth (by decide)]; exact ha1) ha0 (fun ρ' hl g12 g48 g0 t11 e11 => ?_)
    have e12 : ρ' 12 0 = nI np := by rw [g12]; exact et12
    rw [e12, nI_1] at e11
    refine ⟨by rw [e11, u2_oth (by decide), g48, et, u2_at, if_pos rfl], fun _ => by rw [e11, u2_at, if_pos rfl, li1, pk_sub (by omega), Nat.add_sub_cancel], ?_⟩
    have gl := lay9_lgd hl g12 g0
    have hlt : ∀ j, j < 36 → lay9 n a t 0 (nI np) p1 (((1000 : Int32) * p2) + p3) j = lay9 n a ρ 0 (nI np) p1 (((1000 : Int32) * p2) + p3) j := fun j hj => by
      have ht : ∀ i, i < 48 → t i = ρ i := fun i hi => by rw [et, u2_oth (by omega)]
      funext k
      unfold lay9
      rw [ht 13 (by omega), ht 14 (by omega), ht 15 (by omega), ht 16 (by omega), ht 17 (by omega), ht 18 (by omega), ht 20 (by omega), ht 22 (by omega), ht 23 (by omega), ht 24 (by omega), ht 25 (by omega), ht 26 (by omega), ht 28 (by omega), ht 30 (by omega), ht 19 (by omega), ht 21 (by omega), ht 7 (by omega), ht 9 (by omega), ht 11 (by omega), ht 8 (by omega), ht 10 (by omega), ht 3 (by omega), ht 4 (by omega), ht 5 (by omega), ht 6 (by omega), ht j (by omega)]
    intro j hj
    rw [e11]
    by_cases q : j = 12
    · subst q
      funext k
      rw [u2_at, u2_at]
      by_cases z : k = 0
      · rw [if_pos z, if_pos z]
      · rw [if_neg z, if_neg z, gl 12 (by omega), hlt 12 (by omega)]
    · rw [u2_oth q, u2_oth q, gl j hj, hlt j hj]
