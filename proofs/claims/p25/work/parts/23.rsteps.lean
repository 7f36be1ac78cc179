/-! What the reference's instructions do to the code. -/
def lgD (ρ ρ' : RH) : Prop := ∀ j, (j < 36 ∨ j = 48) → ρ' j = ρ j
theorem lgD.rf {ρ : RH} : lgD ρ ρ := fun _ _ => rfl
theorem lgD.tr {a b c : RH} (h1 : lgD a b) (h2 : lgD b c) : lgD a c := fun j h => (h2 j h).trans (h1 j h)
theorem lgD.of41 {ρ ρ' : RH} (h : lg41 ρ ρ') : lgD ρ ρ' := fun j hj => h j (by omega) (by omega) (by omega)
theorem lgD.ofT {p : Nat} {ρ ρ' : RH} (h : lgT p ρ ρ') : lgD ρ ρ' := fun j hj => h.1 j (by omega) (by omega) (by omega) (by omega) (by omega) (by omega)
theorem lgD.u {ρ : RH} {j i : Nat} {x : Int32} (h1 : 36 ≤ j) (h2 : j ≠ 48) : lgD ρ (u2 ρ j i x) := fun k hk => u2_oth (by omega)
theorem u2_same {f : RH} {k i : Nat} : u2 f k i (f k i) = f := by
  funext a c
  unfold u2
  split
  · next h => rw [h.1, h.2]
  · rfl
theorem vn1 : vp_nar .boolean (1 : Int32) = 1 := by decide
theorem vn0 : vp_nar .boolean (0 : Int32) = 0 := by decide
theorem u2_at {f : RH} {k i c : Nat} {x : Int32} : u2 f k i x k c = if c = i then x else f k c := by simp [u2]
theorem s_enacts {n np i p : Nat} {ρ : RH} {C : CS} {par lab : Int32} {post : Int32 → RH → Prop} (h : RSC n ρ C) (hi : i < n) (hn : n ≤ 40) (hnp : ρ 12 0 = nI np) (h20 : np ≤ 20) (h15 : ρ 15 i = nI p) (hp : p < 20) (h16 : ρ 16 i = par) (hpar : par = -1 ∨ ∃ q, q < 20 ∧ par = nI q) (h17 : ρ 17 i = lab) (hm : ρ 45 0 = 0)
    (hno : (pl9 C par && !any9 (fh9 C par lab (-1)) np) = false → post 0 ρ) (hyes : (pl9 C par && !any9 (fh9 C par lab (-1)) np) = true → ∀ ρ', RSC n ρ' (cEn C p par lab (tag9 (C.2.2.2.2.2 i) (nI i))) → lgD ρ ρ' → post 1 ρ') : wpX7_enacts ρ (nI i) post := by
  have hci : (nI i).toNatClampNeg = i := cl_n (by omega)
  have hcp : (nI p).toNatClampNeg = p := cl_n (by omega)
  have h4 := (h.2 i hi).2.1
  unfold wpX7_enacts
  refine ⟨vi_n (by omega) (by decide), vi_n (by omega) (by decide), ?_⟩
  rw [hci, h16, h15]
  refine s_isPlace h hpar ?_
  cases hpl : pl9 C par with
  | false =>
    rw [bI_f (by decide), if_pos z0I]
    exact hno (by simp [hpl])
  | true =>
    rw [bI_t rfl, if_neg z1I]
    refine ⟨vi_n (by omega) (by decide), ?_⟩
    rw [h17]
    refine s_hasLabel h hnp h20 ?_
    cases hl : any9 (fh9 C par lab (-1)) np with
    | true =>
      rw [bI_t rfl, if_neg z1I]
      exact hno (by simp [hl])
    | false =>
      rw [bI_f (by decide), if_pos z0I]
      refine ⟨vi_n hp (by decide), ?_⟩
      intro t9 e9
      refine ⟨vi_n hp (by decide), ?_⟩
      intro t12 e12
      refine ⟨vi_n (by omega) (by decide), vi_n hp (by decide), ?_⟩
      intro t16 e16
      rw [hcp] at e9 e12 e16
      have e17 : t12 17 i = lab := by rw [e12, u2_oth (by decide), e9, u2_oth (by decide), h17]
      rw [e17] at e16
      have r37 : ∀ q, t16 37 q = if q = p then 1 else ρ 37 q := fun q => by rw [e16, u2_oth (by decide), e12, u2_oth (by decide), e9, u2_at, vn1]
      have r38 : ∀ q, t16 38 q = if q = p then lab else ρ 38 q := fun q => by rw [e16, u2_at, e12, u2_oth (by decide), e9, u2_oth (by decide)]
      have r39 : ∀ q, t16 39 q = if q = p then par else ρ 39 q := fun q => by rw [e16, u2_oth (by decide), e12, u2_at, e9, u2_oth (by decide)]
      have ro : ∀ j, j ≠ 37 → j ≠ 38 → j ≠ 39 → t16 j = ρ j := fun j a b c => by rw [e16, u2_oth b, e12, u2_oth c, e9, u2_oth a]
      refine s_putsNew (l := []) (MK.nil (by rw [ro 45 (by decide) (by decide) (by decide)]; exact hm)) (by omega) ((h.2 i hi).2.same (ro 43 (by decide) (by decide) (by decide)) (ro 44 (by decide) (by decide) (by decide))) (by decide) (fun ρ1 hM g1 => ?_)
      have hlen : ([] ++ tag9 (C.2.2.2.2.2 i) (nI i) : TXT).length ≤ 4 := by rw [List.nil_append, tag9_len]; exact h4
      have hcap : cap9 ([] ++ tag9 (C.2.2.2.2.2 i) (nI i)) = some (tag9 (C.2.2.2.2.2 i) (nI i)) := by
        unfold cap9
        rw [if_pos (by omega), List.nil_append]
      refine s_takes hM (by omega) hp (fun hc => by rw [hcap] at hc; cases hc) (fun t ht ρ2 hT g2 => ⟨Or.inr rfl, ?_⟩)
      rw [hcap] at ht
      cases ht
      have q1 : ∀ j, j ≠ 40 → j ≠ 41 → j ≠ 42 → j ≠ 45 → j ≠ 46 → j ≠ 47 → ρ2 j = t16 j := fun j a b c d e f => (g2.1 j a b c d e f).trans (g1 j d e f)
      refine hyes (by simp [hpl, hl]) ρ2 ⟨fun q hq => ?_, fun k hk => ?_⟩ (fun j hj => by rw [q1 j (by omega) (by omega) (by omega) (by omega) (by omega) (by omega)]; exact ro j (by omega) (by omega) (by omega))
      · rw [q1 37 (by decide) (by decide) (by decide) (by decide) (by decide) (by decide), q1 38 (by decide) (by decide) (by decide) (by decide) (by decide) (by decide), q1 39 (by decide) (by decide) (by decide) (by decide) (by decide) (by decide), r37, r38, r39]
        show _ = bI (va_up C.1 p true q = true) ∧ (va_up C.1 p true q = true → _ = va_up C.2.1 p lab q ∧ _ = va_up C.2.2.1 p par q ∧ TX ρ2 q (va_up C.2.2.2.1 p (tag9 (C.2.2.2.2.2 i) (nI i)) q))
        by_cases e : q = p
        · subst e
          simp only [va_up_self, if_true]
          exact ⟨(bI_t trivial).symm, fun _ => ⟨trivial, trivial, hT⟩⟩
        · rw [va_up_ne _ _ e, va_up_ne _ _ e, va_up_ne _ _ e, va_up_ne _ _ e, if_neg e, if_neg e, if_neg e]
          obtain ⟨b1, b2⟩ := h.1 q hq
          refine ⟨b1, fun hth => ⟨(b2 hth).1, (b2 hth).2.1, ?_⟩⟩
          have hx : TX t16 q (C.2.2.2.1 q) := by
            have := (b2 hth).2.2
            unfold TX at *
            rw [ro 40 (by decide) (by decide) (by decide), ro 41 (by decide) (by decide) (by decide), ro 42 (by decide) (by decide) (by decide)]
            exact this
          exact (hx.kept g1).keptT g2 e
      · have k1 := h.2 k hk
        rw [q1 36 (by decide) (by decide) (by decide) (by decide) (by decide) (by decide), ro 36 (by decide) (by decide) (by decide)]
        exact ⟨k1.1, k1.2.same ((q1 43 (by decide) (by decide) (by decide) (by decide) (by decide) (by decide)).trans (ro 43 (by decide) (by decide) (by decide))) ((q1 44 (by decide) (by decide) (by decide) (by decide) (by decide) (by decide)).trans (ro 44 (by decide) (by decide) (by decide)))⟩
theorem RSC.lab {n p : Nat} {ρ ρ' : RH} {C : CS} {lab : Int32} (h : RSC n ρ C) (e : ρ' = u2 ρ 38 p lab) : RSC n ρ' (cLb C p lab) := by
  subst e
  refine ⟨fun q hq => ?_, fun k hk => ?_⟩
  · obtain ⟨b1, b2⟩ := h.1 q hq
    rw [u2_oth (by decide), u2_at, u2_oth (by decide)]
    refine ⟨b1, fun hth => ⟨?_, (b2 hth).2.1, ?_⟩⟩
    · show _ = va_up C.2.1 p lab q
      by_cases e : q = p
      · subst e; rw [if_pos rfl, va_up_self]
      · rw [if_neg e, va_up_ne _ _ e]; exact (b2 hth).1
    · have := (b2 hth).2.2
      unfold TX at *
      rw [u2_oth (by decide), u2_oth (by decide), u2_oth (by decide)]
      exact this
  · rw [u2_oth (by decide)]
    exact ⟨(h.2 k hk).1, (h.2 k hk).2.same (u2_oth (by decide)) (u2_oth (by decide))⟩
theorem RSC.par {n p : Nat} {ρ ρ' : RH} {C : CS} {par : Int32} (h : RSC n ρ C) (e : ρ' = u2 ρ 39 p par) : RSC n ρ' (cPa C p par) := by
  subst e
  refine ⟨fun q hq => ?_, fun k hk => ?_⟩
  · obtain ⟨b1, b2⟩ := h.1 q hq
    rw [u2_oth (by decide), u2_oth (by decide), u2_at]
    refine ⟨b1, fun hth => ⟨(b2 hth).1, ?_, ?_⟩⟩
    · show _ = va_up C.2.2.1 p par q
      by_cases e : q = p
      · subst e; rw [if_pos rfl, va_up_self]
      · rw [if_neg e, va_up_ne _ _ e]; exact (b2 hth).2.1
    · have := (b2 hth).2.2
      unfold TX at *
      rw [u2_oth (by decide), u2_oth (by decide), u2_oth (by decide)]
      exact this
  · rw [u2_oth (by decide)]
    exact ⟨(h.2 k hk).1, (h.2 k hk).2.same (u2_oth (by decide)) (u2_oth (by decide))⟩
theorem s_renumbers {n np i p : Nat} {ρ : RH} {C : CS} {lab : Int32} {post : Int32 → RH → Prop} (h : RSC n ρ C) (hi : i < 40) (hnp : ρ 12 0 = nI np) (h20 : np ≤ 20) (hp : p < 20) (hth : C.1 p = true) (h17 : ρ 17 i = lab)
    (hno : any9 (fh9 C (C.2.2.1 p) lab (nI p)) np = true → post 0 ρ) (hyes : any9 (fh9 C (C.2.2.1 p) lab (nI p)) np = false → ∀ ρ', RSC n ρ' (cLb C p lab) → lgD ρ ρ' → post 1 ρ') : wpX7_renumbers ρ (nI i) (nI p) post := by
  have hci : (nI i).toNatClampNeg = i := cl_n (by omega)
  have hcp : (nI p).toNatClampNeg = p := cl_n (by omega)
  unfold wpX7_renumbers
  refine ⟨vi_n hp (by decide), vi_n hi (by decide), ?_⟩
  rw [hci, hcp, h17, ((h.1 p hp).2 hth).2.1]
  refine s_hasLabel h hnp h20 ?_
  cases hl : any9 (fh9 C (C.2.2.1 p) lab (nI p)) np with
  | true =>
    rw [bI_t rfl, if_neg z1I]
    unfold jX7_renumbers_25
    rw [if_pos z0I]
    refine ⟨vi_n hp (by decide), vi_n hp (by decide), ?_⟩
    intro t8 e8
    rw [hcp, u2_same] at e8
    subst e8
    exact ⟨Or.inl rfl, hno hl⟩
  | false =>
    rw [bI_f (by decide), if_pos z0I]
    unfold jX7_renumbers_25
    rw [if_neg z1I]
    refine ⟨vi_n hi (by decide), vi_n hp (by decide), ?_⟩
    intro t e
    rw [hcp, hci, h17] at e
    exact ⟨Or.inr rfl, hyes hl t (h.lab e) (by rw [e]; exact lgD.u (by decide) (by decide))⟩
theorem s_moves {n np i p : Nat} {ρ : RH} {C : CS} {par : Int32} {post : Int32 → RH → Prop} (h : RSC n ρ C) (hi : i < 40) (hnp : ρ 12 0 = nI np) (h20 : np ≤ 20) (hp : p < 20) (hth : C.1 p = true) (h16 : ρ 16 i = par) (hpar : par = -1 ∨ ∃ q, q < 20 ∧ par = nI q) (hch : pl9 C par = true → chT C 20 par)
    (hno : (pl9 C par && (!win9 C.2.2.1 20 par (nI p) && !any9 (fh9 C par (C.2.1 p) (nI p)) np)) = false → post 0 ρ) (hyes : (pl9 C par && (!win9 C.2.2.1 20 par (nI p) && !any9 (fh9 C par (C.2.1 p) (nI p)) np)) = true → ∀ ρ', RSC n ρ' (cPa C p par) → lgD ρ ρ' → post 1 ρ') : wpX7_moves ρ (nI i) (nI p) post := by
  have hci : (nI i).toNatClampNeg = i := cl_n (by omega)
  have hcp : (nI p).toNatClampNeg = p := cl_n (by omega)
  have no : (pl9 C par && (!win9 C.2.2.1 20 par (nI p) && !any9 (fh9 C par (C.2.1 p) (nI p)) np)) = false → jX7_moves_44 (nI i) (nI p) post ρ par 0 := fun q => by
    unfold jX7_moves_44
    rw [if_pos z0I]
    refine ⟨vi_n hp (by decide), vi_n hp (by decide), ?_⟩
    intro t8 e8
    rw [hcp, u2_same] at e8
    subst e8
    exact ⟨Or.inl rfl, hno q⟩
  unfold wpX7_moves
  refine ⟨vi_n hi (by decide), ?_⟩
  rw [hci, h16, hcp]
  refine s_isPlace h hpar ?_
  cases hpl : pl9 C par with
  | false =>
    rw [bI_f (by decide), if_pos z0I]
    exact no (by simp [hpl])
  | true =>
    rw [bI_t rfl, if_neg z1I]
    refine ⟨21, s_isWithin h (nI_m1 (by omega)) 20 par par (hch hpl) ?_⟩
    cases hw : win9 C.2.2.1 20 par (nI p) with
    | true =>
      rw [bI_t rfl, if_neg z1I]
      exact no (by simp [hw])
    | false =>
      rw [bI_f (by decide), if_pos z0I]
      refine ⟨vi_n hp (by decide), ?_⟩
      rw [((h.1 p hp).2 hth).1]
      refine s_hasLabel h hnp h20 ?_
      cases hl : any9 (fh9 C par (C.2.1 p) (nI p)) np with
      | true =>
        rw [bI_t rfl, if_neg z1I]
        exact no (by simp [hl])
      | false =>
        rw [bI_f (by decide), if_pos z0I]
        unfold jX7_moves_44
        rw [if_neg z1I]
        refine ⟨vi_n hp (by decide), ?_⟩
        intro t e
        rw [hcp] at e
        exact ⟨Or.inr rfl, hyes (by simp [hpl, hw, hl]) t (h.par e) (by rw [e]; exact lgD.u (by decide) (by decide))⟩
