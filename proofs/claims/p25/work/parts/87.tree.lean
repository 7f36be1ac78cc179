/-! The code's order: each provision that is there comes once, behind the one it is in, and behind those beside it with lesser labels. -/
theorem wkf_sfx {n np a : Nat} {γ : RH} {J : List Nat} {C : CS} (hG : GD n np γ J C) {rest : List Nat} : ∀ (pre : List Nat) (o : Int32) (b : Int), plc C o → wkf C o b = pre ++ a :: rest → rest = wkf C (nI a) (-1) ∧ a < 20 ∧ C.1 a = true := by
  intro pre
  induction pre with
  | nil =>
    intro o b ho h
    have hm := (wkf_len hG _ o b ho (Nat.le_refl _)).2 a (by rw [h]; exact List.mem_cons_self)
    exact ⟨wkf_tl hG _ o b ho (Nat.le_refl _) h, hm⟩
  | cons x pre ih =>
    intro o b ho h
    have hm := (wkf_len hG _ o b ho (Nat.le_refl _)).2 x (by rw [h]; exact List.mem_cons_self)
    have := wkf_tl hG _ o b ho (Nat.le_refl _) (show wkf C o b = x :: (pre ++ a :: rest) from h)
    exact ih (nI x) (-1) (Or.inr ⟨x, hm.1, rfl, hm.2⟩) this.symm
/-- what comes behind x, when all in x is done: c, k places up -/
def BH (C : CS) (c : Nat) : Nat → Nat → Prop
  | 0, x => C.2.2.1 c ≠ nI x ∧ C.2.2.1 c = C.2.2.1 x ∧ ck C x < ck C c
  | k + 1, x => C.2.2.1 c ≠ nI x ∧ C.2.2.1 c ≠ C.2.2.1 x ∧ ∃ r, r < 20 ∧ C.1 r = true ∧ C.2.2.1 x = nI r ∧ BH C c k r
theorem BH_dep {n np c : Nat} {C : CS} (hI : INV np C) : ∀ (k x : Nat), x < 20 → C.1 x = true → BH C c k x → dep C (C.2.2.1 c) < dep C (nI x) := by
  intro k
  induction k with
  | zero =>
    intro x hx ht h
    rw [h.2.1, dep_rec hI hx ht]
    omega
  | succ k ih =>
    intro x hx ht h
    obtain ⟨-, -, r, h1, h2, h3, h4⟩ := h
    have := ih r h1 h2 h4
    rw [dep_rec hI hx ht, h3]
    omega
theorem dep_ne {np x : Nat} {C : CS} {o : Int32} (h : dep C o < dep C (nI x)) : o ≠ nI x := fun e => by rw [e] at h; exact absurd h (Nat.lt_irrefl _)
theorem dep_20 {C : CS} {a : Int32} : dep C a ≤ 20 := by
  have : ∀ (f : Nat) (a : Int32), dp9 C.2.2.1 f a ≤ f := by
    intro f
    induction f with
    | zero => intro a; exact Nat.le_refl _
    | succ f ih =>
      intro a
      show (if a = -1 then 0 else dp9 C.2.2.1 f (C.2.2.1 a.toNatClampNeg) + 1) ≤ f + 1
      split
      · omega
      · have := ih (C.2.2.1 a.toNatClampNeg); omega
  exact this 20 a
theorem BH_of {n np c : Nat} {γ : RH} {J : List Nat} {C : CS} {l : List Nat} (hG : GD n np γ J C) : ∀ x, x < 20 → C.1 x = true → wkf C (C.2.2.1 x) (ck C x) = c :: l → ∃ k, k + 1 ≤ dep C (nI x) ∧ BH C c k x := by
  have hI := hG.1
  have base : ∀ x, x < 20 → C.1 x = true → plc C (C.2.2.1 x) → nx9 C (C.2.2.1 x) (ck C x) = some c → ∃ k, k + 1 ≤ dep C (nI x) ∧ BH C c k x := fun x hx ht hp q => by
    obtain ⟨q1, q2, q3⟩ := nx_plc q
    have hlt : ck C x < ck C c := (chl_iff.mp (nxs_some q).2.1).2.2
    refine ⟨0, by rw [dep_rec hI hx ht]; omega, ?_, q3, hlt⟩
    rw [q3]
    exact dep_ne (np := np) (by rw [dep_rec hI hx ht]; omega)
  refine ch_ind hI (fun x hx ht e h => ?_) (fun x r hx ht hr hrt e ih h => ?_)
  · cases q : nx9 C (C.2.2.1 x) (ck C x) with
    | none =>
      rw [e] at q h
      rw [wkf_end q] at h
      cases h
    | some c' =>
      have := wkf_some hG (plc_par hI hx ht) q
      rw [this] at h
      have : c' = c := (List.cons.inj h).1
      subst this
      exact base x hx ht (plc_par hI hx ht) q
  · cases q : nx9 C (C.2.2.1 x) (ck C x) with
    | none =>
      rw [e] at q h
      rw [wkf_none hG hr hrt q] at h
      obtain ⟨k, k1, k2⟩ := ih h
      have hd := BH_dep (n := n) hI k r hr hrt k2
      refine ⟨k + 1, by rw [dep_rec hI hx ht, e]; omega, ?_, ?_, r, hr, hrt, e, k2⟩
      · exact dep_ne (np := np) (by rw [dep_rec hI hx ht, e]; omega)
      · rw [e]
        exact dep_ne (np := np) hd
    | some c' =>
      have := wkf_some hG (plc_par hI hx ht) q
      rw [this] at h
      have : c' = c := (List.cons.inj h).1
      subst this
      exact base x hx ht (plc_par hI hx ht) q
theorem ls9_first {n np c : Nat} {γ : RH} {J : List Nat} {C : CS} {l : List Nat} (hG : GD n np γ J C) (h : ls9 C = c :: l) : C.2.2.1 c = -1 := by
  cases q : nx9 C (-1) (-1) with
  | none =>
    have := wkf_end q
    unfold ls9 at h
    rw [this] at h
    cases h
  | some c' =>
    have := wkf_some hG (Or.inl rfl) q
    unfold ls9 at h
    rw [this] at h
    have : c' = c := (List.cons.inj h).1
    subst this
    exact (nx_plc q).2.2
theorem ls9_next {n np a c : Nat} {γ : RH} {J : List Nat} {C : CS} {pre rest : List Nat} (hG : GD n np γ J C) (h : ls9 C = pre ++ a :: c :: rest) : C.2.2.1 c = nI a ∨ (C.2.2.1 c ≠ nI a ∧ ∃ k, k ≤ 19 ∧ BH C c k a) := by
  obtain ⟨h1, ha, hat⟩ := wkf_sfx hG pre (-1) (-1) (Or.inl rfl) (show wkf C (-1) (-1) = pre ++ a :: (c :: rest) from h)
  cases q : nx9 C (nI a) (-1) with
  | none =>
    rw [wkf_none hG ha hat q] at h1
    obtain ⟨k, k1, k2⟩ := BH_of hG a ha hat h1.symm
    have hd := BH_dep (n := n) hG.1 k a ha hat k2
    have := dep_20 (C := C) (a := nI a)
    exact Or.inr ⟨dep_ne (np := np) hd, k, by omega, k2⟩
  | some c' =>
    have := wkf_some hG (Or.inr ⟨a, ha, rfl, hat⟩) q
    rw [this] at h1
    have : c' = c := ((List.cons.inj h1).1).symm
    subst this
    exact Or.inl (nx_plc q).2.2
/-- all that are there are listed -/
theorem wkf_mem {n np p : Nat} {γ : RH} {J : List Nat} {C : CS} (hG : GD n np γ J C) (hp : p < 20) (hpt : C.1 p = true) : ∀ (f : Nat) (o : Int32) (b : Int), plc C o → stp C o b ≤ f → (thr C o b p = true ∨ ∃ q, q < 20 ∧ C.1 q = true ∧ wi C o q = true ∧ thr C (C.2.2.1 q) (ck C q) p = true) → p ∈ wkf C o b := by
  have hI := hG.1
  intro f
  induction f with
  | zero => intro o b _ hf; exact absurd hf (by unfold stp; omega)
  | succ f ih =>
    intro o b ho hf h
    cases q : nx9 C o b with
    | some c =>
      rw [wkf_some hG ho q]
      obtain ⟨hc, hct, hcp⟩ := nx_plc q
      have hst := stp_some hG ho q
      obtain ⟨-, -, hmin⟩ := nxs_some q
      by_cases e : p = c
      · rw [e]; exact List.mem_cons_self
      refine List.mem_cons_of_mem _ (ih (nI c) (-1) (Or.inr ⟨c, hc, rfl, hct⟩) (by omega) ?_)
      rcases h with h | ⟨x, x1, x2, x3, x4⟩
      · obtain ⟨-, d, d1, d2, d3, d4, d5⟩ := thr_iff.mp h
        by_cases ed : d = c
        · subst ed
          obtain ⟨k, k1, k2, k3, k4⟩ := wi_kid hI hc p hp hpt d5 e
          exact Or.inl (thr_iff.mpr ⟨hpt, k, k1, k2, k3, ck_nn, k4⟩)
        · have hle := hmin d d1 (chl_iff.mpr ⟨d2, d3, d4⟩)
          have hne : ck C d ≠ ck C c := fun w => ed (hG.2.2.2.1 d c d1 hc d2 hct (d3.trans hcp.symm) (ck_inj (hG.2.2.1 d d1 d2) (hG.2.2.1 c hc hct) w))
          refine Or.inr ⟨c, hc, hct, wi_self hI hc hct, thr_iff.mpr ⟨hpt, d, d1, d2, d3.trans hcp.symm, by omega, d5⟩⟩
      · exact Or.inr ⟨x, x1, x2, (wi_rec hI hc hct x1).mpr (Or.inr (by rw [hcp]; exact x3)), x4⟩
    | none =>
      have no : thr C o b p = false := by
        cases t : thr C o b p with
        | false => rfl
        | true =>
          obtain ⟨-, d, d1, d2, d3, d4, d5⟩ := thr_iff.mp t
          have := nxs_none q d d1
          rw [chl_iff.mpr ⟨d2, d3, d4⟩] at this
          cases this
      rw [no] at h
      rcases h with h | ⟨x, x1, x2, x3, x4⟩
      · cases h
      rcases ho with rfl | ⟨r, r1, rfl, r3⟩
      · rw [wi_top x1] at x3; cases x3
      · rw [wkf_none hG r1 r3 q]
        have hst := stp_none hG r1 r3 q
        refine ih _ _ (plc_par hI r1 r3) (by omega) ?_
        rcases (wi_rec hI r1 r3 x1).mp x3 with e | e
        · subst e; exact Or.inl x4
        · exact Or.inr ⟨x, x1, x2, e, x4⟩
theorem ls9_all {n np p : Nat} {γ : RH} {J : List Nat} {C : CS} (hG : GD n np γ J C) (hp : p < 20) (hpt : C.1 p = true) : p ∈ ls9 C := by
  obtain ⟨k, k1, k2, k3, k4⟩ := wi_all hG.1 p hp hpt
  exact wkf_mem hG hp hpt _ (-1) (-1) (Or.inl rfl) (Nat.le_refl _) (Or.inl (thr_iff.mpr ⟨hpt, k, k1, k2, k3, ck_nn, k4⟩))
theorem perm_of_sub : ∀ (l1 l2 : List Nat), l1.Nodup → (∀ x ∈ l1, x ∈ l2) → l2.length ≤ l1.length → l2.Perm l1 := by
  intro l1
  induction l1 with
  | nil =>
    intro l2 _ _ h
    have : l2 = [] := List.length_eq_zero_iff.mp (Nat.le_zero.mp h)
    rw [this]
  | cons a t ih =>
    intro l2 hn hs hl
    have ha := hs a List.mem_cons_self
    obtain ⟨hat, hnt⟩ := List.nodup_cons.mp hn
    have hle : (l2.erase a).length = l2.length - 1 := List.length_erase_of_mem ha
    have hpos : 0 < l2.length := List.length_pos_of_mem ha
    have := ih (l2.erase a) hnt (fun x hx => (List.mem_erase_of_ne (fun e => hat (by rw [← e]; exact hx))).mpr (hs x (List.mem_cons_of_mem _ hx))) (by rw [hle]; simp only [List.length_cons] at hl; omega)
    exact (List.perm_cons_erase ha).trans (this.cons a)
theorem cn9_filter {f : Nat → Bool} : ∀ {n : Nat}, ((List.range n).filter f).length = cn9 f n := by
  intro n
  rw [← List.countP_eq_length_filter]
  exact countP_range
theorem ls9_nodup {n np : Nat} {γ : RH} {J : List Nat} {C : CS} (hG : GD n np γ J C) : (ls9 C).Nodup := by
  have hp := perm_of_sub ((List.range 20).filter C.1) (ls9 C) (List.nodup_range.filter _) (fun x hx => by
    obtain ⟨a, b⟩ := List.mem_filter.mp hx
    exact ls9_all hG (List.mem_range.mp a) b) (by rw [cn9_filter, (ls9_len hG).1]; exact Nat.le_refl _)
  exact hp.nodup_iff.mpr (List.nodup_range.filter _)
/-- each is in one that came before it -/
theorem BH_up {c : Nat} {C : CS} {pre : List Nat} (hc : ∀ x ∈ pre, C.2.2.1 x = -1 ∨ ∃ r, r < 20 ∧ r ∈ pre ∧ C.2.2.1 x = nI r) : ∀ (k x : Nat), x ∈ pre → BH C c k x → C.2.2.1 c = -1 ∨ ∃ r, r < 20 ∧ r ∈ pre ∧ C.2.2.1 c = nI r := by
  intro k
  induction k with
  | zero =>
    intro x hx h
    rw [h.2.1]
    exact hc x hx
  | succ k ih =>
    intro x hx h
    obtain ⟨-, -, r, h1, h2, h3, h4⟩ := h
    rcases hc x hx with e | ⟨r', r0, r1, r2⟩
    · exact absurd (h3.symm.trans e) (nI_m1 (by omega))
    · have : r = r' := nI_inj (by omega) (by omega) (h3.symm.trans r2)
      subst this
      exact ih r r1 h4
theorem ls9_up {n np : Nat} {γ : RH} {J : List Nat} {C : CS} (hG : GD n np γ J C) : ∀ (pre rest : List Nat), ls9 C = pre ++ rest → ∀ x ∈ pre, C.2.2.1 x = -1 ∨ ∃ r, r < 20 ∧ r ∈ pre ∧ C.2.2.1 x = nI r := by
  intro pre
  -- from the end of what came before
  have key : ∀ (m : Nat) (pre rest : List Nat), pre.length = m → ls9 C = pre ++ rest → ∀ x ∈ pre, C.2.2.1 x = -1 ∨ ∃ r, r < 20 ∧ r ∈ pre ∧ C.2.2.1 x = nI r := by
    intro m
    induction m with
    | zero =>
      intro pre rest hl _ x hx
      have : pre = [] := List.length_eq_zero_iff.mp hl
      rw [this] at hx
      cases hx
    | succ m ih =>
      intro pre rest hl h x hx
      obtain ⟨pre0, c, rfl⟩ : ∃ pre0 c, pre = pre0 ++ [c] := by
        rcases List.eq_nil_or_concat pre with e | ⟨a, b, e⟩
        · rw [e] at hl; cases hl
        · exact ⟨a, b, by rw [e, List.concat_eq_append]⟩
      have hl0 : pre0.length = m := by simpa using hl
      have hc0 := ih pre0 (c :: rest) hl0 (by rw [h]; simp)
      have more : ∀ y, (C.2.2.1 y = -1 ∨ ∃ r, r < 20 ∧ r ∈ pre0 ∧ C.2.2.1 y = nI r) → C.2.2.1 y = -1 ∨ ∃ r, r < 20 ∧ r ∈ pre0 ++ [c] ∧ C.2.2.1 y = nI r := fun y hy => by
        rcases hy with e | ⟨r, r0, r1, r2⟩
        · exact Or.inl e
        · exact Or.inr ⟨r, r0, List.mem_append_left _ r1, r2⟩
      rcases List.mem_append.mp hx with hx | hx
      · exact more x (hc0 x hx)
      · have hxc : x = c := List.mem_singleton.mp hx
        subst hxc
        refine more x ?_
        rcases List.eq_nil_or_concat pre0 with e | ⟨a, b, e⟩
        · rw [e] at h
          exact Or.inl (ls9_first hG (l := rest) (by rw [h]; rfl))
        · rw [List.concat_eq_append] at e
          have hb : b ∈ pre0 := by rw [e]; exact List.mem_append_right _ List.mem_cons_self
          have hbm := (ls9_len hG).2 b (by rw [h, e]; simp)
          rcases ls9_next (a := b) (c := x) (pre := a) (rest := rest) hG (by rw [h, e]; simp) with q | ⟨-, k, -, q⟩
          · exact Or.inr ⟨b, hbm.1, hb, q⟩
          · exact BH_up hc0 k b hb q
  exact fun rest h => key pre.length pre rest rfl h
