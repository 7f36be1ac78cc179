/-! AMEND in the reference. -/
def AW (ρ : RH) (i : Nat) (f : List Int32) : Prop := f.length ≤ 4 ∧ ρ 20 i = nI f.length ∧ ∀ k (h : k < f.length), ρ 21 (4 * i + k) = f[k]
theorem s_amends {n i o : Nat} {ρ : RH} {C : CS} {f : List Int32} {e : Bool} {post : Int32 → RH → Prop} (h : RSC n ρ C) (hi : i < n) (hn : n ≤ 40) (h15 : ρ 15 i = nI o) (ho : o < n) (hf : AW ρ i f) (hno : C.2.2.2.2.1 o ≠ 0 → post 0 ρ) (hsame : C.2.2.2.2.1 o = 0 → (e && decide ((ρ 13 o).toInt ≤ 2)) = false → post 1 ρ) (hyes : C.2.2.2.2.1 o = 0 → (e && decide ((ρ 13 o).toInt ≤ 2)) = true → ∀ ρ', RSC n ρ' (cNw C o f) → lgD ρ ρ' → post 1 ρ') : wpX7_amends ρ (nI i) (bI (e = true)) post := by
  have hci : (nI i).toNatClampNeg = i := cl_n (by omega)
  have hco : (nI o).toNatClampNeg = o := cl_n (by omega)
  have hvi : vp_in (nI i) 40 := vi_n (by omega) (by decide)
  have hvo : vp_in (nI o) 40 := vi_n (by omega) (by decide)
  unfold wpX7_amends
  refine ⟨hvi, ?_⟩
  rw [hci, h15]
  refine ⟨hvo, ?_⟩
  rw [hco, (h.2 o ho).1]
  by_cases c : C.2.2.2.2.1 o = 0
  · rw [if_pos (by rw [c]; exact z0I)]
    cases e with
    | false =>
      rw [show bI (false = true) = 0 from bI_f (by decide), if_pos z0I]
      exact hsame c rfl
    | true =>
      rw [show bI (true = true) = 1 from bI_t rfl, if_neg z1I]
      refine ⟨hvo, ?_⟩
      by_cases c2 : (ρ 13 o).toInt ≤ 2
      · rw [if_pos c2]
        refine ⟨hvi, hvo, ?_⟩
        intro t9 e9
        refine ⟨5, ?_⟩
        have key : ∀ d j, j + d = 4 → ∀ ρ1 : RH, (∀ a, a ≠ 43 → a ≠ 44 → ρ1 a = ρ a) → (∀ q, ρ1 43 q = if q = o then ρ 20 i else ρ 43 q) → (∀ m, ρ1 44 m = if 4 * o ≤ m ∧ m < 4 * o + j then ρ 21 (4 * i + (m - 4 * o)) else ρ 44 m) → wX7_amends_47 (nI i) 1 post (d + 1) ρ1 (nI o) (nI j) := by
          intro d
          induction d with
          | zero =>
            intro j hj ρ1 r1 r2 r3
            have hj4 : j = 4 := by omega
            subst hj4
            unfold wX7_amends_47
            rw [ti_n (by omega), if_neg (by omega)]
            refine hyes c (by simp [c2]) ρ1 ⟨fun q hq => ?_, fun k hk => ?_⟩ (fun a ha => r1 a (by omega) (by omega))
            · rw [r1 37 (by decide) (by decide), r1 38 (by decide) (by decide), r1 39 (by decide) (by decide)]
              obtain ⟨b1, b2⟩ := h.1 q hq
              exact ⟨b1, fun hx => ⟨(b2 hx).1, (b2 hx).2.1, (b2 hx).2.2.same (r1 40 (by decide) (by decide)) (r1 41 (by decide) (by decide)) (r1 42 (by decide) (by decide))⟩⟩
            · rw [r1 36 (by decide) (by decide)]
              refine ⟨(h.2 k hk).1, ?_⟩
              show NW ρ1 k (va_up C.2.2.2.2.2 o f k)
              by_cases q : k = o
              · subst q
                rw [va_up_self]
                refine ⟨hf.1, by rw [r2, if_pos rfl]; exact hf.2.1, fun m hm => ?_⟩
                have h4 := hf.1
                rw [r3, if_pos ⟨by omega, by omega⟩, show 4 * k + m - 4 * k = m by omega]
                exact hf.2.2 m hm
              · rw [va_up_ne _ _ q]
                obtain ⟨n1, n2, n3⟩ := (h.2 k hk).2
                refine ⟨n1, by rw [r2, if_neg q]; exact n2, fun m hm => ?_⟩
                rw [r3, if_neg (by omega)]
                exact n3 m hm
          | succ d ih =>
            intro j hj ρ1 r1 r2 r3
            have hj4 : j < 4 := by omega
            unfold wX7_amends_47
            rw [ti_n (by omega), if_pos (by omega), li4, pk_mul, pk_mul, nI_add, nI_add, li1, nI_add, cl_n (by omega), cl_n (by omega)]
            refine ⟨vi_n (by omega) (by decide), vi_n (by omega) (by decide), ?_⟩
            intro t e
            rw [r1 21 (by decide) (by decide)] at e
            refine ih (j + 1) (by omega) t (fun a ha hb => by rw [e, u2_oth hb]; exact r1 a ha hb) (fun q => by rw [e, u2_oth (by decide)]; exact r2 q) (fun m => ?_)
            rw [e, u2_at, r3]
            by_cases q : m = 4 * o + j
            · subst q
              rw [if_pos rfl, if_pos ⟨by omega, by omega⟩, show 4 * o + j - 4 * o = j by omega]
            · rw [if_neg q]
              by_cases q2 : 4 * o ≤ m ∧ m < 4 * o + j
              · rw [if_pos q2, if_pos ⟨q2.1, by omega⟩]
              · rw [if_neg q2, if_neg (fun z => q2 ⟨z.1, by omega⟩)]
        exact key 4 0 rfl t9 (fun a ha hb => by rw [e9, u2_oth ha]) (fun q => by rw [e9, u2_at]) (fun m => by rw [e9, u2_oth (by decide), if_neg (by omega)])
      · rw [if_neg c2]
        exact hsame c (by simp [c2])
  · rw [if_neg (fun t => c (ti_eq.mp (t.trans z0I.symm)))]
    exact hno c
