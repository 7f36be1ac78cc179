/-! REPEAL and AMEND in the reference. -/
def cRm (C : CS) (p : Nat) : CS := (fun q => C.1 q && !win9 C.2.2.1 20 (nI q) (nI p), C.2)
def cNw (C : CS) (o : Nat) (f : List Int32) : CS := (C.1, C.2.1, C.2.2.1, C.2.2.2.1, C.2.2.2.2.1, va_up C.2.2.2.2.2 o f)
theorem TX.same {ρ ρ' : RH} {p : Nat} {l : TXT} (h : TX ρ p l) (h0 : ρ' 40 = ρ 40) (h1 : ρ' 41 = ρ 41) (h2 : ρ' 42 = ρ 42) : TX ρ' p l := by
  unfold TX at *
  rw [h0, h1, h2]
  exact h
theorem s_repeals {n np p : Nat} {ρ : RH} {C : CS} {post : Int32 → RH → Prop} (h : RSC n ρ C) (hnp : ρ 12 0 = nI np) (h20 : np ≤ 20) (hp : p < 20) (hth : ∀ q, q < 20 → C.1 q = true → q < np) (hch : ∀ q, q < 20 → C.1 q = true → chT C 20 (nI q)) (k : ∀ ρ', RSC n ρ' (cRm C p) → lgD ρ ρ' → post 1 ρ') : wpX7_repeals ρ (nI p) post := by
  have hpm : nI p ≠ -1 := nI_m1 (by omega)
  have two : ∀ (ρ1 : RH), RSC n ρ1 C → lg41 ρ ρ1 → (∀ q, q < np → ρ1 46 q = bI ((C.1 q && win9 C.2.2.1 20 (nI q) (nI p)) = true)) → ∀ d j, j + d = np → ∀ ρ2 : RH, (∀ a, a ≠ 37 → ρ2 a = ρ1 a) → (∀ q, q < 20 → ρ2 37 q = if q < j then bI ((cRm C p).1 q = true) else bI (C.1 q = true)) → wX7_repeals_47 (nI p) post (d + 1) ρ2 (nI j) := by
    intro ρ1 h1 g1 hm d
    induction d with
    | zero =>
      intro j hj ρ2 ho hr
      have hjn : j = np := by omega
      subst hjn
      unfold wX7_repeals_47
      rw [ho 12 (by decide), g1 12 (by decide) (by decide) (by decide), hnp, if_neg (by omega)]
      refine k ρ2 ⟨fun q hq => ?_, fun i hi => ?_⟩ (fun a ha => by rw [ho a (by omega)]; exact g1 a (by omega) (by omega) (by omega))
      · obtain ⟨b1, b2⟩ := h1.1 q hq
        rw [ho 38 (by decide), ho 39 (by decide), hr q hq]
        refine ⟨?_, fun hx => ?_⟩
        · by_cases c : q < j
          · rw [if_pos c]
          · rw [if_neg c]
            have hf : C.1 q = false := by
              cases e : C.1 q with
              | false => rfl
              | true => exact absurd (hth q hq e) c
            have hf2 : (cRm C p).1 q = false := by
              show (C.1 q && _) = false
              rw [hf]; rfl
            rw [hf, hf2]
        · have hx2 : C.1 q = true := by
            have hx3 : (C.1 q && !win9 C.2.2.1 20 (nI q) (nI p)) = true := hx
            cases e : C.1 q with
            | false => rw [e] at hx3; cases hx3
            | true => rfl
          exact ⟨(b2 hx2).1, (b2 hx2).2.1, (b2 hx2).2.2.same (ho 40 (by decide)) (ho 41 (by decide)) (ho 42 (by decide))⟩
      · rw [ho 36 (by decide)]
        exact ⟨(h1.2 i hi).1, (h1.2 i hi).2.same (ho 43 (by decide)) (ho 44 (by decide))⟩
    | succ d ih =>
      intro j hj ρ2 ho hr
      have hj20 : j < 20 := by omega
      have hc : (nI j).toNatClampNeg = j := cl_n (by omega)
      have st : ∀ (x : Int32) (t : RH), x = bI ((cRm C p).1 j = true) → t = u2 ρ2 37 j x → wX7_repeals_47 (nI p) post (d + 1) t (nI (j + 1)) := fun x t hx e => by
        refine ih (j + 1) (by omega) t (fun a ha => by rw [e, u2_oth ha]; exact ho a ha) (fun q hq => ?_)
        rw [e, u2_at, hr q hq]
        by_cases c : q = j
        · subst c; rw [if_pos rfl, if_pos (by omega), hx]
        · rw [if_neg c]
          by_cases c2 : q < j
          · rw [if_pos c2, if_pos (by omega)]
          · rw [if_neg c2, if_neg (by omega)]
      unfold wX7_repeals_47
      rw [ho 12 (by decide), g1 12 (by decide) (by decide) (by decide), hnp, ti_n (by omega), ti_n (by omega), if_pos (by omega), hc, hr j hj20, if_neg (Nat.lt_irrefl j), nI_1, ho 46 (by decide), hm j (by omega), vn0, vn1]
      refine ⟨vi_n hj20 (by decide), ?_⟩
      cases ht : C.1 j with
      | false =>
        rw [show bI (false = true) = 0 from bI_f (by decide), if_pos z0I]
        exact ⟨vi_n hj20 (by decide), fun t e => st 0 t (by rw [bI_f]; show ¬ (C.1 j && _) = true; rw [ht]; simp) e⟩
      | true =>
        rw [bI_t rfl, if_neg z1I]
        refine ⟨vi_n (by omega) (by decide), ?_⟩
        cases hw : win9 C.2.2.1 20 (nI j) (nI p) with
        | false =>
          rw [show bI ((true && false) = true) = 0 from bI_f (by decide), if_pos z0I]
          exact ⟨vi_n hj20 (by decide), fun t e => st 1 t (by rw [bI_t]; show (C.1 j && !win9 C.2.2.1 20 (nI j) (nI p)) = true; rw [ht, hw]; rfl) e⟩
        | true =>
          rw [show bI ((true && true) = true) = 1 from bI_t (by decide), if_neg z1I]
          exact ⟨vi_n hj20 (by decide), fun t e => st 0 t (by rw [bI_f]; show ¬ (C.1 j && !win9 C.2.2.1 20 (nI j) (nI p)) = true; rw [ht, hw]; decide) e⟩
  have one : ∀ d j, j + d = np → ∀ ρ1 : RH, lg41 ρ ρ1 → (∀ q, q < j → ρ1 46 q = bI ((C.1 q && win9 C.2.2.1 20 (nI q) (nI p)) = true)) → wX7_repeals_2 (nI p) post (d + 1) ρ1 (nI j) := by
    intro d
    induction d with
    | zero =>
      intro j hj ρ1 g1 hm
      have hjn : j = np := by omega
      subst hjn
      unfold wX7_repeals_2
      rw [g1 12 (by decide) (by decide) (by decide), hnp, if_neg (by omega)]
      refine ⟨j + 1, two ρ1 (h.kept41 g1) g1 hm j 0 (by omega) ρ1 (fun _ _ => rfl) (fun q hq => ?_)⟩
      rw [if_neg (Nat.not_lt_zero q)]
      exact ((h.kept41 g1).1 q hq).1
    | succ d ih =>
      intro j hj ρ1 g1 hm
      have hj20 : j < 20 := by omega
      have hc : (nI j).toNatClampNeg = j := cl_n (by omega)
      have h1 := h.kept41 g1
      have st : ∀ (x : Int32) (t : RH), x = bI ((C.1 j && win9 C.2.2.1 20 (nI j) (nI p)) = true) → t = u2 ρ1 46 j x → wX7_repeals_2 (nI p) post (d + 1) t (nI (j + 1)) := fun x t hx e => by
        refine ih (j + 1) (by omega) t (fun a b c d9 => by rw [e, u2_oth c]; exact g1 a b c d9) (fun q hq => ?_)
        rw [e, u2_at]
        by_cases c : q = j
        · subst c; rw [if_pos rfl, hx]
        · rw [if_neg c]; exact hm q (by omega)
      unfold wX7_repeals_2
      rw [g1 12 (by decide) (by decide) (by decide), hnp, ti_n (by omega), ti_n (by omega), if_pos (by omega), hc, (h1.1 j hj20).1, nI_1]
      refine ⟨vi_n hj20 (by decide), ?_⟩
      cases ht : C.1 j with
      | false =>
        rw [show bI (false = true) = 0 from bI_f (by decide), if_pos z0I]
        exact ⟨vi_n (by omega) (by decide), fun t e => st 0 t (by rw [bI_f]; rw [ht]; simp) e⟩
      | true =>
        rw [bI_t rfl, if_neg z1I]
        refine ⟨21, s_isWithin h1 hpm 20 (nI j) (nI j) (hch j hj20 ht) ?_⟩
        cases hw : win9 C.2.2.1 20 (nI j) (nI p) with
        | false =>
          rw [bI_f (by decide), if_pos z0I]
          exact ⟨vi_n (by omega) (by decide), fun t e => st 0 t (by rw [bI_f]; rw [ht, hw]; decide) e⟩
        | true =>
          rw [bI_t rfl, if_neg z1I]
          exact ⟨vi_n (by omega) (by decide), fun t e => st 1 t (by rw [bI_t]; rw [ht, hw]; decide) e⟩
  exact ⟨np + 1, one np 0 (by omega) ρ lg41.rf (fun q hq => absurd hq (Nat.not_lt_zero q))⟩
