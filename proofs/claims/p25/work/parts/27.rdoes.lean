/-! One instruction is done, in the reference. -/
theorem bg9_same {ρ ρ' : RH} {kn : Int32} (g : lgD ρ ρ') : ∀ (f i : Nat), bg9 ρ' kn f i = bg9 ρ kn f i := by
  intro f
  induction f with
  | zero => intro i; rfl
  | succ f ih =>
    intro i
    show (if ρ' 22 i = 2 then bg9 ρ' kn f (ρ' 23 i).toNatClampNeg else if ρ' 22 i = 0 then ρ' 23 i else if kn9 (ρ' 26 i) kn = true then ρ' 27 i else -1) = _
    rw [g 22 (by omega), g 23 (by omega), g 26 (by omega), g 27 (by omega), ih]
    rfl
theorem cm9_same {ρ ρ' : RH} {kn : Int32} (g : lgD ρ ρ') (i : Nat) : cm9 ρ' kn i = cm9 ρ kn i := by
  unfold cm9
  rw [g 2 (by omega), g 14 (by omega), bg9_same g]
theorem ef9_same {ρ ρ' : RH} {d kn te : Int32} (g : lgD ρ ρ') (i : Nat) : ef9 ρ' d kn te i = ef9 ρ d kn te i := by
  unfold ef9 ov9 sk9 su9
  rw [cm9_same g, g 24 (by omega), g 25 (by omega), g 28 (by omega), g 29 (by omega), g 30 (by omega), g 31 (by omega), g 32 (by omega)]
theorem WD.same {n : Nat} {ρ ρ' : RH} (h : WD n ρ) (g : lgD ρ ρ') : WD n ρ' := by
  intro i hi
  rw [g 22 (by omega), g 23 (by omega), g 14 (by omega)]
  exact h i hi
/-- what is done to the code by an instruction that searches s and has f among its own new words; none: it failed -/
def do9 (np : Nat) (ρ : RH) (C : CS) (eff : Nat → Bool) (i p : Nat) (s f : List Int32) : Option CS :=
  if ρ 13 i = 0 then (if (pl9 C (ρ 16 i) && !any9 (fh9 C (ρ 16 i) (ρ 17 i) (-1)) np) = true then some (cEn C p (ρ 16 i) (ρ 17 i) (tag9 (C.2.2.2.2.2 i) (nI i))) else none)
  else if ρ 13 i = 7 then (if C.2.2.2.2.1 p = 0 then (if (eff p && decide ((ρ 13 p).toInt ≤ 2)) = true then some (cNw C p f) else some C) else none)
  else if C.1 p = false then none
  else if ρ 13 i = 1 then (ins9 s (C.2.2.2.2.2 i) (nI i) (C.2.2.2.1 p)).map (cTx C p)
  else if ρ 13 i = 2 then (sbs9 s (C.2.2.2.2.2 i) (nI i) (C.2.2.2.1 p)).map (cTx C p)
  else if ρ 13 i = 3 then (om9 s (C.2.2.2.1 p)).map (cTx C p)
  else if ρ 13 i = 4 then (if any9 (fh9 C (C.2.2.1 p) (ρ 17 i) (nI p)) np = false then some (cLb C p (ρ 17 i)) else none)
  else if ρ 13 i = 5 then (if (pl9 C (ρ 16 i) && (!win9 C.2.2.1 20 (ρ 16 i) (nI p) && !any9 (fh9 C (ρ 16 i) (C.2.1 p) (nI p)) np)) = true then some (cPa C p (ρ 16 i)) else none)
  else some (cRm C p)
/-- the provisions that are there hang together -/
def INV (np : Nat) (C : CS) : Prop := (∀ q, q < 20 → C.1 q = true → q < np) ∧ ∀ q, q < 20 → C.1 q = true → chT C 20 (nI q)
/-- an instruction's data, as it was laid -/
def DI (n : Nat) (ρ : RH) (i p : Nat) (s f : List Int32) : Prop := SR ρ i s ∧ AW ρ i f ∧ ρ 15 i = nI p ∧ (ρ 13 i = 7 → p < n) ∧ (ρ 13 i ≠ 7 → p < 20) ∧ (ρ 13 i = 0 ∨ ρ 13 i = 5 → ρ 16 i = -1 ∨ ∃ q, q < 20 ∧ ρ 16 i = nI q) ∧ (ρ 13 i = 2 → s ≠ [])
theorem s_does {n np i p : Nat} {ρ : RH} {C : CS} {d kn te : Int32} {s f : List Int32} {post : Int32 → RH → Prop} (h : RSC n ρ C) (hw : WD n ρ) (hi : i < n) (hn : n ≤ 40) (hnp : ρ 12 0 = nI np) (h20 : np ≤ 20) (hD : DI n ρ i p s f) (hI : INV np C)
    (hno : do9 np ρ C (ef9 ρ d kn te) i p s f = none → ∀ ρ', RSC n ρ' C → lgD ρ ρ' → post 0 ρ') (hyes : ∀ C', do9 np ρ C (ef9 ρ d kn te) i p s f = some C' → ∀ ρ', RSC n ρ' C' → lgD ρ ρ' → post 1 ρ') : wpX7_does ρ (nI i) d kn te post := by
  have hci : (nI i).toNatClampNeg = i := cl_n (by omega)
  have hvi : vp_in (nI i) 40 := vi_n (by omega) (by decide)
  obtain ⟨hs, hf, h15, h7, hp7, h16, hs2⟩ := hD
  unfold wpX7_does
  refine ⟨hvi, hvi, ?_⟩
  intro t3 e3
  have g41 : lg41 ρ t3 := fun j a _ _ => by rw [e3, u2_oth a]
  have gD := lgD.of41 g41
  have h3 := h.kept41 g41
  have hm : t3 45 0 = 0 := by rw [e3, u2_at, if_pos rfl]
  have hs3 : SR t3 i s := by
    unfold SR at *
    rw [gD 18 (by omega), gD 19 (by omega)]
    exact hs
  have hf3 : AW t3 i f := by
    unfold AW at *
    rw [gD 20 (by omega), gD 21 (by omega)]
    exact hf
  rw [hci, h15]
  unfold do9 at hno hyes
  by_cases k0 : ρ 13 i = 0
  · rw [if_pos k0] at hno hyes
    rw [if_pos (by rw [k0]; exact z0I)]
    have hp : p < 20 := hp7 (by rw [k0]; decide)
    refine s_enacts (np := np) (p := p) h3 hi hn (by rw [gD 12 (by omega)]; exact hnp) h20 (by rw [gD 15 (by omega)]; exact h15) hp (par := ρ 16 i) (lab := ρ 17 i) (by rw [gD 16 (by omega)]) (h16 (Or.inl k0)) (by rw [gD 17 (by omega)]) hm (fun q => ⟨Or.inl rfl, ?_⟩) (fun q ρ' r1 r2 => ⟨Or.inr rfl, ?_⟩)
    · rw [q] at hno
      exact hno (if_neg (by decide)) t3 h3 gD
    · rw [q] at hyes
      exact hyes _ (if_pos rfl) ρ' r1 (gD.tr r2)
  rw [if_neg k0] at hno hyes
  rw [if_neg (fun t => k0 (ti_eq.mp (t.trans z0I.symm)))]
  by_cases k7 : ρ 13 i = 7
  · rw [if_pos k7] at hno hyes
    rw [if_pos (by rw [k7]; decide)]
    have hp := h7 k7
    refine s_isInEffect (hw.same gD) hn hp ?_
    rw [ef9_same gD]
    refine s_amends h3 hi hn (by rw [gD 15 (by omega)]; exact h15) hp hf3 (fun q => ⟨Or.inl rfl, ?_⟩) (fun q q2 => ⟨Or.inr rfl, ?_⟩) (fun q q2 ρ' r1 r2 => ⟨Or.inr rfl, ?_⟩)
    · rw [if_neg q] at hno
      exact hno rfl t3 h3 gD
    · rw [gD 13 (by omega)] at q2
      rw [if_pos q, q2] at hyes
      exact hyes C (if_neg (by decide)) t3 h3 gD
    · rw [gD 13 (by omega)] at q2
      rw [if_pos q, q2] at hyes
      exact hyes _ (if_pos rfl) ρ' r1 (gD.tr r2)
  rw [if_neg k7] at hno hyes
  rw [if_neg (fun t => k7 (ti_eq.mp (t.trans (show (7 : Int32).toInt = 7 by decide).symm)))]
  have hp : p < 20 := hp7 k7
  have hcp : (nI p).toNatClampNeg = p := cl_n (by omega)
  refine ⟨vi_n hp (by decide), ?_⟩
  rw [hcp, (h3.1 p hp).1]
  cases ht : C.1 p with
  | false =>
    rw [show bI (false = true) = 0 from bI_f (by decide), if_pos z0I]
    rw [if_pos ht] at hno
    exact hno rfl t3 h3 gD
  | true =>
    rw [show bI (true = true) = 1 from bI_t rfl, if_neg z1I]
    rw [if_neg (by rw [ht]; decide)] at hno hyes
    have hT := ((h3.1 p hp).2 ht).2.2
    have hN := (h3.2 i hi).2
    by_cases k1 : ρ 13 i = 1
    · rw [if_pos k1] at hno hyes
      rw [if_pos (by rw [k1]; decide)]
      refine s_inserts (by omega) hp hs3 hN hT hm (fun q ρ' r => ⟨Or.inl rfl, hno (by rw [q]; rfl) ρ' (h3.kept41 r) (gD.tr (lgD.of41 r))⟩) (fun t q ρ' r1 r2 => ⟨Or.inr rfl, hyes _ (by rw [q]; rfl) ρ' (h3.text ht r1 r2) (gD.tr (lgD.ofT r2))⟩)
    rw [if_neg k1] at hno hyes
    rw [if_neg (fun t => k1 (ti_eq.mp (t.trans (show (1 : Int32).toInt = 1 by decide).symm)))]
    by_cases k2 : ρ 13 i = 2
    · rw [if_pos k2] at hno hyes
      rw [if_pos (by rw [k2]; decide)]
      refine s_substitutes (by omega) hp (hs2 k2) hs3 hN hT hm (fun q ρ' r => ⟨Or.inl rfl, hno (by rw [q]; rfl) ρ' (h3.kept41 r) (gD.tr (lgD.of41 r))⟩) (fun t q ρ' r1 r2 => ⟨Or.inr rfl, hyes _ (by rw [q]; rfl) ρ' (h3.text ht r1 r2) (gD.tr (lgD.ofT r2))⟩)
    rw [if_neg k2] at hno hyes
    rw [if_neg (fun t => k2 (ti_eq.mp (t.trans ti_2.symm)))]
    by_cases k3 : ρ 13 i = 3
    · rw [if_pos k3] at hno hyes
      rw [if_pos (by rw [k3]; decide)]
      refine s_omits (by omega) hp hs3 hT (fun q => ⟨Or.inl rfl, hno (by rw [q]; rfl) t3 h3 gD⟩) (fun t q ρ' r1 r2 => ⟨Or.inr rfl, hyes _ (by rw [q]; rfl) ρ' (h3.text ht r1 r2) (gD.tr (lgD.ofT r2))⟩)
    rw [if_neg k3] at hno hyes
    rw [if_neg (fun t => k3 (ti_eq.mp (t.trans (show (3 : Int32).toInt = 3 by decide).symm)))]
    by_cases k4 : ρ 13 i = 4
    · rw [if_pos k4] at hno hyes
      rw [if_pos (by rw [k4]; decide)]
      refine s_renumbers (lab := ρ 17 i) h3 (by omega) (by rw [gD 12 (by omega)]; exact hnp) h20 hp ht (by rw [gD 17 (by omega)]) (fun q => ⟨Or.inl rfl, ?_⟩) (fun q ρ' r1 r2 => ⟨Or.inr rfl, ?_⟩)
      · rw [q] at hno
        exact hno (if_neg (by decide)) t3 h3 gD
      · rw [q] at hyes
        exact hyes _ (if_pos rfl) ρ' r1 (gD.tr r2)
    rw [if_neg k4] at hno hyes
    rw [if_neg (fun t => k4 (ti_eq.mp (t.trans (show (4 : Int32).toInt = 4 by decide).symm)))]
    by_cases k5 : ρ 13 i = 5
    · rw [if_pos k5] at hno hyes
      rw [if_pos (by rw [k5]; decide)]
      refine s_moves (par := ρ 16 i) h3 (by omega) (by rw [gD 12 (by omega)]; exact hnp) h20 hp ht (by rw [gD 16 (by omega)]) (h16 (Or.inr k5)) (fun q => ?_) (fun q => ⟨Or.inl rfl, ?_⟩) (fun q ρ' r1 r2 => ⟨Or.inr rfl, ?_⟩)
      · rcases h16 (Or.inr k5) with e | ⟨a, ha, e⟩
        · rw [e]; exact Or.inl rfl
        · rw [e] at q ⊢
          have hca : (nI a).toNatClampNeg = a := cl_n (by omega)
          have hma : nI a ≠ -1 := nI_m1 (by omega)
          refine hI.2 a ha ?_
          simpa [pl9, hca, hma] using q
      · rw [q] at hno
        exact hno (if_neg (by decide)) t3 h3 gD
      · rw [q] at hyes
        exact hyes _ (if_pos rfl) ρ' r1 (gD.tr r2)
    rw [if_neg k5] at hno hyes
    rw [if_neg (fun t => k5 (ti_eq.mp (t.trans (show (5 : Int32).toInt = 5 by decide).symm)))]
    exact s_repeals h3 (by rw [gD 12 (by omega)]; exact hnp) h20 hp hI.1 hI.2 (fun ρ' r1 r2 => ⟨Or.inr rfl, hyes _ rfl ρ' r1 (gD.tr r2)⟩)
