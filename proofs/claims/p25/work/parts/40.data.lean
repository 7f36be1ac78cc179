/-! The data that the reference's rows hold, as functions; one instruction's step; what holds along a view. -/
def wds (n : Int32) (g : Nat → Int32) : List Int32 := (List.range n.toNatClampNeg).map g
def pv9 (ρ : RH) (i : Nat) : Nat := (ρ 15 i).toNatClampNeg
def sw9 (ρ : RH) (i : Nat) : List Int32 := wds (ρ 18 i) (fun k => ρ 19 (4 * i + k))
def aw9 (ρ : RH) (i : Nat) : List Int32 := wds (ρ 20 i) (fun k => ρ 21 (4 * i + k))
theorem wds_len {n : Int32} {g : Nat → Int32} : (wds n g).length = n.toNatClampNeg := by simp [wds]
theorem wds_get {n : Int32} {g : Nat → Int32} {k : Nat} (h : k < (wds n g).length) : (wds n g)[k] = g k := by simp [wds]
theorem SR_sw {ρ : RH} {i m : Nat} (hm : m ≤ 4) (h : ρ 18 i = nI m) : SR ρ i (sw9 ρ i) := by
  have e : (ρ 18 i).toNatClampNeg = m := by rw [h]; exact cl_n (by omega)
  refine ⟨by rw [sw9, wds_len, e]; exact hm, by rw [sw9, wds_len, e]; exact h, fun k hk => ?_⟩
  exact (wds_get (n := ρ 18 i) (g := fun k => ρ 19 (4 * i + k)) hk).symm
theorem AW_aw {ρ : RH} {i m : Nat} (hm : m ≤ 4) (h : ρ 20 i = nI m) : AW ρ i (aw9 ρ i) := by
  have e : (ρ 20 i).toNatClampNeg = m := by rw [h]; exact cl_n (by omega)
  refine ⟨by rw [aw9, wds_len, e]; exact hm, by rw [aw9, wds_len, e]; exact h, fun k hk => ?_⟩
  exact (wds_get (n := ρ 20 i) (g := fun k => ρ 21 (4 * i + k)) hk).symm
/-- a word's number -/
def okw (w : Int32) : Prop := 0 ≤ w.toInt ∧ w.toInt ≤ 139
def okd (d : Int32) : Prop := 0 ≤ d.toInt ∧ d.toInt ≤ 5000
/-- a label's number -/
def okl (x : Int32) : Prop := ∃ m : Nat, 1000 ≤ m ∧ m < 100000 ∧ (m % 1000 = 0 ∨ m % 1000 % 27 ≠ 0) ∧ x = nI m
/-- an instruction's data in the reference -/
def IDT (np : Nat) (ρ : RH) (i : Nat) : Prop :=
  (∃ m : Nat, m ≤ 4 ∧ ρ 18 i = nI m) ∧ (∃ m : Nat, m ≤ 4 ∧ ρ 20 i = nI m) ∧ (∃ k : Nat, k ≤ 7 ∧ ρ 13 i = nI k) ∧ ρ 15 i = nI (pv9 ρ i) ∧
  (ρ 13 i = 7 → pv9 ρ i < i) ∧ (ρ 13 i ≠ 7 → pv9 ρ i < np) ∧ (ρ 13 i = 0 ∨ ρ 13 i = 5 → ρ 16 i = -1 ∨ ∃ q, q < 20 ∧ ρ 16 i = nI q) ∧
  (ρ 13 i = 2 → ρ 18 i ≠ 0) ∧ (ρ 13 i = 0 ∨ ρ 13 i = 4 → okl (ρ 17 i)) ∧ (∀ k, k < 4 → okw (ρ 21 (4 * i + k))) ∧
  (∃ h : Nat, h ≤ 2 ∧ ρ 22 i = nI h) ∧ (ρ 22 i = 0 → okd (ρ 23 i)) ∧ (ρ 22 i = 2 → ∃ w, w < i ∧ ρ 23 i = nI w) ∧ (ρ 26 i ≠ -1 → okd (ρ 27 i)) ∧ (∃ a, a < 10 ∧ ρ 14 i = nI a)
def DAT (n np : Nat) (ρ : RH) : Prop := n ≤ 40 ∧ np ≤ 20 ∧ ρ 11 0 = nI n ∧ ρ 12 0 = nI np ∧ (∀ i, i < n → IDT np ρ i) ∧ (∀ i j, i < n → j < n → ρ 13 i = 0 → ρ 13 j = 0 → pv9 ρ i = pv9 ρ j → i = j) ∧ ∀ w i, w ≤ i → i < n → (ρ 2 (ρ 14 w).toNatClampNeg).toInt ≤ (ρ 2 (ρ 14 i).toNatClampNeg).toInt
/-- the rows of the data are as they were -/
def lgd (ρ ρ' : RH) : Prop := ∀ j, j < 36 → ρ' j = ρ j
theorem lgD.lo {ρ ρ' : RH} (g : lgD ρ ρ') : lgd ρ ρ' := fun j h => g j (Or.inl h)
theorem lgd.tr {a b c : RH} (h1 : lgd a b) (h2 : lgd b c) : lgd a c := fun j h => (h2 j h).trans (h1 j h)
theorem lgd.rf {a : RH} : lgd a a := fun _ _ => rfl
theorem IDT.same {np : Nat} {ρ ρ' : RH} {i : Nat} (g : lgd ρ ρ') (h : IDT np ρ i) : IDT np ρ' i := by
  unfold IDT pv9 at *
  rw [g 13 (by omega), g 14 (by omega), g 15 (by omega), g 16 (by omega), g 17 (by omega), g 18 (by omega), g 20 (by omega), g 21 (by omega), g 22 (by omega), g 23 (by omega), g 26 (by omega), g 27 (by omega)]
  exact h
theorem DAT.same {n np : Nat} {ρ ρ' : RH} (g : lgd ρ ρ') (h : DAT n np ρ) : DAT n np ρ' := by
  refine ⟨h.1, h.2.1, by rw [g 11 (by omega)]; exact h.2.2.1, by rw [g 12 (by omega)]; exact h.2.2.2.1, fun i hi => (h.2.2.2.2.1 i hi).same g, ?_, ?_⟩
  · unfold pv9
    rw [g 13 (by omega), g 15 (by omega)]
    exact h.2.2.2.2.2.1
  · rw [g 2 (by omega), g 14 (by omega)]
    exact h.2.2.2.2.2.2
theorem pv9_same {ρ ρ' : RH} (g : lgd ρ ρ') : pv9 ρ' = pv9 ρ := by funext i; unfold pv9; rw [g 15 (by omega)]
theorem sw9_same {ρ ρ' : RH} (g : lgd ρ ρ') : sw9 ρ' = sw9 ρ := by funext i; unfold sw9; rw [g 18 (by omega), g 19 (by omega)]
theorem aw9_same {ρ ρ' : RH} (g : lgd ρ ρ') : aw9 ρ' = aw9 ρ := by funext i; unfold aw9; rw [g 20 (by omega), g 21 (by omega)]
theorem do9_same {np : Nat} {ρ ρ' : RH} (g : lgd ρ ρ') {C : CS} {eff : Nat → Bool} {i p : Nat} {s f : List Int32} : do9 np ρ' C eff i p s f = do9 np ρ C eff i p s f := by
  unfold do9
  rw [g 13 (by omega), g 16 (by omega), g 17 (by omega)]
theorem DAT.wd {n np : Nat} {ρ : RH} (h : DAT n np ρ) : WD n ρ := fun i hi => by
  obtain ⟨-, -, -, -, -, -, -, -, -, -, -, -, h1, -, h2⟩ := h.2.2.2.2.1 i hi
  exact ⟨h1, h2⟩
theorem DAT.di {n np : Nat} {ρ : RH} (h : DAT n np ρ) {i : Nat} (hi : i < n) : DI n ρ i (pv9 ρ i) (sw9 ρ i) (aw9 ρ i) := by
  obtain ⟨⟨m1, a1, b1⟩, ⟨m2, a2, b2⟩, -, h15, h7, h8, h16, h18, -⟩ := h.2.2.2.2.1 i hi
  have h20 := h.2.1
  refine ⟨SR_sw a1 b1, AW_aw a2 b2, h15, fun q => by have := h7 q; omega, fun q => by have := h8 q; omega, h16, fun q e => ?_⟩
  have h0 : (sw9 ρ i).length = 0 := by rw [e]; rfl
  rw [sw9, wds_len, b1, cl_n (by omega)] at h0
  subst h0
  exact h18 q b1
theorem mem_aw {n np : Nat} {ρ : RH} (h : DAT n np ρ) {i : Nat} (hi : i < n) : ∀ w ∈ aw9 ρ i, okw w := by
  obtain ⟨-, ⟨m2, a2, b2⟩, -, -, -, -, -, -, -, hw, -⟩ := h.2.2.2.2.1 i hi
  intro w hm
  unfold aw9 wds at hm
  obtain ⟨k, hk, rfl⟩ := List.mem_map.mp hm
  have := List.mem_range.mp hk
  rw [b2, cl_n (by omega)] at this
  exact hw k (by omega)
/-! the step -/
def st9 (C : CS) (i : Nat) (x : Int32) : CS := (C.1, C.2.1, C.2.2.1, C.2.2.2.1, va_up C.2.2.2.2.1 i x, C.2.2.2.2.2)
def step9 (np : Nat) (ρ : RH) (eff : Nat → Bool) (C : CS) (i : Nat) : CS :=
  match do9 np ρ C eff i (pv9 ρ i) (sw9 ρ i) (aw9 ρ i) with
  | none => st9 C i 2
  | some C' => st9 C' i 1
def run9 (np : Nat) (ρ : RH) (eff : Nat → Bool) : List Nat → CS → CS
  | [], C => C
  | i :: T, C => run9 np ρ eff T (step9 np ρ eff C i)
theorem run9_snoc {np : Nat} {ρ : RH} {eff : Nat → Bool} {i : Nat} : ∀ (T : List Nat) (C : CS), run9 np ρ eff (T ++ [i]) C = step9 np ρ eff (run9 np ρ eff T C) i
  | [], _ => rfl
  | j :: T, C => run9_snoc T (step9 np ρ eff C j)
theorem step9_same {np : Nat} {ρ ρ' : RH} (g : lgd ρ ρ') {eff : Nat → Bool} {C : CS} {i : Nat} : step9 np ρ' eff C i = step9 np ρ eff C i := by
  unfold step9
  rw [pv9_same g, sw9_same g, aw9_same g, do9_same g]
/-! what holds along a view -/
def GD (n np : Nat) (ρ : RH) (J : List Nat) (C : CS) : Prop :=
  INV np C ∧ (∀ p, p < 20 → C.1 p = true → ∃ j, j ∈ J ∧ ρ 13 j = 0 ∧ pv9 ρ j = p) ∧ (∀ p, p < 20 → C.1 p = true → okl (C.2.1 p)) ∧
  (∀ p q, p < 20 → q < 20 → C.1 p = true → C.1 q = true → C.2.2.1 p = C.2.2.1 q → C.2.1 p = C.2.1 q → p = q) ∧
  (∀ p, p < 20 → C.1 p = true → ∀ x ∈ C.2.2.2.1 p, okw x.1 ∧ ∃ j, j ∈ J ∧ x.2 = nI j) ∧ (∀ i, i < n → ∀ w ∈ C.2.2.2.2.2 i, okw w)
theorem cap9_mem {l t : TXT} (h : cap9 l = some t) : t = l := by
  unfold cap9 at h
  split at h
  · cases h; rfl
  · cases h
theorem ins9_mem {s f : List Int32} {o : Int32} {l t : TXT} (h : ins9 s f o l = some t) : ∀ x ∈ t, x ∈ l ∨ x ∈ tag9 f o := by
  intro x hx
  unfold ins9 at h
  split at h
  · rw [cap9_mem h] at hx
    exact List.mem_append.mp hx
  · split at h
    · cases h
    · rw [cap9_mem h] at hx
      rcases List.mem_append.mp hx with hx | hx
      · rcases List.mem_append.mp hx with hx | hx
        · exact Or.inl (List.mem_of_mem_take hx)
        · exact Or.inr hx
      · exact Or.inl (List.mem_of_mem_drop hx)
theorem sb9_mem {s f : List Int32} {o : Int32} : ∀ (n : Nat) (l : TXT), ∀ x ∈ (sb9 s f o n l).1, x ∈ l ∨ x ∈ tag9 f o := by
  intro n
  induction n with
  | zero => intro l x hx; exact Or.inl hx
  | succ n ih =>
    intro l x hx
    simp only [sb9] at hx
    split at hx
    · rcases List.mem_append.mp hx with hx | hx
      · exact Or.inr hx
      · rcases ih _ x hx with h | h
        · exact Or.inl (List.mem_of_mem_drop h)
        · exact Or.inr h
    · cases l with
      | nil => exact absurd hx List.not_mem_nil
      | cons b t =>
        simp only at hx
        rcases List.mem_cons.mp hx with rfl | hx
        · exact Or.inl List.mem_cons_self
        · rcases ih _ x hx with h | h
          · exact Or.inl (List.mem_cons_of_mem _ h)
          · exact Or.inr h
theorem sbs9_mem {s f : List Int32} {o : Int32} {l t : TXT} (h : sbs9 s f o l = some t) : ∀ x ∈ t, x ∈ l ∨ x ∈ tag9 f o := by
  intro x hx
  unfold sbs9 at h
  split at h
  · cases h
  · rw [cap9_mem h] at hx
    exact sb9_mem _ _ x hx
theorem om9_mem {s : List Int32} {l t : TXT} (h : om9 s l = some t) : ∀ x ∈ t, x ∈ l := by
  intro x hx
  unfold om9 at h
  cases hf : fs9 s l with
  | none => rw [hf] at h; cases h
  | some k =>
    rw [hf] at h
    simp only [Option.map_some, Option.some.injEq] at h
    subst h
    exact List.mem_of_mem_take hx
theorem any9_no {f : Nat → Bool} {n : Nat} (h : any9 f n = false) : ∀ k, k < n → f k = false := by
  intro k hk
  cases e : f k with
  | false => rfl
  | true =>
    have := any9_iff.mpr ⟨k, hk, e⟩
    rw [h] at this
    cases this
theorem fh9_no {C : CS} {par lab but : Int32} {np q : Nat} (h : any9 (fh9 C par lab but) np = false) (hq : q < np) (hb : nI q ≠ but) (ht : C.1 q = true) (hp : C.2.2.1 q = par) (hl : C.2.1 q = lab) : False := by
  have := any9_no h q hq
  simp [fh9, hb, ht, hp, hl] at this
theorem GD.mono {n np : Nat} {ρ : RH} {J J' : List Nat} {C : CS} (h : GD n np ρ J C) (hJ : ∀ j ∈ J, j ∈ J') : GD n np ρ J' C := by
  obtain ⟨h1, h2, h3, h4, h5, h6⟩ := h
  exact ⟨h1, fun p hp ht => by obtain ⟨j, a, b⟩ := h2 p hp ht; exact ⟨j, hJ j a, b⟩, h3, h4, fun p hp ht x hx => by obtain ⟨a, j, b, c⟩ := h5 p hp ht x hx; exact ⟨a, j, hJ j b, c⟩, h6⟩
theorem GD.st {n np : Nat} {ρ : RH} {J : List Nat} {C : CS} {i : Nat} {x : Int32} (h : GD n np ρ J C) : GD n np ρ J (st9 C i x) := ⟨INV_same h.1 rfl rfl, h.2.1, h.2.2.1, h.2.2.2.1, h.2.2.2.2.1, h.2.2.2.2.2⟩
theorem tag9_mem {f : List Int32} {o : Int32} {x : Int32 × Int32} (h : x ∈ tag9 f o) : x.1 ∈ f ∧ x.2 = o := by
  unfold tag9 at h
  obtain ⟨w, hw, rfl⟩ := List.mem_map.mp h
  exact ⟨hw, rfl⟩
theorem GD_tx {n np : Nat} {ρ : RH} {J : List Nat} {C : CS} {i p : Nat} {t : TXT} {f : List Int32} (h : GD n np ρ J C) (hp : p < 20) (ht : C.1 p = true) (hf : ∀ w ∈ f, okw w) (hi : i ∈ J) (hm : ∀ x ∈ t, x ∈ C.2.2.2.1 p ∨ x ∈ tag9 f (nI i)) : GD n np ρ J (cTx C p t) := by
  obtain ⟨h1, h2, h3, h4, h5, h6⟩ := h
  refine ⟨INV_same h1 rfl rfl, h2, h3, h4, fun q hq hq2 x hx => ?_, h6⟩
  have hx : x ∈ va_up C.2.2.2.1 p t q := hx
  by_cases e : q = p
  · subst e
    rw [va_up_self] at hx
    rcases hm x hx with hx | hx
    · exact h5 q hq ht x hx
    · obtain ⟨a, b⟩ := tag9_mem hx
      exact ⟨hf _ a, i, hi, b⟩
  · rw [va_up_ne _ _ e] at hx
    exact h5 q hq hq2 x hx
theorem INV_out {np : Nat} {C : CS} {q : Nat} (h : INV np C) (hq : q < 20) (ht : C.1 q = true) : C.2.2.1 q = -1 ∨ ∃ r, r < 20 ∧ C.2.2.1 q = nI r ∧ C.1 r = true := by
  have hm : nI q ≠ -1 := nI_m1 (by omega)
  rcases h.2 q hq ht with e | ⟨p, h1, h2, h3, h4⟩
  · exact absurd e hm
  · have : q = p := nI_inj (by omega) (by omega) h2
    subst this
    rcases h4 with e | ⟨r, a, b, c, -⟩
    · exact Or.inl e
    · exact Or.inr ⟨r, a, b, c⟩
theorem GD_en {n np : Nat} {ρ : RH} {J : List Nat} {C : CS} {i p : Nat} {par lab : Int32} {f : List Int32} (h : GD n np ρ J C) (hI : INV np (cEn C p par lab (tag9 f (nI i)))) (hp : p < 20) (hno : C.1 p = false) (hl : okl lab) (hf : ∀ w ∈ f, okw w) (hi : i ∈ J) (hi0 : ρ 13 i = 0) (hip : pv9 ρ i = p) (ha : any9 (fh9 C par lab (-1)) np = false) : GD n np ρ J (cEn C p par lab (tag9 f (nI i))) := by
  obtain ⟨h1, h2, h3, h4, h5, h6⟩ := h
  have key : ∀ q, q < 20 → (cEn C p par lab (tag9 f (nI i))).1 q = true → q ≠ p → C.1 q = true := fun q hq ht e => (va_up_ne C.1 true e).symm.trans ht
  have nt : ∀ q, q < 20 → C.1 q = true → q ≠ p → C.2.2.1 q = par → C.2.1 q = lab → False := fun q hq ht e e1 e2 => fh9_no ha (h1.1 q hq ht) (nI_m1 (by omega)) ht e1 e2
  refine ⟨hI, fun q hq ht => ?_, fun q hq ht => ?_, fun q r hq hr hq1 hr1 e1 e2 => ?_, fun q hq ht x hx => ?_, h6⟩
  · by_cases e : q = p
    · exact ⟨i, hi, hi0, by rw [e]; exact hip⟩
    · exact h2 q hq (key q hq ht e)
  · show okl (va_up C.2.1 p lab q)
    by_cases e : q = p
    · rw [e, va_up_self]; exact hl
    · rw [va_up_ne _ _ e]; exact h3 q hq (key q hq ht e)
  · have e1 : va_up C.2.2.1 p par q = va_up C.2.2.1 p par r := e1
    have e2 : va_up C.2.1 p lab q = va_up C.2.1 p lab r := e2
    by_cases cq : q = p
    · by_cases cr : r = p
      · rw [cq, cr]
      · rw [cq, va_up_self, va_up_ne _ _ cr] at e1 e2
        exact (nt r hr (key r hr hr1 cr) cr e1.symm e2.symm).elim
    · by_cases cr : r = p
      · rw [cr, va_up_self, va_up_ne _ _ cq] at e1 e2
        exact (nt q hq (key q hq hq1 cq) cq e1 e2).elim
      · rw [va_up_ne _ _ cq, va_up_ne _ _ cr] at e1 e2
        exact h4 q r hq hr (key q hq hq1 cq) (key r hr hr1 cr) e1 e2
  · have hx : x ∈ va_up C.2.2.2.1 p (tag9 f (nI i)) q := hx
    by_cases e : q = p
    · rw [e, va_up_self] at hx
      obtain ⟨a, b⟩ := tag9_mem hx
      exact ⟨hf _ a, i, hi, b⟩
    · rw [va_up_ne _ _ e] at hx
      exact h5 q hq (key q hq ht e) x hx
theorem GD_lb {n np : Nat} {ρ : RH} {J : List Nat} {C : CS} {p : Nat} {lab : Int32} (h : GD n np ρ J C) (hp : p < 20) (hl : okl lab) (ha : any9 (fh9 C (C.2.2.1 p) lab (nI p)) np = false) : GD n np ρ J (cLb C p lab) := by
  obtain ⟨h1, h2, h3, h4, h5, h6⟩ := h
  have nt : ∀ q, q < 20 → C.1 q = true → q ≠ p → C.2.2.1 q = C.2.2.1 p → C.2.1 q = lab → False := fun q hq ht e e1 e2 => fh9_no ha (h1.1 q hq ht) (fun z => e (nI_inj (by omega) (by omega) z)) ht e1 e2
  refine ⟨INV_same h1 rfl rfl, h2, fun q hq ht => ?_, fun q r hq hr hq1 hr1 e1 e2 => ?_, h5, h6⟩
  · show okl (va_up C.2.1 p lab q)
    by_cases e : q = p
    · rw [e, va_up_self]; exact hl
    · rw [va_up_ne _ _ e]; exact h3 q hq ht
  · have e1 : C.2.2.1 q = C.2.2.1 r := e1
    have e2 : va_up C.2.1 p lab q = va_up C.2.1 p lab r := e2
    by_cases cq : q = p
    · by_cases cr : r = p
      · rw [cq, cr]
      · rw [cq, va_up_self, va_up_ne _ _ cr] at e2
        exact (nt r hr hr1 cr (by rw [← e1, cq]) e2.symm).elim
    · by_cases cr : r = p
      · rw [cr, va_up_self, va_up_ne _ _ cq] at e2
        exact (nt q hq hq1 cq (by rw [e1, cr]) e2).elim
      · rw [va_up_ne _ _ cq, va_up_ne _ _ cr] at e2
        exact h4 q r hq hr hq1 hr1 e1 e2
theorem GD_pa {n np : Nat} {ρ : RH} {J : List Nat} {C : CS} {p : Nat} {par : Int32} (h : GD n np ρ J C) (hI : INV np (cPa C p par)) (hp : p < 20) (ha : any9 (fh9 C par (C.2.1 p) (nI p)) np = false) : GD n np ρ J (cPa C p par) := by
  obtain ⟨h1, h2, h3, h4, h5, h6⟩ := h
  have nt : ∀ q, q < 20 → C.1 q = true → q ≠ p → C.2.2.1 q = par → C.2.1 q = C.2.1 p → False := fun q hq ht e e1 e2 => fh9_no ha (h1.1 q hq ht) (fun z => e (nI_inj (by omega) (by omega) z)) ht e1 e2
  refine ⟨hI, h2, h3, fun q r hq hr hq1 hr1 e1 e2 => ?_, h5, h6⟩
  have e1 : va_up C.2.2.1 p par q = va_up C.2.2.1 p par r := e1
  have e2 : C.2.1 q = C.2.1 r := e2
  by_cases cq : q = p
  · by_cases cr : r = p
    · rw [cq, cr]
    · rw [cq, va_up_self, va_up_ne _ _ cr] at e1
      exact (nt r hr hr1 cr e1.symm (by rw [← e2, cq])).elim
  · by_cases cr : r = p
    · rw [cr, va_up_self, va_up_ne _ _ cq] at e1
      exact (nt q hq hq1 cq e1 (by rw [e2, cr])).elim
    · rw [va_up_ne _ _ cq, va_up_ne _ _ cr] at e1
      exact h4 q r hq hr hq1 hr1 e1 e2
theorem GD_rm {n np : Nat} {ρ : RH} {J : List Nat} {C : CS} {p : Nat} (h : GD n np ρ J C) (hp : p < 20) : GD n np ρ J (cRm C p) := by
  obtain ⟨h1, h2, h3, h4, h5, h6⟩ := h
  have key : ∀ q, (cRm C p).1 q = true → C.1 q = true := fun q hx => by
    have hx : (C.1 q && !win9 C.2.2.1 20 (nI q) (nI p)) = true := hx
    cases e : C.1 q with
    | true => rfl
    | false => rw [e] at hx; cases hx
  exact ⟨INV_rm h1 hp, fun q hq ht => h2 q hq (key q ht), fun q hq ht => h3 q hq (key q ht), fun q r hq hr a b => h4 q r hq hr (key q a) (key r b), fun q hq ht => h5 q hq (key q ht), h6⟩
theorem GD_nw {n np : Nat} {ρ : RH} {J : List Nat} {C : CS} {o : Nat} {f : List Int32} (h : GD n np ρ J C) (hf : ∀ w ∈ f, okw w) : GD n np ρ J (cNw C o f) := by
  obtain ⟨h1, h2, h3, h4, h5, h6⟩ := h
  refine ⟨INV_same h1 rfl rfl, h2, h3, h4, h5, fun i hi w hw => ?_⟩
  have hw : w ∈ va_up C.2.2.2.2.2 o f i := hw
  by_cases e : i = o
  · rw [e, va_up_self] at hw; exact hf w hw
  · rw [va_up_ne _ _ e] at hw; exact h6 i hi w hw
theorem GD_do {n np i : Nat} {ρ : RH} {J : List Nat} {C C' : CS} {eff : Nat → Bool} (hD : DAT n np ρ) (h : GD n np ρ J C) (hJ : ∀ j ∈ J, j < n) (hi : i < n) (hiJ : i ∉ J) (hd : do9 np ρ C eff i (pv9 ρ i) (sw9 ρ i) (aw9 ρ i) = some C') : GD n np ρ (J ++ [i]) C' := by
  have hDI := hD.di hi
  have hen : ρ 13 i = 0 → pv9 ρ i < np ∧ C.1 (pv9 ρ i) = false := fun k0 => by
    obtain ⟨-, -, -, -, -, h8, -⟩ := hD.2.2.2.2.1 i hi
    have h8 := h8 (by rw [k0]; decide)
    refine ⟨h8, ?_⟩
    cases e : C.1 (pv9 ρ i) with
    | false => rfl
    | true =>
      obtain ⟨j, a, b, c⟩ := h.2.1 _ (by have := hD.2.1; omega) e
      have := hD.2.2.2.2.2.1 j i (hJ j a) hi b k0 c
      subst this
      exact absurd a hiJ
  have hI' := INV_do h.1 hDI hen hd
  have hm := h.mono (J' := J ++ [i]) (fun j hj => List.mem_append_left _ hj)
  have hiJ' : i ∈ J ++ [i] := List.mem_append_right _ List.mem_cons_self
  have hnw := h.2.2.2.2.2 i hi
  obtain ⟨-, -, -, -, -, -, -, -, h17, -⟩ := hD.2.2.2.2.1 i hi
  obtain ⟨hs, hf, h15, h7, hp7, h16, hs2⟩ := hDI
  generalize hpe : pv9 ρ i = p at *
  unfold do9 at hd
  by_cases k0 : ρ 13 i = 0
  · rw [if_pos k0] at hd
    split at hd
    · next hc =>
      cases hd
      have hal : any9 (fh9 C (ρ 16 i) (ρ 17 i) (-1)) np = false := by
        cases e : any9 (fh9 C (ρ 16 i) (ρ 17 i) (-1)) np with
        | false => rfl
        | true => rw [e] at hc; simp at hc
      exact GD_en hm hI' (hp7 (by rw [k0]; decide)) (hen k0).2 (h17 (Or.inl k0)) hnw hiJ' k0 hpe hal
    · cases hd
  rw [if_neg k0] at hd
  by_cases k7 : ρ 13 i = 7
  · rw [if_pos k7] at hd
    split at hd
    · split at hd
      · cases hd; exact GD_nw hm (mem_aw hD hi)
      · cases hd; exact hm
    · cases hd
  rw [if_neg k7] at hd
  have hp : p < 20 := hp7 k7
  cases ht : C.1 p with
  | false => rw [if_pos ht] at hd; cases hd
  | true =>
    rw [if_neg (by rw [ht]; decide)] at hd
    have tx : ∀ o : Option TXT, (∀ t, o = some t → ∀ x ∈ t, x ∈ C.2.2.2.1 p ∨ x ∈ tag9 (C.2.2.2.2.2 i) (nI i)) → o.map (cTx C p) = some C' → GD n np ρ (J ++ [i]) C' := fun o hx q => by
      cases o with
      | none => cases q
      | some t => cases q; exact GD_tx hm hp ht hnw hiJ' (hx t rfl)
    split at hd
    · exact tx _ (fun t q => ins9_mem q) hd
    split at hd
    · exact tx _ (fun t q => sbs9_mem q) hd
    split at hd
    · exact tx _ (fun t q x hx => Or.inl (om9_mem q x hx)) hd
    split at hd
    · next k4 =>
      split at hd
      · next hc => cases hd; exact GD_lb hm hp (h17 (Or.inr k4)) hc
      · cases hd
    split at hd
    · split at hd
      · next hc =>
        cases hd
        have hal : any9 (fh9 C (ρ 16 i) (C.2.1 p) (nI p)) np = false := by
          cases e : any9 (fh9 C (ρ 16 i) (C.2.1 p) (nI p)) np with
          | false => rfl
          | true => rw [e] at hc; simp at hc
        exact GD_pa hm hI' hp hal
      · cases hd
    · cases hd; exact GD_rm hm hp
theorem GD_step {n np i : Nat} {ρ : RH} {J : List Nat} {C : CS} {eff : Nat → Bool} (hD : DAT n np ρ) (h : GD n np ρ J C) (hJ : ∀ j ∈ J, j < n) (hi : i < n) (hiJ : i ∉ J) : GD n np ρ (J ++ [i]) (step9 np ρ eff C i) := by
  unfold step9
  split
  · exact (h.mono (fun j hj => List.mem_append_left _ hj)).st
  · next C' e => exact (GD_do hD h hJ hi hiJ e).st
theorem GD_c0 {n np : Nat} {ρ : RH} (hD : DAT n np ρ) : GD n np ρ [] (c09 (aw9 ρ)) := by
  have no : ∀ p, (c09 (aw9 ρ)).1 p = true → False := fun p h => by cases (show false = true from h)
  exact ⟨⟨fun q _ h => (no q h).elim, fun q _ h => (no q h).elim⟩, fun q _ h => (no q h).elim, fun q _ h => (no q h).elim, fun q r _ _ h => (no q h).elim, fun q _ h => (no q h).elim, fun i hi w hw => mem_aw hD hi w hw⟩
