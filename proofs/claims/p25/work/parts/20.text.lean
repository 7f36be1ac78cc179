/-! Texts as lists of words with their origins; what the reference does to a text. -/
abbrev TXT : Type := List (Int32 × Int32)
theorem li0 : (0 : Int32) = nI 0 := rfl
theorem li1 : (1 : Int32) = nI 1 := rfl
theorem li4 : (4 : Int32) = nI 4 := rfl
theorem li12 : (12 : Int32) = nI 12 := rfl
theorem ti_n {n : Nat} (h : n < 2147483648) : (nI n).toInt = (n : Int) := nI_toInt h
theorem cl_n {n : Nat} (h : n < 2147483648) : (nI n).toNatClampNeg = n := nI_clamp h
theorem vi_n {n N : Nat} (h : n < N) (hN : N < 2147483648) : vp_in (nI n) N := vp_in_nI h hN
theorem nI_inj {a b : Nat} (ha : a < 2147483648) (hb : b < 2147483648) (h : nI a = nI b) : a = b := (nI_eq ha hb).mp h
theorem ti_m1 : (-1 : Int32).toInt = -1 := by decide
theorem nI_m1 {n : Nat} (h : n < 2147483648) : nI n ≠ -1 := by
  intro q
  have := congrArg Int32.toInt q
  rw [ti_n h, ti_m1] at this
  omega
/-- a truth as 0 or 1 -/
def bI (c : Prop) [Decidable c] : Int32 := if c then 1 else 0
theorem bI_t {c : Prop} [Decidable c] (h : c) : bI c = 1 := if_pos h
theorem bI_f {c : Prop} [Decidable c] (h : ¬ c) : bI c = 0 := if_neg h
theorem bI_01 (c : Prop) [Decidable c] : bI c = 0 ∨ bI c = 1 := by
  by_cases h : c
  · exact Or.inr (if_pos h)
  · exact Or.inl (if_neg h)
theorem bI_z {c : Prop} [Decidable c] : (bI c).toInt = 0 ↔ ¬ c := by
  by_cases h : c
  · rw [bI_t h]; exact ⟨fun q => absurd q (by decide), fun q => absurd h q⟩
  · rw [bI_f h]; exact ⟨fun _ => h, fun _ => rfl⟩
/-- s stands at the head of l -/
def mt9 : List Int32 → TXT → Bool
  | [], _ => true
  | _ :: _, [] => false
  | a :: s, b :: l => decide (a = b.1) && mt9 s l
/-- the first place where s stands in l -/
def fs9 (s : List Int32) : TXT → Option Nat
  | [] => if mt9 s [] then some 0 else none
  | b :: l => if mt9 s (b :: l) then some 0 else (fs9 s l).map (· + 1)
def tag9 (f : List Int32) (o : Int32) : TXT := f.map (fun w => (w, o))
theorem tag9_len (f : List Int32) (o : Int32) : (tag9 f o).length = f.length := List.length_map ..
def cap9 (l : TXT) : Option TXT := if l.length ≤ 12 then some l else none
def ins9 (s f : List Int32) (o : Int32) (l : TXT) : Option TXT := if s.length = 0 then cap9 (l ++ tag9 f o) else
  match fs9 s l with
  | none => none
  | some k => cap9 (l.take (k + s.length) ++ tag9 f o ++ l.drop (k + s.length))
/-- every s in l gives way to f; how often -/
def sb9 (s f : List Int32) (o : Int32) : Nat → TXT → TXT × Nat
  | 0, l => (l, 0)
  | n + 1, l => if mt9 s l then (tag9 f o ++ (sb9 s f o n (l.drop s.length)).1, (sb9 s f o n (l.drop s.length)).2 + 1) else
    match l with
    | [] => ([], 0)
    | b :: t => (b :: (sb9 s f o n t).1, (sb9 s f o n t).2)
def sbs9 (s f : List Int32) (o : Int32) (l : TXT) : Option TXT := if (sb9 s f o l.length l).2 = 0 then none else cap9 (sb9 s f o l.length l).1
def om9 (s : List Int32) (l : TXT) : Option TXT := (fs9 s l).map (fun k => l.take k)
theorem mt9_len : ∀ (s : List Int32) (l : TXT), mt9 s l = true → s.length ≤ l.length
  | [], _, _ => Nat.zero_le _
  | _ :: _, [], h => by simp [mt9] at h
  | a :: s, b :: l, h => by
    simp only [mt9, Bool.and_eq_true] at h
    have := mt9_len s l h.2
    simp only [List.length_cons]
    omega
theorem mt9_iff : ∀ (s : List Int32) (l : TXT), mt9 s l = true ↔ s.length ≤ l.length ∧ ∀ k (h : k < s.length) (h2 : k < l.length), s[k] = (l[k]).1
  | [], l => by simp [mt9]
  | a :: s, [] => by simp [mt9]
  | a :: s, b :: l => by
    simp only [mt9, Bool.and_eq_true, decide_eq_true_eq, mt9_iff s l, List.length_cons]
    constructor
    · rintro ⟨h1, h2, h3⟩
      refine ⟨by omega, fun k hk hk2 => ?_⟩
      cases k with
      | zero => exact h1
      | succ k => exact h3 k (by simpa using hk) (by simpa using hk2)
    · rintro ⟨h1, h2⟩
      refine ⟨h2 0 (by omega) (by omega), by omega, fun k hk hk2 => ?_⟩
      exact h2 (k + 1) (by simpa using hk) (by simpa using hk2)
theorem fs9_some {s : List Int32} : ∀ {l : TXT} {k : Nat}, fs9 s l = some k → k ≤ l.length ∧ mt9 s (l.drop k) = true ∧ ∀ j, j < k → mt9 s (l.drop j) = false
  | [], k, h => by
    simp only [fs9] at h
    split at h
    · rename_i c
      cases h
      exact ⟨Nat.le_refl _, c, fun j hj => absurd hj (Nat.not_lt_zero j)⟩
    · cases h
  | b :: l, k, h => by
    simp only [fs9] at h
    split at h
    · rename_i c
      cases h
      exact ⟨Nat.zero_le _, c, fun j hj => absurd hj (Nat.not_lt_zero j)⟩
    · rename_i c
      cases hf : fs9 s l with
      | none => rw [hf] at h; cases h
      | some j =>
        rw [hf] at h
        cases h
        obtain ⟨h1, h2, h3⟩ := fs9_some hf
        refine ⟨by simp; omega, h2, fun i hi => ?_⟩
        cases i with
        | zero => simpa using c
        | succ i => exact h3 i (by have h9 : i + 1 < j + 1 := hi; omega)
theorem fs9_none {s : List Int32} : ∀ {l : TXT}, fs9 s l = none → ∀ j, j ≤ l.length → mt9 s (l.drop j) = false
  | [], h, j, hj => by
    simp only [fs9] at h
    split at h
    · cases h
    · rename_i c
      simpa using c
  | b :: l, h, j, hj => by
    simp only [fs9] at h
    split at h
    · cases h
    · rename_i c
      cases hf : fs9 s l with
      | some j => rw [hf] at h; cases h
      | none =>
        cases j with
        | zero => simpa using c
        | succ j => exact fs9_none hf j (by simpa using hj)
theorem fs9_is {s : List Int32} {l : TXT} {k : Nat} (h1 : k ≤ l.length) (h2 : mt9 s (l.drop k) = true) (h3 : ∀ j, j < k → mt9 s (l.drop j) = false) : fs9 s l = some k := by
  cases h : fs9 s l with
  | none =>
    have := fs9_none h k h1
    rw [h2] at this
    cases this
  | some j =>
    obtain ⟨g1, g2, g3⟩ := fs9_some h
    rcases Nat.lt_trichotomy j k with q | q | q
    · have := h3 j q
      rw [g2] at this
      cases this
    · rw [q]
    · have := g3 k q
      rw [h2] at this
      cases this
/-! the reference's rows -/
def lg41 (ρ ρ' : RH) : Prop := ∀ j, j ≠ 45 → j ≠ 46 → j ≠ 47 → ρ' j = ρ j
theorem lg41.rf {ρ : RH} : lg41 ρ ρ := fun _ _ _ _ => rfl
theorem lg41.tr {a b c : RH} (h1 : lg41 a b) (h2 : lg41 b c) : lg41 a c := fun j x y z => (h2 j x y z).trans (h1 j x y z)
/-- what is put together -/
def MK (ρ : RH) (l : TXT) : Prop := ρ 45 0 = nI l.length ∧ ∀ k (h : k < l.length), ρ 46 k = (l[k]).1 ∧ ρ 47 k = (l[k]).2
/-- the text of a provision -/
def TX (ρ : RH) (p : Nat) (l : TXT) : Prop := l.length ≤ 12 ∧ ρ 40 p = nI l.length ∧ ∀ k (h : k < l.length), ρ 41 (12 * p + k) = (l[k]).1 ∧ ρ 42 (12 * p + k) = (l[k]).2
/-- the searched words of an instruction -/
def SR (ρ : RH) (i : Nat) (s : List Int32) : Prop := s.length ≤ 4 ∧ ρ 18 i = nI s.length ∧ ∀ k (h : k < s.length), ρ 19 (4 * i + k) = s[k]
/-- the new words of an instruction, in the view -/
def NW (ρ : RH) (i : Nat) (f : List Int32) : Prop := f.length ≤ 4 ∧ ρ 43 i = nI f.length ∧ ∀ k (h : k < f.length), ρ 44 (4 * i + k) = f[k]
theorem MK.nil {ρ : RH} (h : ρ 45 0 = 0) : MK ρ [] := ⟨h, fun k h => absurd h (Nat.not_lt_zero k)⟩
theorem s_puts {ρ : RH} {l : TXT} {w o : Int32} {post : RH → Prop} (h : MK ρ l) (hl : l.length < 64) (k : ∀ ρ', MK ρ' (l ++ [(w, o)]) → lg41 ρ ρ' → post ρ') : wpX7_puts ρ w o post := by
  unfold wpX7_puts
  have e0 : ρ 45 0 = nI l.length := h.1
  rw [e0]
  have hc : (nI l.length).toNatClampNeg = l.length := cl_n (by omega)
  rw [hc]
  refine ⟨vi_n hl (by decide), ?_⟩
  intro t2 e2
  have e3 : t2 45 0 = nI l.length := by rw [e2, u2_oth (by decide), e0]
  rw [e3, hc]
  refine ⟨vi_n hl (by decide), ?_⟩
  intro t5 e5 t7 e7
  have e6 : t5 45 0 = nI l.length := by rw [e5, u2_oth (by decide), e3]
  rw [e6, li1, nI_add] at e7
  refine k t7 ⟨?_, fun j hj => ?_⟩ (fun j h1 h2 h3 => ?_)
  · rw [e7, List.length_append]; simp [u2]
  · have a1 : t7 46 = upd (ρ 46) l.length w := by rw [e7, u2_oth (by decide), e5, u2_oth (by decide), e2, u2_row]
    have a2 : t7 47 = upd (ρ 47) l.length o := by rw [e7, u2_oth (by decide), e5, u2_row, e2, u2_oth (by decide)]
    rw [a1, a2]
    by_cases hjl : j < l.length
    · rw [List.getElem_append_left hjl]
      have := h.2 j hjl
      simp only [upd, if_neg (show ¬ j = l.length by omega)]
      exact this
    · have hjl2 : j = l.length := by simp at hj; omega
      subst hjl2
      simp [upd]
  · rw [e7, u2_oth h1, e5, u2_oth h3, e2, u2_oth h2]
theorem s_putsNew {ρ : RH} {l : TXT} {i : Nat} {f : List Int32} {post : RH → Prop} (h : MK ρ l) (hi : i < 40) (hf : NW ρ i f) (hl : l.length + 4 ≤ 64) (k : ∀ ρ', MK ρ' (l ++ tag9 f (nI i)) → lg41 ρ ρ' → post ρ') : wpX7_putsNew ρ (nI i) post := by
  unfold wpX7_putsNew
  refine ⟨f.length + 1, ?_⟩
  have key : ∀ (d j : Nat), j + d = f.length → ∀ ρ1, MK ρ1 (l ++ tag9 (f.take j) (nI i)) → lg41 ρ ρ1 → wX7_putsNew_2 (nI i) post (d + 1) ρ1 (nI j) := by
    intro d
    induction d with
    | zero =>
      intro j hj ρ1 h1 h2
      unfold wX7_putsNew_2
      refine ⟨vi_n hi (by decide), ?_⟩
      rw [cl_n (by omega), h2 43 (by decide) (by decide) (by decide), hf.2.1, ti_n (by have := hf.1; omega), ti_n (by have := hf.1; omega), if_neg (by omega)]
      have : f.take j = f := List.take_of_length_le (by omega)
      rw [this] at h1
      exact k ρ1 h1 h2
    | succ d ih =>
      intro j hj ρ1 h1 h2
      have hjf : j < f.length := by omega
      have hf4 := hf.1
      unfold wX7_putsNew_2
      refine ⟨vi_n hi (by decide), ?_⟩
      rw [cl_n (by omega), h2 43 (by decide) (by decide) (by decide), hf.2.1, ti_n (by omega), ti_n (by omega), if_pos (by omega)]
      rw [li4, pk_mul, nI_add, li1, nI_add, cl_n (by omega)]
      refine ⟨vi_n (by omega) (by decide), ?_⟩
      refine s_puts h1 (by rw [List.length_append, tag9_len, List.length_take]; omega) (fun ρ' h3 h4 => ?_)
      refine ih (j + 1) (by omega) ρ' ?_ (h2.tr h4)
      have e : ρ1 44 (4 * i + j) = f[j] := by rw [h2 44 (by decide) (by decide) (by decide)]; exact hf.2.2 j hjf
      rw [e, List.append_assoc] at h3
      have : tag9 (f.take j) (nI i) ++ [(f[j], nI i)] = tag9 (f.take (j + 1)) (nI i) := by
        unfold tag9
        rw [List.take_succ_eq_append_getElem hjf, List.map_append]
        rfl
      rw [this] at h3
      exact h3
  exact key f.length 0 (by omega) ρ (by simpa [tag9] using h) lg41.rf
theorem get_eq9 {α : Type} {l : List α} {i j : Nat} (h : i = j) (hi : i < l.length) (hj : j < l.length) : l[i] = l[j] := by subst h; rfl
theorem s_putsOld {ρ : RH} {l t : TXT} {p a b : Nat} {post : RH → Prop} (h : MK ρ l) (hp : p < 20) (ht : TX ρ p t) (hab : a ≤ b) (hb : b ≤ t.length) (hl : l.length + (b - a) ≤ 64) (k : ∀ ρ', MK ρ' (l ++ (t.drop a).take (b - a)) → lg41 ρ ρ' → post ρ') : wpX7_putsOld ρ (nI p) (nI a) (nI b) post := by
  unfold wpX7_putsOld
  refine ⟨b - a + 1, ?_⟩
  have ht12 := ht.1
  have key : ∀ (d j : Nat), a ≤ j → j + d = b → ∀ ρ1, MK ρ1 (l ++ (t.drop a).take (j - a)) → lg41 ρ ρ1 → wX7_putsOld_3 (nI p) (nI a) (nI b) post (d + 1) ρ1 (nI j) := by
    intro d
    induction d with
    | zero =>
      intro j hj0 hj ρ1 h1 h2
      unfold wX7_putsOld_3
      rw [ti_n (by omega), ti_n (by omega), if_neg (by omega)]
      have : j = b := by omega
      subst this
      exact k ρ1 h1 h2
    | succ d ih =>
      intro j hj0 hj ρ1 h1 h2
      unfold wX7_putsOld_3
      rw [ti_n (by omega), ti_n (by omega), if_pos (by omega)]
      rw [li12, pk_mul, nI_add, li1, nI_add, cl_n (by omega)]
      refine ⟨vi_n (by omega) (by decide), vi_n (by omega) (by decide), ?_⟩
      refine s_puts h1 (by rw [List.length_append, List.length_take, List.length_drop]; omega) (fun ρ' h3 h4 => ?_)
      refine ih (j + 1) (by omega) (by omega) ρ' ?_ (h2.tr h4)
      have hjt : j < t.length := by omega
      have e1 : ρ1 41 (12 * p + j) = (t[j]).1 := by rw [h2 41 (by decide) (by decide) (by decide)]; exact (ht.2.2 j hjt).1
      have e2 : ρ1 42 (12 * p + j) = (t[j]).2 := by rw [h2 42 (by decide) (by decide) (by decide)]; exact (ht.2.2 j hjt).2
      rw [e1, e2, List.append_assoc] at h3
      have : (t.drop a).take (j - a) ++ [((t[j]).1, (t[j]).2)] = (t.drop a).take (j + 1 - a) := by
        have e : j + 1 - a = (j - a) + 1 := by omega
        have hlt : j - a < (t.drop a).length := by rw [List.length_drop]; omega
        have e9 : (t.drop a)[j - a] = t[j] := (List.getElem_drop ..).trans (get_eq9 (by omega) _ _)
        rw [e, List.take_succ_eq_append_getElem hlt, e9]
      rw [this] at h3
      exact h3
  exact key (b - a) a (Nat.le_refl _) (by omega) ρ (by rw [Nat.sub_self, List.take_zero, List.append_nil]; exact h) lg41.rf
/-- what the making of a text leaves: everything but the rows of texts, of one provision's places -/
def lgT (p : Nat) (ρ ρ' : RH) : Prop := (∀ j, j ≠ 40 → j ≠ 41 → j ≠ 42 → j ≠ 45 → j ≠ 46 → j ≠ 47 → ρ' j = ρ j) ∧ (∀ q, q ≠ p → ρ' 40 q = ρ 40 q) ∧ ∀ q k, q ≠ p → k < 12 → ρ' 41 (12 * q + k) = ρ 41 (12 * q + k) ∧ ρ' 42 (12 * q + k) = ρ 42 (12 * q + k)
theorem lgT.of {p : Nat} {ρ ρ' : RH} (h : lg41 ρ ρ') : lgT p ρ ρ' :=
  ⟨fun j _ _ _ h4 h5 h6 => h j h4 h5 h6, fun q _ => by rw [h 40 (by decide) (by decide) (by decide)], fun q k _ _ => by rw [h 41 (by decide) (by decide) (by decide), h 42 (by decide) (by decide) (by decide)]; exact ⟨rfl, rfl⟩⟩
theorem lgT.tr {p : Nat} {a b c : RH} (h1 : lgT p a b) (h2 : lgT p b c) : lgT p a c :=
  ⟨fun j x1 x2 x3 x4 x5 x6 => (h2.1 j x1 x2 x3 x4 x5 x6).trans (h1.1 j x1 x2 x3 x4 x5 x6), fun q hq => (h2.2.1 q hq).trans (h1.2.1 q hq), fun q k hq hk => ⟨(h2.2.2 q k hq hk).1.trans (h1.2.2 q k hq hk).1, (h2.2.2 q k hq hk).2.trans (h1.2.2 q k hq hk).2⟩⟩
theorem TX.kept {ρ ρ' : RH} {p : Nat} {l : TXT} (h : TX ρ p l) (h2 : lg41 ρ ρ') : TX ρ' p l := by
  refine ⟨h.1, ?_, fun k hk => ?_⟩
  · rw [h2 40 (by decide) (by decide) (by decide)]; exact h.2.1
  · rw [h2 41 (by decide) (by decide) (by decide), h2 42 (by decide) (by decide) (by decide)]; exact h.2.2 k hk
theorem TX.keptT {ρ ρ' : RH} {p q : Nat} {l : TXT} (h : TX ρ q l) (h2 : lgT p ρ ρ') (hq : q ≠ p) : TX ρ' q l := by
  have := h.1
  refine ⟨h.1, ?_, fun k hk => ?_⟩
  · rw [h2.2.1 q hq]; exact h.2.1
  · rw [(h2.2.2 q k hq (by omega)).1, (h2.2.2 q k hq (by omega)).2]; exact h.2.2 k hk
theorem s_takes {ρ : RH} {l : TXT} {p : Nat} {post : Int32 → RH → Prop} (h : MK ρ l) (hl : l.length ≤ 64) (hp : p < 20) (hno : cap9 l = none → ∀ ρ', lg41 ρ ρ' → post 0 ρ') (hyes : ∀ t, cap9 l = some t → ∀ ρ', TX ρ' p t → lgT p ρ ρ' → post 1 ρ') : wpX7_takes ρ (nI p) post := by
  unfold wpX7_takes
  rw [h.1, ti_n (by omega)]
  by_cases c : l.length ≤ 12
  · rw [if_pos (by omega)]
    refine ⟨l.length + 1, ?_⟩
    have key : ∀ (d j : Nat), j + d = l.length → ∀ ρ1, MK ρ1 l → (∀ k (h : k < l.length), k < j → ρ1 41 (12 * p + k) = (l[k]).1 ∧ ρ1 42 (12 * p + k) = (l[k]).2) → lgT p ρ ρ1 → wX7_takes_13 (nI p) post (d + 1) ρ1 (nI j) := by
      intro d
      induction d with
      | zero =>
        intro j hj ρ1 h1 h2 h3
        unfold wX7_takes_13
        rw [h1.1, ti_n (by omega), ti_n (by omega), if_neg (by omega)]
        refine ⟨vi_n hp (by decide), ?_⟩
        intro t4 e4
        rw [cl_n (by omega)] at e4
        refine hyes l (if_pos c) t4 ⟨c, ?_, fun k hk => ?_⟩ (h3.tr ⟨fun j h1 h2 h3 h4 h5 h6 => ?_, fun q hq => ?_, fun q k hq hk => ?_⟩)
        · rw [e4]; simp [u2]
        · rw [e4, u2_oth (by decide), u2_oth (by decide)]; exact h2 k hk (by omega)
        · rw [e4, u2_oth h1]
        · rw [e4]; simp [u2, hq]
        · rw [e4, u2_oth (by decide), u2_oth (by decide)]; exact ⟨rfl, rfl⟩
      | succ d ih =>
        intro j hj ρ1 h1 h2 h3
        have hjl : j < l.length := by omega
        unfold wX7_takes_13
        rw [h1.1, ti_n (by omega), ti_n (by omega), if_pos (by omega)]
        rw [li12, pk_mul, nI_add, li1, nI_add, cl_n (by omega), cl_n (by omega)]
        refine ⟨vi_n (by omega) (by decide), vi_n (by omega) (by decide), ?_⟩
        intro t8 e8
        refine ⟨vi_n (by omega) (by decide), vi_n (by omega) (by decide), ?_⟩
        intro t12 e12
        have a45 : t12 45 = ρ1 45 := by rw [e12, u2_oth (by decide), e8, u2_oth (by decide)]
        have a46 : t12 46 = ρ1 46 := by rw [e12, u2_oth (by decide), e8, u2_oth (by decide)]
        have a47 : t12 47 = ρ1 47 := by rw [e12, u2_oth (by decide), e8, u2_oth (by decide)]
        have a41 : t12 41 = upd (ρ1 41) (12 * p + j) (l[j]).1 := by rw [e12, u2_oth (by decide), e8, u2_row, (h1.2 j hjl).1]
        have a42 : t12 42 = upd (ρ1 42) (12 * p + j) (l[j]).2 := by rw [e12, u2_row, e8, u2_oth (show (47 : Nat) ≠ 41 by decide), (h1.2 j hjl).2, u2_oth (by decide)]
        refine ih (j + 1) (by omega) t12 ⟨by rw [a45]; exact h1.1, fun k hk => by rw [a46, a47]; exact h1.2 k hk⟩ (fun k hk hkj => ?_) (h3.tr ⟨fun j h1 h2 h3 h4 h5 h6 => ?_, fun q hq => ?_, fun q k hq hk => ?_⟩)
        · rw [a41, a42]
          by_cases e : k = j
          · subst e; simp [upd]
          · have := h2 k hk (by omega)
            simp only [upd, if_neg (show ¬ 12 * p + k = 12 * p + j by omega)]
            exact this
        · rw [e12, u2_oth h3, e8, u2_oth h2]
        · rw [e12, u2_oth (by decide), e8, u2_oth (by decide)]
        · rw [a41, a42]
          have : ¬ 12 * q + k = 12 * p + j := by omega
          simp only [upd, if_neg this]
          exact ⟨trivial, trivial⟩
    exact key l.length 0 (by omega) ρ h (fun k _ hk => absurd hk (Nat.not_lt_zero k)) (lgT.of lg41.rf)
  · rw [if_neg (by omega)]
    exact hno (if_neg c) ρ lg41.rf
theorem s_isFoundAt {ρ : RH} {i p k : Nat} {s : List Int32} {t : TXT} {post : Int32 → Prop} (hi : i < 40) (hp : p < 20) (hs : SR ρ i s) (ht : TX ρ p t) (hk : k ≤ t.length) (h : post (bI (mt9 s (t.drop k) = true))) : wpX7_isFoundAt ρ (nI i) (nI p) (nI k) post := by
  unfold wpX7_isFoundAt
  have hs4 := hs.1
  have ht12 := ht.1
  refine ⟨vi_n hi (by decide), vi_n hp (by decide), ?_⟩
  rw [cl_n (by omega), cl_n (by omega), hs.2.1, ht.2.1, nI_add, ti_n (by omega), ti_n (by omega)]
  have lo : ∀ (n j : Nat), j ≤ 5 → post 0 → wX7_isFoundAt_27 (nI i) (nI p) (nI k) post (n + 1) ρ 0 (nI j) := by
    intro n j hj hpo
    unfold wX7_isFoundAt_27
    refine ⟨vi_n hi (by decide), ?_⟩
    split
    · rw [if_pos (by decide)]
      exact ⟨Or.inl rfl, hpo⟩
    · exact ⟨Or.inl rfl, hpo⟩
  by_cases c : k + s.length ≤ t.length
  · rw [if_pos (by omega)]
    refine ⟨s.length + 1, ?_⟩
    have key : ∀ (d j : Nat), j + d = s.length → (∀ q (h1 : q < s.length) (h2 : k + q < t.length), q < j → s[q] = (t[k + q]).1) → wX7_isFoundAt_27 (nI i) (nI p) (nI k) post (d + 1) ρ 1 (nI j) := by
      intro d
      induction d with
      | zero =>
        intro j hj h1
        unfold wX7_isFoundAt_27
        refine ⟨vi_n hi (by decide), ?_⟩
        rw [cl_n (by omega), hs.2.1, ti_n (by omega), ti_n (by omega), if_neg (by omega)]
        refine ⟨Or.inr rfl, ?_⟩
        have hm : mt9 s (t.drop k) = true := by
          rw [mt9_iff]
          refine ⟨by rw [List.length_drop]; omega, fun q hq hq2 => ?_⟩
          rw [List.length_drop] at hq2
          rw [h1 q hq (by omega) (by omega), List.getElem_drop]
        rw [bI_t hm] at h
        exact h
      | succ d ih =>
        intro j hj h1
        have hjs : j < s.length := by omega
        have hjt : k + j < t.length := by omega
        unfold wX7_isFoundAt_27
        refine ⟨vi_n hi (by decide), ?_⟩
        rw [cl_n (by omega), hs.2.1, ti_n (by omega), ti_n (by omega), if_pos (by omega), if_neg (by decide)]
        rw [li12, li4, pk_mul, pk_mul, nI_add, nI_add, nI_add, cl_n (by omega), cl_n (by omega)]
        refine ⟨vi_n (by omega) (by decide), vi_n (by omega) (by decide), ?_⟩
        rw [show 12 * p + k + j = 12 * p + (k + j) by omega, (ht.2.2 (k + j) hjt).1, hs.2.2 j hjs, li1, nI_add]
        by_cases q : (t[k + j]).1 = s[j]
        · rw [if_pos (by rw [q])]
          refine ih (j + 1) (by omega) (fun r hr hr2 hrj => ?_)
          by_cases e : r = j
          · subst e; exact q.symm
          · exact h1 r hr hr2 (by omega)
        · rw [if_neg (fun u => q (ti_eq.mp u))]
          refine lo d (j + 1) (by omega) ?_
          have hm : ¬ mt9 s (t.drop k) = true := by
            intro u
            rw [mt9_iff] at u
            have := u.2 j hjs (by rw [List.length_drop]; omega)
            rw [List.getElem_drop] at this
            exact q this.symm
          rw [bI_f hm] at h
          exact h
    exact key s.length 0 (by omega) (fun q _ _ hq => absurd hq (Nat.not_lt_zero q))
  · rw [if_neg (by omega)]
    have hm : ¬ mt9 s (t.drop k) = true := by
      intro u
      have := mt9_len s _ u
      rw [List.length_drop] at this
      omega
    rw [bI_f hm] at h
    exact ⟨1, lo 0 0 (by omega) h⟩
/-- a place, or none, as a number -/
def oI : Option Nat → Int32
  | none => -1
  | some n => nI n
set_option maxRecDepth 100000 in
theorem s_firstPlace {ρ : RH} {i p : Nat} {s : List Int32} {t : TXT} {post : Int32 → Prop} (hi : i < 40) (hp : p < 20) (hs : SR ρ i s) (ht : TX ρ p t) (h : post (oI (fs9 s t))) : wpX7_firstPlace ρ (nI i) (nI p) post := by
  unfold wpX7_firstPlace
  have ht12 := ht.1
  refine ⟨vi_n hp (by decide), t.length + 2, ?_⟩
  rw [cl_n (by omega), ht.2.1]
  -- found is the first place above the one looked at
  have key : ∀ (j : Nat) (f : Option Nat), j ≤ t.length + 1 → (match f with | none => ∀ q, j ≤ q → q ≤ t.length → mt9 s (t.drop q) = false | some v => j ≤ v ∧ v ≤ t.length ∧ mt9 s (t.drop v) = true ∧ ∀ q, j ≤ q → q < v → mt9 s (t.drop q) = false) → ∀ x : Int32, x + 1 = nI j → (j = 0 → x.toInt < 0) → (0 < j → x = nI (j - 1)) → wX7_firstPlace_10 (nI i) (nI p) post (j + 1) ρ (oI f) x := by
    intro j
    induction j with
    | zero =>
      intro f _ hf x _ hx _
      unfold wX7_firstPlace_10
      rw [if_pos (hx rfl)]
      have : fs9 s t = f := by
        cases f with
        | none =>
          cases hq : fs9 s t with
          | none => rfl
          | some v =>
            obtain ⟨g1, g2, _⟩ := fs9_some hq
            have := hf v (Nat.zero_le _) g1
            rw [g2] at this
            cases this
        | some v => exact fs9_is hf.2.1 hf.2.2.1 (fun q hq => hf.2.2.2 q (Nat.zero_le _) hq)
      rw [← this]
      exact h
    | succ j ih =>
      intro f hj hf x _ _ hx2
      have hxj : x = nI j := hx2 (by omega)
      subst hxj
      unfold wX7_firstPlace_10
      rw [ti_n (by omega), if_neg (by omega)]
      refine s_isFoundAt hi hp hs ht (by omega) ?_
      have hn1 : nI j + (-1 : Int32) + 1 = nI j := by
        rw [Int32.add_assoc]
        have : (-1 : Int32) + 1 = 0 := by decide
        rw [this, Int32.add_zero]
      have hn0 : j = 0 → (nI j + (-1 : Int32)).toInt < 0 := by
        rintro rfl
        decide
      have hnp : 0 < j → nI j + (-1 : Int32) = nI (j - 1) := by
        intro q
        have e : j = (j - 1) + 1 := by omega
        rw [e, pk_m1]
        simp
      split
      · rename_i c
        have hm : mt9 s (t.drop j) = false := by
          have := bI_z.mp c
          simpa using this
        show wX7_firstPlace_10 (nI i) (nI p) post (j + 1) ρ (oI f) (nI j + (-1 : Int32))
        have hj9 : j ≤ t.length + 1 := by omega
        generalize hxx : nI j + (-1 : Int32) = xx at hn1 hn0 hnp ⊢
        refine ih f hj9 ?_ xx hn1 hn0 hnp
        cases f with
        | none =>
          intro q hq hq2
          by_cases e : q = j
          · rw [e]; exact hm
          · exact hf q (by omega) hq2
        | some v =>
          refine ⟨by have := hf.1; omega, hf.2.1, hf.2.2.1, fun q hq hq2 => ?_⟩
          by_cases e : q = j
          · rw [e]; exact hm
          · exact hf.2.2.2 q (by omega) hq2
      · rename_i c
        have hm : mt9 s (t.drop j) = true := by
          by_cases u : mt9 s (t.drop j) = true
          · exact u
          · exact absurd (bI_z.mpr u) c
        show wX7_firstPlace_10 (nI i) (nI p) post (j + 1) ρ (oI (some j)) (nI j + (-1 : Int32))
        have hj9 : j ≤ t.length + 1 := by omega
        generalize hxx : nI j + (-1 : Int32) = xx at hn1 hn0 hnp ⊢
        exact ih (some j) hj9 ⟨Nat.le_refl _, by omega, hm, fun q hq hq2 => absurd hq2 (by omega)⟩ xx hn1 hn0 hnp
  exact key (t.length + 1) none (Nat.le_refl _) (fun q hq hq2 => absurd hq2 (by omega)) (nI t.length) (nI_1 _) (fun u => by omega) (fun _ => by simp)
theorem oI_m1 {f : Option Nat} (h : ∀ v, f = some v → v < 2147483648) : (oI f).toInt = -1 ↔ f = none := by
  cases f with
  | none => exact ⟨fun _ => rfl, fun _ => by decide⟩
  | some v =>
    have := h v rfl
    refine ⟨fun q => ?_, fun q => by cases q⟩
    have e : (oI (some v)).toInt = (v : Int) := ti_n this
    rw [e] at q
    omega
theorem s_inserts {ρ : RH} {i p : Nat} {s f : List Int32} {t : TXT} {post : Int32 → RH → Prop} (hi : i < 40) (hp : p < 20) (hs : SR ρ i s) (hf : NW ρ i f) (ht : TX ρ p t) (hm : ρ 45 0 = 0) (hno : ins9 s f (nI i) t = none → ∀ ρ', lg41 ρ ρ' → post 0 ρ') (hyes : ∀ t', ins9 s f (nI i) t = some t' → ∀ ρ', TX ρ' p t' → lgT p ρ ρ' → post 1 ρ') : wpX7_inserts ρ (nI i) (nI p) post := by
  have hs4 := hs.1
  have hf4 := hf.1
  have ht12 := ht.1
  -- the words go to the place v, behind the searched ones that stand there
  have go : ∀ v : Nat, v + s.length ≤ t.length → ins9 s f (nI i) t = cap9 (t.take (v + s.length) ++ tag9 f (nI i) ++ t.drop (v + s.length)) → jX7_inserts_24 (nI i) (nI p) post ρ (nI v) := by
    intro v hv he
    unfold jX7_inserts_24
    rw [ti_n (by omega), if_neg (by omega)]
    refine ⟨vi_n hi (by decide), ?_⟩
    rw [cl_n (by omega), hs.2.1, nI_add]
    refine s_putsOld (a := 0) (b := v + s.length) (MK.nil hm) hp ht (Nat.zero_le _) hv (by simp; omega) (fun ρ1 h1 g1 => ?_)
    refine s_putsNew h1 hi ⟨hf.1, by rw [g1 43 (by decide) (by decide) (by decide)]; exact hf.2.1, fun k hk => by rw [g1 44 (by decide) (by decide) (by decide)]; exact hf.2.2 k hk⟩ (by simp; omega) (fun ρ2 h2 g2 => ?_)
    have g12 := g1.tr g2
    refine ⟨vi_n hi (by decide), vi_n hp (by decide), ?_⟩
    have e18 : ρ2 18 i = nI s.length := by rw [g12 18 (by decide) (by decide) (by decide)]; exact hs.2.1
    have e40 : ρ2 40 p = nI t.length := by rw [g12 40 (by decide) (by decide) (by decide)]; exact ht.2.1
    have hci : (nI i).toNatClampNeg = i := cl_n (by omega)
    have hcp : (nI p).toNatClampNeg = p := cl_n (by omega)
    simp only [hci, hcp, e18, e40, nI_add]
    refine s_putsOld (a := v + s.length) (b := t.length) h2 hp (ht.kept g12) hv (Nat.le_refl _) (by simp [tag9_len]; omega) (fun ρ3 h3 g3 => ?_)
    have e : [] ++ List.take (v + s.length - 0) (List.drop 0 t) ++ tag9 f (nI i) ++ List.take (t.length - (v + s.length)) (List.drop (v + s.length) t) = t.take (v + s.length) ++ tag9 f (nI i) ++ t.drop (v + s.length) := by
      rw [List.nil_append, Nat.sub_zero, List.drop_zero, List.take_of_length_le (l := List.drop (v + s.length) t) (by rw [List.length_drop]; exact Nat.le_refl _)]
    rw [e] at h3
    have g123 := g12.tr g3
    refine s_takes h3 (by simp [tag9_len]; omega) hp (fun hc ρ4 g4 => ?_) (fun t' hc ρ4 ht' g4 => ?_)
    · exact ⟨Or.inl rfl, hno (he.trans hc) ρ4 (g123.tr g4)⟩
    · exact ⟨Or.inr rfl, hyes t' (he.trans hc) ρ4 ht' ((lgT.of g123).tr g4)⟩
  unfold wpX7_inserts
  refine ⟨vi_n hi (by decide), ?_⟩
  rw [cl_n (by omega), hs.2.1, ti_n (by omega)]
  by_cases c : s.length = 0
  · rw [if_pos (by omega)]
    refine ⟨vi_n hp (by decide), ?_⟩
    rw [cl_n (by omega), ht.2.1]
    refine go t.length (by omega) ?_
    rw [ins9, if_pos c, c, Nat.add_zero, List.take_of_length_le (Nat.le_refl _), List.drop_of_length_le (Nat.le_refl _), List.append_nil]
  · rw [if_neg (by omega)]
    refine s_firstPlace hi hp hs ht ?_
    cases hfs : fs9 s t with
    | none =>
      unfold jX7_inserts_24
      rw [if_pos (by decide)]
      exact hno (by rw [ins9, if_neg c, hfs]) ρ lg41.rf
    | some v =>
      obtain ⟨g1, g2, g3⟩ := fs9_some hfs
      have := mt9_len s _ g2
      rw [List.length_drop] at this
      exact go v (by omega) (by rw [ins9, if_neg c, hfs])
theorem s_omits {ρ : RH} {i p : Nat} {s : List Int32} {t : TXT} {post : Int32 → RH → Prop} (hi : i < 40) (hp : p < 20) (hs : SR ρ i s) (ht : TX ρ p t) (hno : om9 s t = none → post 0 ρ) (hyes : ∀ t', om9 s t = some t' → ∀ ρ', TX ρ' p t' → lgT p ρ ρ' → post 1 ρ') : wpX7_omits ρ (nI i) (nI p) post := by
  unfold wpX7_omits
  have ht12 := ht.1
  refine s_firstPlace hi hp hs ht ?_
  have hb : ∀ v, fs9 s t = some v → v < 2147483648 := fun v hv => by have := (fs9_some hv).1; omega
  cases hfs : fs9 s t with
  | none =>
    rw [if_pos (by decide)]
    exact hno (by rw [om9, hfs]; rfl)
  | some v =>
    have hv := hb v hfs
    have hvt := (fs9_some hfs).1
    rw [if_neg (fun u => by have := (oI_m1 (f := some v) (fun w hw => by cases hw; exact hv)).mp u; cases this)]
    refine ⟨vi_n hp (by decide), ?_⟩
    intro t4 e4
    rw [cl_n (by omega)] at e4
    have hlen : (t.take v).length = v := by rw [List.length_take]; omega
    refine hyes (t.take v) (by rw [om9, hfs]; rfl) t4 ⟨by omega, ?_, fun k hk => ?_⟩ ⟨fun j h1 h2 h3 h4 h5 h6 => ?_, fun q hq => ?_, fun q k hq hk => ?_⟩
    · rw [e4, hlen]; simp [u2, oI]
    · rw [e4, u2_oth (by decide), u2_oth (by decide), List.getElem_take]
      exact ht.2.2 k (by omega)
    · rw [e4, u2_oth h1]
    · rw [e4]; simp [u2, hq]
    · rw [e4, u2_oth (by decide), u2_oth (by decide)]; exact ⟨rfl, rfl⟩
theorem sb9_zero {s f : List Int32} {o : Int32} (hs : s ≠ []) : ∀ n, sb9 s f o n [] = ([], 0)
  | 0 => rfl
  | n + 1 => by
    cases s with
    | nil => exact absurd rfl hs
    | cons a s => simp [sb9, mt9]
/-- the fuel doesn't matter where it suffices -/
theorem sb9_fuel {s f : List Int32} {o : Int32} (hs : s ≠ []) : ∀ (n m : Nat) (l : TXT), l.length ≤ n → l.length ≤ m → sb9 s f o n l = sb9 s f o m l := by
  intro n
  induction n with
  | zero =>
    intro m l h1 h2
    have : l = [] := List.length_eq_zero_iff.mp (by omega)
    subst this
    rw [sb9_zero hs, sb9_zero hs]
  | succ n ih =>
    intro m l h1 h2
    cases m with
    | zero =>
      have : l = [] := List.length_eq_zero_iff.mp (by omega)
      subst this
      rw [sb9_zero hs, sb9_zero hs]
    | succ m =>
      have hsl : 0 < s.length := List.length_pos_iff.mpr hs
      simp only [sb9]
      split
      · rename_i c
        have := mt9_len s l c
        rw [ih m (l.drop s.length) (by rw [List.length_drop]; omega) (by rw [List.length_drop]; omega)]
      · cases l with
        | nil => rfl
        | cons b t =>
          simp only
          rw [ih m t (by simp at h1; omega) (by simp at h2; omega)]
theorem s_substitutes {ρ : RH} {i p : Nat} {s f : List Int32} {t : TXT} {post : Int32 → RH → Prop} (hi : i < 40) (hp : p < 20) (hs0 : s ≠ []) (hs : SR ρ i s) (hf : NW ρ i f) (ht : TX ρ p t) (hm : ρ 45 0 = 0) (hno : sbs9 s f (nI i) t = none → ∀ ρ', lg41 ρ ρ' → post 0 ρ') (hyes : ∀ t', sbs9 s f (nI i) t = some t' → ∀ ρ', TX ρ' p t' → lgT p ρ ρ' → post 1 ρ') : wpX7_substitutes ρ (nI i) (nI p) post := by
  unfold wpX7_substitutes
  have hs4 := hs.1
  have hf4 := hf.1
  have ht12 := ht.1
  have hsl : 0 < s.length := List.length_pos_iff.mpr hs0
  refine ⟨t.length + 1, ?_⟩
  have key : ∀ (d j : Nat) (x : Int32) (ρ1 : RH) (acc : TXT) (cn : Nat), j ≤ t.length → t.length - j ≤ d → MK ρ1 acc → lg41 ρ ρ1 → acc.length ≤ 4 * j → (x = bI (0 < cn)) →
      acc ++ (sb9 s f (nI i) (t.length - j) (t.drop j)).1 = (sb9 s f (nI i) t.length t).1 → cn + (sb9 s f (nI i) (t.length - j) (t.drop j)).2 = (sb9 s f (nI i) t.length t).2 → wX7_substitutes_5 (nI i) (nI p) post (d + 1) ρ1 x (nI j) := by
    intro d
    induction d with
    | zero =>
      intro j x ρ1 acc cn hj hd h1 g1 hacc hx e1 e2
      have hjt : j = t.length := by omega
      subst hjt
      unfold wX7_substitutes_5
      refine ⟨vi_n hp (by decide), ?_⟩
      have e40 : ρ1 40 p = nI t.length := by rw [g1 40 (by decide) (by decide) (by decide)]; exact ht.2.1
      rw [cl_n (by omega), e40, ti_n (by omega), if_neg (by omega)]
      rw [List.drop_of_length_le (Nat.le_refl _), Nat.sub_self] at e1 e2
      simp only [sb9, List.append_nil, Nat.add_zero] at e1 e2
      rw [hx]
      split
      · rename_i c
        have c2 := bI_z.mp c
        exact hno (by rw [sbs9, if_pos (by omega)]) ρ1 g1
      · rename_i c
        have c2 : 0 < cn := by
          by_cases u : 0 < cn
          · exact u
          · exact absurd (bI_z.mpr u) c
        have e3 : sbs9 s f (nI i) t = cap9 acc := by rw [sbs9, if_neg (by omega), e1]
        refine s_takes h1 (by omega) hp (fun hc ρ4 g4 => ?_) (fun t' hc ρ4 ht' g4 => ?_)
        · rw [if_pos (by decide)]
          exact hno (e3.trans hc) ρ4 (g1.tr g4)
        · rw [if_neg (by decide)]
          exact hyes t' (e3.trans hc) ρ4 ht' ((lgT.of g1).tr g4)
    | succ d ih =>
      intro j x ρ1 acc cn hj hd h1 g1 hacc hx e1 e2
      by_cases hjt : j = t.length
      · -- as at the end
        have := ih
        subst hjt
        unfold wX7_substitutes_5
        refine ⟨vi_n hp (by decide), ?_⟩
        have e40 : ρ1 40 p = nI t.length := by rw [g1 40 (by decide) (by decide) (by decide)]; exact ht.2.1
        rw [cl_n (by omega), e40, ti_n (by omega), if_neg (by omega)]
        rw [List.drop_of_length_le (Nat.le_refl _), Nat.sub_self] at e1 e2
        simp only [sb9, List.append_nil, Nat.add_zero] at e1 e2
        rw [hx]
        split
        · rename_i c
          have c2 := bI_z.mp c
          exact hno (by rw [sbs9, if_pos (by omega)]) ρ1 g1
        · rename_i c
          have c2 : 0 < cn := by
            by_cases u : 0 < cn
            · exact u
            · exact absurd (bI_z.mpr u) c
          have e3 : sbs9 s f (nI i) t = cap9 acc := by rw [sbs9, if_neg (by omega), e1]
          refine s_takes h1 (by omega) hp (fun hc ρ4 g4 => ?_) (fun t' hc ρ4 ht' g4 => ?_)
          · rw [if_pos (by decide)]
            exact hno (e3.trans hc) ρ4 (g1.tr g4)
          · rw [if_neg (by decide)]
            exact hyes t' (e3.trans hc) ρ4 ht' ((lgT.of g1).tr g4)
      · have hjl : j < t.length := by omega
        unfold wX7_substitutes_5
        refine ⟨vi_n hp (by decide), ?_⟩
        have e40 : ρ1 40 p = nI t.length := by rw [g1 40 (by decide) (by decide) (by decide)]; exact ht.2.1
        rw [cl_n (by omega), e40, ti_n (by omega), ti_n (by omega), if_pos (by omega)]
        have hs' : SR ρ1 i s := ⟨hs.1, by rw [g1 18 (by decide) (by decide) (by decide)]; exact hs.2.1, fun k hk => by rw [g1 19 (by decide) (by decide) (by decide)]; exact hs.2.2 k hk⟩
        have hf' : NW ρ1 i f := ⟨hf.1, by rw [g1 43 (by decide) (by decide) (by decide)]; exact hf.2.1, fun k hk => by rw [g1 44 (by decide) (by decide) (by decide)]; exact hf.2.2 k hk⟩
        have ht' := ht.kept g1
        refine s_isFoundAt hi hp hs' ht' hj ?_
        obtain ⟨w, hw⟩ : ∃ w, t.length - j = w + 1 := ⟨t.length - j - 1, by omega⟩
        rw [hw] at e1 e2
        have hcons : t.drop j = t[j] :: t.drop (j + 1) := List.drop_eq_getElem_cons hjl
        by_cases c : mt9 s (t.drop j) = true
        · rw [if_neg (fun u => bI_z.mp u c)]
          have hml := mt9_len s _ c
          rw [List.length_drop] at hml
          simp only [sb9, if_pos c] at e1 e2
          refine s_putsNew h1 hi hf' (by omega) (fun ρ2 h2 g2 => ?_)
          refine ⟨vi_n hi (by decide), ?_⟩
          have e18 : ρ2 18 i = nI s.length := by rw [g2 18 (by decide) (by decide) (by decide)]; exact hs'.2.1
          rw [cl_n (by omega), e18, nI_add]
          have hfu : sb9 s f (nI i) w ((t.drop j).drop s.length) = sb9 s f (nI i) (t.length - (j + s.length)) (t.drop (j + s.length)) := by
            rw [List.drop_drop]
            exact sb9_fuel hs0 _ _ _ (by rw [List.length_drop]; omega) (by rw [List.length_drop]; exact Nat.le_refl _)
          rw [hfu] at e1 e2
          refine ih (j + s.length) 1 ρ2 (acc ++ tag9 f (nI i)) (cn + 1) (by omega) (by omega) h2 (g1.tr g2) (by rw [List.length_append, tag9_len]; omega) (by rw [bI_t (by omega)]) (by rw [List.append_assoc]; exact e1) (by omega)
        · rw [if_pos (bI_z.mpr c)]
          simp only [sb9, if_neg c] at e1 e2
          rw [hcons] at e1 e2
          simp only at e1 e2
          rw [li1, nI_add]
          refine s_putsOld (a := j) (b := j + 1) h1 hp ht' (by omega) (by omega) (by omega) (fun ρ2 h2 g2 => ?_)
          have hwj : t.length - (j + 1) = w := by omega
          have e5 : (t.drop j).take (j + 1 - j) = [t[j]] := by
            rw [hcons, show j + 1 - j = 1 by omega]
            rfl
          rw [e5] at h2
          refine ih (j + 1) x ρ2 (acc ++ [t[j]]) cn (by omega) (by omega) h2 (g1.tr g2) (by rw [List.length_append]; simp; omega) hx (by rw [hwj, List.append_assoc]; exact e1) (by rw [hwj]; exact e2)
  exact key t.length 0 0 ρ [] 0 (Nat.zero_le _) (by omega) (MK.nil hm) lg41.rf (Nat.zero_le _) (by rw [bI_f (by omega)]) (by simp) (by simp)
