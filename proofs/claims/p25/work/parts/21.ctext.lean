/-! What the class does to a text. -/
theorem zb_rng (x : Int32) : -2147483648 ≤ x.toInt ∧ x.toInt < 2147483648 := by
  have h1 := Int32.le_toInt x
  have h2 := Int32.toInt_lt x
  exact ⟨by simpa using h1, by simpa using h2⟩
theorem zb_bmod {z : Int} (h1 : -2147483648 ≤ z) (h2 : z < 2147483648) : z.bmod (2 ^ 32) = z := Int.bmod_eq_of_le (by simpa using h1) (by simpa using h2)
theorem zb_add {x y : Int32} (h1 : -2147483648 ≤ x.toInt + y.toInt) (h2 : x.toInt + y.toInt < 2147483648) : (x + y).toInt = x.toInt + y.toInt := by rw [Int32.toInt_add]; exact zb_bmod h1 h2
theorem zb_sub {x y : Int32} (h1 : -2147483648 ≤ x.toInt - y.toInt) (h2 : x.toInt - y.toInt < 2147483648) : (x - y).toInt = x.toInt - y.toInt := by rw [Int32.toInt_sub]; exact zb_bmod h1 h2
theorem zb_mul {x y : Int32} (h1 : -2147483648 ≤ x.toInt * y.toInt) (h2 : x.toInt * y.toInt < 2147483648) : (x * y).toInt = x.toInt * y.toInt := by rw [Int32.toInt_mul]; exact zb_bmod h1 h2
/-- a text of the class -/
def CX (σ : SG) (t : Nat) (l : TXT) : Prop := l.length ≤ 12 ∧ σ 2 t 2 = nI l.length ∧ ∀ k (h : k < l.length), σ 20 t k = (l[k]).1 ∧ σ 21 t k = (l[k]).2
/-- words told with an instruction -/
def PH (σ : SG) (ph : Nat) (s : List Int32) : Prop := s.length ≤ 4 ∧ σ 4 ph 1 = nI s.length ∧ ∀ k (h : k < s.length), σ 22 ph k = s[k]
def lgC (t : Nat) (σ σ' : SG) : Prop := ∀ a b, ¬ (a = 2 ∧ b = t) → ¬ (a = 20 ∧ b = t) → ¬ (a = 21 ∧ b = t) → σ' a b = σ a b
theorem lgC.rf {t : Nat} {σ : SG} : lgC t σ σ := fun _ _ _ _ _ => rfl
theorem lgC.tr {t : Nat} {a b c : SG} (h1 : lgC t a b) (h2 : lgC t b c) : lgC t a c := fun x y u v w => (h2 x y u v w).trans (h1 x y u v w)
theorem PH.kept {σ σ' : SG} {t ph : Nat} {s : List Int32} (h : PH σ ph s) (g : lgC t σ σ') : PH σ' ph s := by
  have e1 : σ' 4 ph = σ 4 ph := g 4 ph (fun q => absurd q.1 (by decide)) (fun q => absurd q.1 (by decide)) (fun q => absurd q.1 (by decide))
  have e2 : σ' 22 ph = σ 22 ph := g 22 ph (fun q => absurd q.1 (by decide)) (fun q => absurd q.1 (by decide)) (fun q => absurd q.1 (by decide))
  exact ⟨h.1, by rw [e1]; exact h.2.1, fun k hk => by rw [e2]; exact h.2.2 k hk⟩
theorem CX.kept {σ σ' : SG} {t u : Nat} {l : TXT} (h : CX σ u l) (g : lgC t σ σ') (hu : u ≠ t) : CX σ' u l := by
  have e1 : σ' 2 u = σ 2 u := g 2 u (fun q => hu q.2) (fun q => hu q.2) (fun q => hu q.2)
  have e2 : σ' 20 u = σ 20 u := g 20 u (fun q => hu q.2) (fun q => hu q.2) (fun q => hu q.2)
  have e3 : σ' 21 u = σ 21 u := g 21 u (fun q => hu q.2) (fun q => hu q.2) (fun q => hu q.2)
  exact ⟨h.1, by rw [e1]; exact h.2.1, fun k hk => by rw [e2, e3]; exact h.2.2 k hk⟩
theorem s_splice {σ : SG} {ν : NU} {t ph a g : Nat} {f : List Int32} {l : TXT} {src : Int32} {post : Int32 → SG → Prop} (ht : t < 42) (hp : ph < 2 * ν 99 0 0) (hc : CX σ t l) (hf : PH σ ph f) (hag : a + g ≤ l.length)
    (hno : cap9 (l.take a ++ (tag9 f src ++ l.drop (a + g))) = none → post 0 σ) (hyes : ∀ r, cap9 (l.take a ++ (tag9 f src ++ l.drop (a + g))) = some r → ∀ σ', CX σ' t r → lgC t σ σ' → post 1 σ') : wpX4_splice σ ν t (nI a) (nI g) ph src post := by
  unfold wpX4_splice
  have hl12 := hc.1
  have hf4 := hf.1
  have hlen : (l.take a ++ (tag9 f src ++ l.drop (a + g))).length = a + (f.length + (l.length - (a + g))) := by
    rw [List.length_append, List.length_append, tag9_len, List.length_take, List.length_drop]; omega
  refine ⟨ht, hp, ?_⟩
  rw [hc.2.1, hf.2.1, ti_n (by omega), if_neg (by omega), ti_n (by omega), if_neg (by omega), pk_sub (by omega), pk_sub (by omega), ti_n (by omega), if_neg (by omega), nI_add, nI_add, ti_n (by omega)]
  by_cases c : a + f.length + (l.length - a - g) ≤ 12
  · rw [if_pos (by omega)]
    have hg : ¬ (nI a + nI g).toInt < 0 ∧ ¬ (nI (a + f.length)).toInt < 0 ∧ ¬ (nI (l.length - a - g)).toInt < 0 ∧ (nI a + nI g).toNatClampNeg + (nI (l.length - a - g)).toNatClampNeg ≤ 12 ∧ (nI (a + f.length)).toNatClampNeg + (nI (l.length - a - g)).toNatClampNeg ≤ 12 := by
      rw [nI_add, ti_n (by omega), ti_n (by omega), ti_n (by omega), cl_n (by omega), cl_n (by omega), cl_n (by omega)]
      omega
    refine ⟨⟨hg.1, hg.2.1, by omega, hg.2.2.2.1, hg.2.2.2.2⟩, ?_⟩
    intro t8 e8
    refine ⟨⟨hg.1, hg.2.1, by omega, hg.2.2.2.1, hg.2.2.2.2⟩, ?_⟩
    intro t11 e11
    rw [nI_add, cl_n (by omega), cl_n (by omega), cl_n (by omega)] at e8 e11
    refine ⟨f.length + 1, ?_⟩
    have hcap : cap9 (l.take a ++ (tag9 f src ++ l.drop (a + g))) = some (l.take a ++ (tag9 f src ++ l.drop (a + g))) := if_pos (by rw [hlen]; omega)
    have a20 : t11 20 t = va_cpy (σ 20 t) (σ 20 t) (a + g) (a + f.length) (l.length - a - g) := by rw [e11, r3_oth (fun q => absurd q.1 (by decide)), e8, r3_row]
    have a21 : t11 21 t = va_cpy (σ 21 t) (σ 21 t) (a + g) (a + f.length) (l.length - a - g) := by rw [e11, r3_row, e8, r3_oth (fun q => absurd q.1 (by decide))]
    have g11 : lgC t σ t11 := fun x y h1 h2 h3 => by rw [e11, r3_oth h3, e8, r3_oth h2]
    have c11 : t11 2 t = σ 2 t := by rw [e11, r3_oth (fun q => absurd q.1 (by decide)), e8, r3_oth (fun q => absurd q.1 (by decide))]
    have key : ∀ (d j : Nat), j + d = f.length → ∀ σ1, lgC t t11 σ1 → σ1 2 t = t11 2 t → (∀ k, σ1 20 t k = if h : a ≤ k ∧ k < a + j ∧ k - a < f.length then f[k - a]'h.2.2 else t11 20 t k) → (∀ k, σ1 21 t k = if a ≤ k ∧ k < a + j then src else t11 21 t k) → wX4_splice_82 t (nI a) (nI g) ph src post (d + 1) σ1 ν (nI (l.length - a - g)) (nI (a + f.length)) (nI j) := by
      intro d
      induction d with
      | zero =>
        intro j hj σ1 g1 h2 h20 h21
        have hf1 := (hf.kept g11).kept g1
        unfold wX4_splice_82
        refine ⟨hp, ?_⟩
        rw [hf1.2.1, ti_n (by omega), ti_n (by omega), if_neg (by omega)]
        refine ⟨ht, ?_⟩
        intro t16 e16
        rw [nI_add] at e16
        refine hyes _ hcap t16 ⟨by rw [hlen]; omega, ?_, fun k hk => ?_⟩ ((g11.tr g1).tr (fun x y h1 h2 h3 => by rw [e16, u3_oth h1]))
        · rw [e16, hlen]
          simp only [u3, and_self, if_true]
          congr 1
          omega
        · rw [hlen] at hk
          rw [e16, u3_oth (fun q => absurd q.1 (by decide)), u3_oth (fun q => absurd q.1 (by decide)), h20, h21]
          by_cases k1 : k < a
          · rw [dif_neg (by omega), if_neg (by omega), List.getElem_append_left (by rw [List.length_take]; omega), List.getElem_take, a20, a21]
            have := hc.2.2 k (by omega)
            simp only [va_cpy]
            rw [if_neg (by omega), if_neg (by omega)]
            exact this
          · rw [List.getElem_append_right (by rw [List.length_take]; omega)]
            have hta : (l.take a).length = a := by rw [List.length_take]; omega
            by_cases k2 : k < a + f.length
            · rw [dif_pos ⟨by omega, by omega, by omega⟩, if_pos ⟨by omega, by omega⟩, List.getElem_append_left (by rw [tag9_len, hta]; omega)]
              simp [tag9, hta]
            · rw [dif_neg (by omega), if_neg (by omega), List.getElem_append_right (by rw [tag9_len, hta]; omega), List.getElem_drop, a20, a21]
              simp only [va_cpy]
              rw [if_pos (by omega), if_pos (by omega)]
              have e : a + g + (k - (a + f.length)) = a + g + (k - (l.take a).length - (tag9 f src).length) := by rw [hta, tag9_len]; omega
              have := hc.2.2 (a + g + (k - (l.take a).length - (tag9 f src).length)) (by rw [hta, tag9_len]; omega)
              rw [e]
              exact this
      | succ d ih =>
        intro j hj σ1 g1 h2 h20 h21
        have hjf : j < f.length := by omega
        have hf1 := (hf.kept g11).kept g1
        unfold wX4_splice_82
        refine ⟨hp, ?_⟩
        rw [hf1.2.1, ti_n (by omega), ti_n (by omega), if_pos (by omega)]
        refine ⟨ht, vi_n (by omega) (by decide), by rw [nI_add]; exact vi_n (by omega) (by decide), ?_⟩
        rw [nI_add, cl_n (by omega), cl_n (by omega), hf1.2.2 j hjf, li1, nI_add]
        intro t21 e21
        refine ⟨vi_n (by omega) (by decide), ?_⟩
        intro t24 e24
        have b20 : t24 20 t = upd (σ1 20 t) (a + j) f[j] := by rw [e24, u3_oth (fun q => absurd q.1 (by decide)), e21, u3_row]
        have b21 : t24 21 t = upd (σ1 21 t) (a + j) src := by rw [e24, u3_row, e21, u3_oth (fun q => absurd q.1 (by decide))]
        refine ih (j + 1) (by omega) t24 (g1.tr (fun x y u1 u2 u3 => by rw [e24, u3_oth u3, e21, u3_oth u2])) ?_ (fun k => ?_) (fun k => ?_)
        · rw [e24, u3_oth (fun q => absurd q.1 (by decide)), e21, u3_oth (fun q => absurd q.1 (by decide)), h2]
        · rw [b20]
          by_cases k1 : k = a + j
          · subst k1
            rw [dif_pos ⟨by omega, by omega, by omega⟩]
            simp [upd]
          · simp only [upd, if_neg k1]
            rw [h20]
            by_cases k2 : a ≤ k ∧ k < a + j ∧ k - a < f.length
            · rw [dif_pos k2, dif_pos ⟨k2.1, by omega, k2.2.2⟩]
            · rw [dif_neg k2, dif_neg (by omega)]
        · rw [b21]
          by_cases k1 : k = a + j
          · subst k1
            rw [if_pos (by omega)]
            simp [upd]
          · simp only [upd, if_neg k1]
            rw [h21]
            by_cases k2 : a ≤ k ∧ k < a + j
            · rw [if_pos k2, if_pos (by omega)]
            · rw [if_neg k2, if_neg (by omega)]
    exact key f.length 0 (by omega) t11 lgC.rf rfl (fun k => by rw [dif_neg (by omega)]) (fun k => by rw [if_neg (by omega)])
  · rw [if_neg (by omega)]
    exact hno (if_neg (by rw [hlen]; omega))
theorem s_begin {σ : SG} {ν : NU} {t ph : Nat} {f : List Int32} {src : Int32} {post : Int32 → SG → Prop} (ht : t < 42) (hp : ph < 2 * ν 99 0 0) (hf : PH σ ph f) (h : ∀ σ', CX σ' t (tag9 f src) → lgC t σ σ' → post 1 σ') : wpX4_begin σ ν t ph src post := by
  unfold wpX4_begin
  refine ⟨ht, ?_⟩
  intro t2 e2
  have g2 : lgC t σ t2 := fun x y h1 _ _ => by rw [e2, u3_oth h1]
  have hf4 := hf.1
  have hc : CX t2 t [] := ⟨Nat.zero_le _, by rw [e2]; simp [u3]; rfl, fun k hk => absurd hk (Nat.not_lt_zero k)⟩
  have hcap : cap9 (([] : TXT).take 0 ++ (tag9 f src ++ ([] : TXT).drop (0 + 0))) = some (tag9 f src) := by
    simp only [List.take_nil, List.drop_nil, List.append_nil, List.nil_append]
    exact if_pos (by rw [tag9_len]; omega)
  refine s_splice (a := 0) (g := 0) ht hp hc (hf.kept g2) (Nat.le_refl _) (fun q => by rw [hcap] at q; cases q) (fun r hr σ' h1 h2 => ?_)
  rw [hcap] at hr
  cases hr
  exact ⟨Or.inr rfl, h σ' h1 (g2.tr h2)⟩
theorem s_holdsAt {σ : SG} {ν : NU} {t ph k : Nat} {s : List Int32} {l : TXT} {post : Int32 → Prop} (ht : t < 42) (hp : ph < 2 * ν 99 0 0) (hc : CX σ t l) (hs : PH σ ph s) (hk : k + s.length ≤ l.length) (h : post (bI (mt9 s (l.drop k) = true))) : wpX4_holdsAt σ ν t ph (nI k) post := by
  unfold wpX4_holdsAt
  have hl12 := hc.1
  have hs4 := hs.1
  rw [ti_n (by omega), if_neg (by omega)]
  refine ⟨hp, ht, ?_⟩
  rw [hs.2.1, nI_add, ti_n (by omega), if_pos (by omega)]
  refine ⟨s.length + 1, ?_⟩
  have key : ∀ (d j : Nat), j + d = s.length → (∀ q (h1 : q < s.length) (h2 : k + q < l.length), q < j → s[q] = (l[k + q]).1) → wX4_holdsAt_22 t ph (nI k) post (d + 1) σ ν (nI j) := by
    intro d
    induction d with
    | zero =>
      intro j hj h1
      unfold wX4_holdsAt_22
      refine ⟨hp, ?_⟩
      rw [hs.2.1, ti_n (by omega), ti_n (by omega), if_neg (by omega)]
      have hm : mt9 s (l.drop k) = true := by
        rw [mt9_iff]
        refine ⟨by rw [List.length_drop]; omega, fun q hq hq2 => ?_⟩
        rw [List.length_drop] at hq2
        rw [h1 q hq (by omega) (by omega), List.getElem_drop]
      rw [bI_t hm] at h
      exact h
    | succ d ih =>
      intro j hj h1
      have hjs : j < s.length := by omega
      have hjt : k + j < l.length := by omega
      unfold wX4_holdsAt_22
      refine ⟨hp, ?_⟩
      rw [hs.2.1, ti_n (by omega), ti_n (by omega), if_pos (by omega), nI_add, cl_n (by omega), cl_n (by omega)]
      refine ⟨ht, vi_n (by omega) (by decide), vi_n (by omega) (by decide), ?_⟩
      rw [(hc.2.2 (k + j) hjt).1, hs.2.2 j hjs, li1, nI_add]
      by_cases q : (l[k + j]).1 = s[j]
      · rw [if_pos (by rw [q])]
        refine ih (j + 1) (by omega) (fun r hr hr2 hrj => ?_)
        by_cases e : r = j
        · subst e; exact q.symm
        · exact h1 r hr hr2 (by omega)
      · rw [if_neg (fun u => q (ti_eq.mp u))]
        have hm : ¬ mt9 s (l.drop k) = true := by
          intro u
          rw [mt9_iff] at u
          have := u.2 j hjs (by rw [List.length_drop]; omega)
          rw [List.getElem_drop] at this
          exact q this.symm
        rw [bI_f hm] at h
        exact h
  exact key s.length 0 (by omega) (fun q _ _ hq => absurd hq (Nat.not_lt_zero q))
/-- the first place from k on -/
def fsF (s : List Int32) (l : TXT) (k : Nat) : Option Nat := (fs9 s (l.drop k)).map (· + k)
theorem fsF_some {s : List Int32} {l : TXT} {k v : Nat} (hk : k ≤ l.length) (h : fsF s l k = some v) : k ≤ v ∧ v + s.length ≤ l.length ∧ mt9 s (l.drop v) = true ∧ ∀ j, k ≤ j → j < v → mt9 s (l.drop j) = false := by
  unfold fsF at h
  cases hf : fs9 s (l.drop k) with
  | none => rw [hf] at h; cases h
  | some w =>
    rw [hf] at h
    simp only [Option.map_some, Option.some.injEq] at h
    subst h
    obtain ⟨g1, g2, g3⟩ := fs9_some hf
    rw [List.drop_drop, Nat.add_comm k w] at g2
    have hm := mt9_len s _ g2
    rw [List.length_drop] at hm g1
    refine ⟨by omega, by omega, g2, fun j h1 h2 => ?_⟩
    have := g3 (j - k) (by omega)
    rw [List.drop_drop, show k + (j - k) = j by omega] at this
    exact this
theorem s_find {σ : SG} {ν : NU} {t ph k : Nat} {s : List Int32} {l : TXT} {post : Int32 → Prop} (ht : t < 42) (hp : ph < 2 * ν 99 0 0) (hc : CX σ t l) (hs : PH σ ph s) (hk : k ≤ l.length) (h : post (oI (fsF s l k))) : wpX4_find σ ν t ph (nI k) post := by
  unfold wpX4_find
  have hl12 := hc.1
  have hs4 := hs.1
  refine ⟨l.length - k + 1, ?_⟩
  have none_of : ∀ j, j ≤ l.length → ¬ (j + s.length ≤ l.length) → fs9 s (l.drop j) = none := by
    intro j hj hj2
    cases hf : fs9 s (l.drop j) with
    | none => rfl
    | some v =>
      have g := (fs9_some hf).2.1
      have hm := mt9_len s _ g
      rw [List.length_drop, List.length_drop] at hm
      omega
  have step : ∀ j, j < l.length → ¬ mt9 s (l.drop j) = true → fsF s l j = fsF s l (j + 1) := by
    intro j hj hm
    unfold fsF
    rw [List.drop_eq_getElem_cons hj] at hm ⊢
    simp only [fs9, if_neg hm]
    rw [Option.map_map]
    congr 1
    funext v
    show v + 1 + j = v + (j + 1)
    omega
  have key : ∀ (d j : Nat), j + d = l.length → k ≤ j → fsF s l k = fsF s l j → wX4_find_2 t ph (nI k) post (d + 1) σ ν (nI j) := by
    intro d
    induction d with
    | zero =>
      intro j hj hkj he
      unfold wX4_find_2
      refine ⟨hp, ht, ?_⟩
      rw [hs.2.1, hc.2.1, nI_add, ti_n (by omega), ti_n (by omega)]
      by_cases c : j + s.length ≤ l.length
      · rw [if_pos (by omega)]
        refine s_holdsAt ht hp hc hs c ?_
        have hs0 : s = [] := List.length_eq_zero_iff.mp (by omega)
        have hm : mt9 s (l.drop j) = true := by rw [hs0]; cases l.drop j <;> rfl
        rw [if_neg (fun u => bI_z.mp u hm)]
        have e : fsF s l j = some j := by
          unfold fsF
          rw [fs9_is (k := 0) (Nat.zero_le _) (by simpa using hm) (fun q hq => absurd hq (Nat.not_lt_zero q))]
          simp
        rw [he, e] at h
        exact h
      · rw [if_neg (by omega)]
        have e : fsF s l j = none := by unfold fsF; rw [none_of j (by omega) c]; rfl
        rw [he, e] at h
        exact h
    | succ d ih =>
      intro j hj hkj he
      unfold wX4_find_2
      refine ⟨hp, ht, ?_⟩
      rw [hs.2.1, hc.2.1, nI_add, ti_n (by omega), ti_n (by omega)]
      by_cases c : j + s.length ≤ l.length
      · rw [if_pos (by omega)]
        refine s_holdsAt ht hp hc hs c ?_
        by_cases hm : mt9 s (l.drop j) = true
        · rw [if_neg (fun u => bI_z.mp u hm)]
          have e : fsF s l j = some j := by
            unfold fsF
            rw [fs9_is (k := 0) (Nat.zero_le _) (by simpa using hm) (fun q hq => absurd hq (Nat.not_lt_zero q))]
            simp
          rw [he, e] at h
          exact h
        · rw [if_pos (bI_z.mpr hm), li1, nI_add]
          exact ih (j + 1) (by omega) (by omega) (he.trans (step j (by omega) hm))
      · rw [if_neg (by omega)]
        have e : fsF s l j = none := by unfold fsF; rw [none_of j (by omega) c]; rfl
        rw [he, e] at h
        exact h
  exact key (l.length - k) k (by omega) (Nat.le_refl _) rfl
theorem fsF_0 {s : List Int32} {l : TXT} : fsF s l 0 = fs9 s l := by
  unfold fsF
  rw [List.drop_zero]
  cases fs9 s l <;> rfl
theorem s_insert {σ : SG} {ν : NU} {t ps pf : Nat} {s f : List Int32} {l : TXT} {src : Int32} {post : Int32 → SG → Prop} (ht : t < 42) (hps : ps < 2 * ν 99 0 0) (hpf : pf < 2 * ν 99 0 0) (hc : CX σ t l) (hs : PH σ ps s) (hf : PH σ pf f)
    (hno : ins9 s f src l = none → post 0 σ) (hyes : ∀ r, ins9 s f src l = some r → ∀ σ', CX σ' t r → lgC t σ σ' → post 1 σ') : wpX4_insert σ ν t ps pf src post := by
  unfold wpX4_insert
  have hl12 := hc.1
  have hs4 := hs.1
  refine ⟨hps, ?_⟩
  rw [hs.2.1, ti_n (by omega)]
  by_cases c : s.length = 0
  · rw [if_pos (by omega)]
    refine ⟨ht, ?_⟩
    rw [hc.2.1]
    have e : l.take l.length ++ (tag9 f src ++ l.drop (l.length + 0)) = l ++ tag9 f src := by
      rw [List.take_of_length_le (Nat.le_refl _), Nat.add_zero, List.drop_of_length_le (Nat.le_refl _), List.append_nil]
    refine s_splice (a := l.length) (g := 0) ht hpf hc hf (by omega) (fun q => ?_) (fun r hr σ' h1 h2 => ?_)
    · rw [e] at q
      exact ⟨Or.inl rfl, hno (by rw [ins9, if_pos c]; exact q)⟩
    · rw [e] at hr
      exact ⟨Or.inr rfl, hyes r (by rw [ins9, if_pos c]; exact hr) σ' h1 h2⟩
  · rw [if_neg (by omega)]
    refine ⟨ht, ?_⟩
    refine s_find (k := 0) ht hps hc hs (Nat.zero_le _) ?_
    rw [fsF_0]
    cases hfs : fs9 s l with
    | none =>
      rw [if_pos (by decide)]
      exact hno (by rw [ins9, if_neg c, hfs])
    | some v =>
      obtain ⟨g1, g2, g3⟩ := fs9_some hfs
      have hm := mt9_len s _ g2
      rw [List.length_drop] at hm
      have e0 : oI (some v) = nI v := rfl
      rw [e0, ti_n (by omega), if_neg (by omega), nI_add]
      have e : l.take (v + s.length) ++ (tag9 f src ++ l.drop (v + s.length + 0)) = l.take (v + s.length) ++ tag9 f src ++ l.drop (v + s.length) := by rw [Nat.add_zero, List.append_assoc]
      refine s_splice (a := v + s.length) (g := 0) ht hpf hc hf (by omega) (fun q => ?_) (fun r hr σ' h1 h2 => ?_)
      · rw [e] at q
        rw [if_pos (by decide)]
        exact hno (by rw [ins9, if_neg c, hfs]; exact q)
      · rw [e] at hr
        rw [if_neg (by decide)]
        exact hyes r (by rw [ins9, if_neg c, hfs]; exact hr) σ' h1 h2
theorem s_omit {σ : SG} {ν : NU} {t ps : Nat} {s : List Int32} {l : TXT} {post : Int32 → SG → Prop} (ht : t < 42) (hps : ps < 2 * ν 99 0 0) (hc : CX σ t l) (hs : PH σ ps s)
    (hno : om9 s l = none → post 0 σ) (hyes : ∀ r, om9 s l = some r → ∀ σ', CX σ' t r → lgC t σ σ' → post 1 σ') : wpX4_omit σ ν t ps post := by
  unfold wpX4_omit
  have hl12 := hc.1
  refine ⟨ht, ?_⟩
  refine s_find (k := 0) ht hps hc hs (Nat.zero_le _) ?_
  rw [fsF_0]
  cases hfs : fs9 s l with
  | none =>
    rw [if_pos (by decide)]
    exact hno (by rw [om9, hfs]; rfl)
  | some v =>
    have hv := (fs9_some hfs).1
    have e0 : oI (some v) = nI v := rfl
    rw [e0, ti_n (by omega), if_neg (by omega)]
    intro t4 e4
    have hlen : (l.take v).length = v := by rw [List.length_take]; omega
    refine hyes (l.take v) (by rw [om9, hfs]; rfl) t4 ⟨by omega, ?_, fun k hk => ?_⟩ (fun x y h1 _ _ => by rw [e4, u3_oth h1])
    · rw [e4, hlen]; simp [u3]
    · rw [e4, u3_oth (fun q => absurd q.1 (by decide)), u3_oth (fun q => absurd q.1 (by decide)), List.getElem_take]
      exact hc.2.2 k (by omega)
/-- all of l, its own length as fuel -/
def sbA (s f : List Int32) (o : Int32) (l : TXT) : TXT × Nat := sb9 s f o l.length l
theorem sbA_none {s f : List Int32} {o : Int32} (hs : s ≠ []) : ∀ {l : TXT}, fs9 s l = none → sbA s f o l = (l, 0)
  | [], _ => sb9_zero hs _
  | b :: l, h => by
    simp only [fs9] at h
    split at h
    · cases h
    · rename_i c
      have h2 : fs9 s l = none := by
        cases hf : fs9 s l with
        | none => rfl
        | some v => rw [hf] at h; cases h
      have ih := sbA_none (f := f) (o := o) hs h2
      show sb9 s f o (l.length + 1) (b :: l) = _
      simp only [sb9, if_neg c]
      show (b :: (sbA s f o l).1, (sbA s f o l).2) = _
      rw [ih]
theorem sbA_some {s f : List Int32} {o : Int32} (hs : s ≠ []) : ∀ {l : TXT} {w : Nat}, fs9 s l = some w → sbA s f o l = (l.take w ++ (tag9 f o ++ (sbA s f o (l.drop (w + s.length))).1), (sbA s f o (l.drop (w + s.length))).2 + 1)
  | [], w, h => by
    cases s with
    | nil => exact absurd rfl hs
    | cons a s => simp [fs9, mt9] at h
  | b :: l, w, h => by
    have hsl : 0 < s.length := List.length_pos_iff.mpr hs
    simp only [fs9] at h
    split at h
    · rename_i c
      cases h
      have hml := mt9_len s _ c
      show sb9 s f o (l.length + 1) (b :: l) = _
      simp only [sb9, if_pos c, List.take_zero, List.nil_append, Nat.zero_add]
      have e : sb9 s f o l.length ((b :: l).drop s.length) = sbA s f o ((b :: l).drop s.length) := sb9_fuel hs _ _ _ (by rw [List.length_drop]; simp; omega) (Nat.le_refl _)
      rw [e]
    · rename_i c
      cases hf : fs9 s l with
      | none => rw [hf] at h; cases h
      | some v =>
        rw [hf] at h
        cases h
        have ih := sbA_some (f := f) (o := o) hs hf
        show sb9 s f o (l.length + 1) (b :: l) = _
        simp only [sb9, if_neg c]
        show (b :: (sbA s f o l).1, (sbA s f o l).2) = _
        rw [ih]
        have e : v + 1 + s.length = (v + s.length) + 1 := by omega
        simp only [List.take_succ_cons, List.cons_append, e, List.drop_succ_cons]
theorem s_substitute {σ : SG} {ν : NU} {t ps pf : Nat} {s f : List Int32} {l : TXT} {src : Int32} {post : Int32 → SG → Prop} (ht : t < 42) (hps : ps < 2 * ν 99 0 0) (hpf : pf < 2 * ν 99 0 0) (hs0 : s ≠ []) (hc : CX σ t l) (hs : PH σ ps s) (hf : PH σ pf f)
    (hno : sbs9 s f src l = none → post 0 σ) (hyes : ∀ r, sbs9 s f src l = some r → ∀ σ', CX σ' t r → lgC t σ σ' → post 1 σ') : wpX4_substitute σ ν t ps pf src post := by
  have hl12 := hc.1
  have hs4 := hs.1
  have hf4 := hf.1
  have hsl : 0 < s.length := List.length_pos_iff.mpr hs0
  have hsub : sbs9 s f src l = if (sbA s f src l).2 = 0 then none else cap9 (sbA s f src l).1 := rfl
  -- the second pass
  have second : ∀ T : Nat, T ≤ 12 → (sbA s f src l).2 = T → (sbA s f src l).1.length ≤ 12 → (sbA s f src l).1.length + T * s.length = l.length + T * f.length →
      ∀ (d k j : Nat) (done : TXT) (σ1 : SG), k + d = T → j ≤ l.length → lgC t σ σ1 → CX σ1 t (done ++ l.drop j) → done ++ (sbA s f src (l.drop j)).1 = (sbA s f src l).1 → k + (sbA s f src (l.drop j)).2 = T → (done ++ l.drop j).length + k * s.length = l.length + k * f.length →
      T ≠ 0 → wX4_substitute_85 t ps pf src post (d + 1) σ1 ν (nI T) (nI done.length) (nI k) := by
    intro T hT12 hT hR12 hRl d
    induction d with
    | zero =>
      intro k j done σ1 hk hj g1 c1 e1 e2 e3 hT0
      unfold wX4_substitute_85
      rw [ti_n (by omega), ti_n (by omega), if_neg (by omega)]
      have h0 : (sbA s f src (l.drop j)).2 = 0 := by omega
      have hn : fs9 s (l.drop j) = none := by
        cases hq : fs9 s (l.drop j) with
        | none => rfl
        | some w => rw [sbA_some hs0 hq] at h0; simp at h0
      rw [sbA_none hs0 hn] at e1
      rw [e1] at c1
      exact hyes _ (by rw [hsub, if_neg (by omega)]; exact if_pos hR12) σ1 c1 g1
    | succ d ih =>
      intro k j done σ1 hk hj g1 c1 e1 e2 e3 hT0
      have hkT : k < T := by omega
      unfold wX4_substitute_85
      have hdl : (done ++ l.drop j).length ≤ 12 := c1.1
      have hdl2 : (done ++ l.drop j).length = done.length + (l.length - j) := by rw [List.length_append, List.length_drop]
      rw [ti_n (by omega), ti_n (by omega), if_pos (by omega)]
      refine ⟨ht, ?_⟩
      refine s_find (k := done.length) ht hps c1 (hs.kept g1) (by omega) ?_
      obtain ⟨w, hw⟩ : ∃ w, fs9 s (l.drop j) = some w := by
        cases hq : fs9 s (l.drop j) with
        | some w => exact ⟨w, rfl⟩
        | none => rw [sbA_none hs0 hq] at e2; simp at e2; omega
      have hfs : fsF s (done ++ l.drop j) done.length = some (w + done.length) := by
        unfold fsF
        rw [List.drop_left, hw]
        rfl
      rw [hfs]
      obtain ⟨w1, w2, w3⟩ := fs9_some hw
      have hm := mt9_len s _ w2
      rw [List.drop_drop, List.length_drop] at hm
      rw [List.length_drop] at w1
      rw [sbA_some hs0 hw] at e1 e2
      simp only [List.drop_drop] at e1 e2
      refine ⟨hps, ?_⟩
      rw [(hs.kept g1).2.1]
      have e0 : oI (some (w + done.length)) = nI (w + done.length) := rfl
      rw [e0]
      have eT : (done ++ l.drop j).take (w + done.length) ++ (tag9 f src ++ (done ++ l.drop j).drop (w + done.length + s.length)) = (done ++ (l.drop j).take w ++ tag9 f src) ++ l.drop (j + (w + s.length)) := by
        rw [Nat.add_comm w done.length, List.take_length_add_append, show done.length + w + s.length = done.length + (w + s.length) by omega, List.drop_length_add_append, List.drop_drop]
        simp only [List.append_assoc]
      have hlen' : ((done ++ (l.drop j).take w ++ tag9 f src) ++ l.drop (j + (w + s.length))).length + s.length = (done ++ l.drop j).length + f.length := by
        simp only [List.length_append, tag9_len, List.length_take, List.length_drop]
        omega
      have hle : ((done ++ (l.drop j).take w ++ tag9 f src) ++ l.drop (j + (w + s.length))).length ≤ 12 := by
        generalize ((done ++ (l.drop j).take w ++ tag9 f src) ++ l.drop (j + (w + s.length))).length = x at hlen'
        generalize (done ++ l.drop j).length = y at *
        generalize (sbA s f src l).1.length = R at *
        have h1 : s.length = 1 ∨ s.length = 2 ∨ s.length = 3 ∨ s.length = 4 := by omega
        have h2 : f.length = 0 ∨ f.length = 1 ∨ f.length = 2 ∨ f.length = 3 ∨ f.length = 4 := by omega
        rcases h1 with q | q | q | q <;> rcases h2 with r | r | r | r | r <;> rw [q] at e3 hRl hlen' <;> rw [r] at e3 hRl hlen' <;> omega
      have hcap : cap9 ((done ++ l.drop j).take (w + done.length) ++ (tag9 f src ++ (done ++ l.drop j).drop (w + done.length + s.length))) = some ((done ++ (l.drop j).take w ++ tag9 f src) ++ l.drop (j + (w + s.length))) := by
        rw [eT]; exact if_pos hle
      refine s_splice (a := w + done.length) (g := s.length) ht hpf c1 (hf.kept g1) (by omega) (fun q => by rw [hcap] at q; cases q) (fun r hr σ2 c2 g2 => ?_)
      rw [hcap] at hr
      cases hr
      refine ⟨hpf, ?_⟩
      rw [((hf.kept g1).kept g2).2.1, nI_add, li1, nI_add]
      have hdn : (done ++ (l.drop j).take w ++ tag9 f src).length = w + done.length + f.length := by
        simp only [List.length_append, tag9_len, List.length_take, List.length_drop]
        omega
      rw [← hdn]
      refine ih (k + 1) (j + (w + s.length)) _ σ2 (by omega) (by omega) (g1.tr g2) c2 (by simp only [List.append_assoc] at e1 ⊢; exact e1) (by omega) ?_ hT0
      rw [Nat.add_mul, Nat.add_mul]
      omega
  -- the count is right, and so the length
  have cnt : ∀ (m : TXT), (sbA s f src m).2 ≤ m.length ∧ (sbA s f src m).1.length + (sbA s f src m).2 * s.length = m.length + (sbA s f src m).2 * f.length := by
    intro m
    have : ∀ (n : Nat) (m : TXT), m.length ≤ n → (sbA s f src m).2 ≤ m.length ∧ (sbA s f src m).1.length + (sbA s f src m).2 * s.length = m.length + (sbA s f src m).2 * f.length := by
      intro n
      induction n with
      | zero =>
        intro m hm
        have : m = [] := List.length_eq_zero_iff.mp (by omega)
        subst this
        have e : sbA s f src [] = ([], 0) := sb9_zero hs0 _
        rw [e]
        simp
      | succ n ih =>
        intro m hm
        cases hq : fs9 s m with
        | none => rw [sbA_none hs0 hq]; simp
        | some w =>
          obtain ⟨w1, w2, w3⟩ := fs9_some hq
          have hml := mt9_len s _ w2
          rw [List.length_drop] at hml
          obtain ⟨i1, i2⟩ := ih (m.drop (w + s.length)) (by rw [List.length_drop]; omega)
          rw [sbA_some hs0 hq]
          rw [List.length_drop] at i1 i2
          simp only [List.length_append, tag9_len, List.length_take]
          rw [Nat.add_mul, Nat.add_mul]
          omega
    exact this m.length m (Nat.le_refl _)
  obtain ⟨cn1, cn2⟩ := cnt l
  have mid : jX4_substitute_50 t ps pf src post σ ν (nI (sbA s f src l).2) := by
    unfold jX4_substitute_50
    generalize hTe : (sbA s f src l).2 = T at *
    rw [ti_n (by omega)]
    by_cases c0 : T = 0
    · rw [if_pos (by omega)]
      exact hno (by rw [hsub, if_pos c0])
    · rw [if_neg (by omega)]
      refine ⟨ht, hpf, hps, ?_⟩
      have hv : ((σ 2 t 2) + (nI T * ((σ 4 pf 1) - (σ 4 ps 1)))).toInt = (l.length : Int) + T * ((f.length : Int) - s.length) := by
        rw [hc.2.1, hf.2.1, hs.2.1]
        have a1 : (nI f.length - nI s.length).toInt = (f.length : Int) - s.length := by
          rw [zb_sub (by rw [ti_n (by omega), ti_n (by omega)]; omega) (by rw [ti_n (by omega), ti_n (by omega)]; omega), ti_n (by omega), ti_n (by omega)]
        have hb : -48 ≤ (T : Int) * ((f.length : Int) - s.length) ∧ (T : Int) * ((f.length : Int) - s.length) ≤ 48 := by
          have h1 : s.length = 1 ∨ s.length = 2 ∨ s.length = 3 ∨ s.length = 4 := by omega
          have h2 : f.length = 0 ∨ f.length = 1 ∨ f.length = 2 ∨ f.length = 3 ∨ f.length = 4 := by omega
          rcases h1 with q | q | q | q <;> rcases h2 with r | r | r | r | r <;> rw [q, r] <;> constructor <;> omega
        have a2 : (nI T * (nI f.length - nI s.length)).toInt = (T : Int) * ((f.length : Int) - s.length) := by
          rw [zb_mul (by rw [ti_n (by omega), a1]; omega) (by rw [ti_n (by omega), a1]; omega), ti_n (by omega), a1]
        rw [zb_add (by rw [ti_n (by omega), a2]; omega) (by rw [ti_n (by omega), a2]; omega), ti_n (by omega), a2]
      rw [hv]
      have hR : ((sbA s f src l).1.length : Int) = (l.length : Int) + T * ((f.length : Int) - s.length) := by
        rw [Int.mul_sub]
        have := congrArg (fun n : Nat => (n : Int)) cn2
        simp only [Int.natCast_add, Int.natCast_mul] at this
        omega
      rw [← hR]
      by_cases c12 : (sbA s f src l).1.length ≤ 12
      · rw [if_pos (by omega)]
        refine ⟨T + 1, ?_⟩
        exact second T (by omega) rfl c12 cn2 T 0 0 [] σ (by omega) (Nat.zero_le _) lgC.rf (by simpa using hc) (by simp) (by simpa using hTe) (by simp) c0
      · rw [if_neg (by omega)]
        exact hno (by rw [hsub, if_neg c0]; exact if_neg c12)
  unfold wpX4_substitute
  refine ⟨ht, ?_⟩
  refine s_find (k := 0) ht hps hc hs (Nat.zero_le _) ?_
  refine ⟨14, ?_⟩
  have first : ∀ (d c j : Nat), c + d = 12 → j ≤ l.length → c ≤ j → c + (sbA s f src (l.drop j)).2 = (sbA s f src l).2 → wX4_substitute_14 t ps pf src post (d + 2) σ ν (nI c) (oI (fsF s l j)) (nI c) := by
    intro d
    induction d with
    | zero =>
      intro c j hcd hj hcj he
      unfold wX4_substitute_14
      rw [ti_n (by omega), if_neg (by omega)]
      have hjl : j = l.length := by omega
      rw [hjl, List.drop_of_length_le (Nat.le_refl _), show sbA s f src [] = ([], 0) from sb9_zero hs0 _] at he
      have e : c = (sbA s f src l).2 := by simpa using he
      rw [e]
      exact mid
    | succ d ih =>
      intro c j hcd hj hcj he
      unfold wX4_substitute_14
      rw [ti_n (by omega), if_pos (by omega)]
      cases hq : fsF s l j with
      | none =>
        rw [if_pos (by decide)]
        have hn : fs9 s (l.drop j) = none := by
          unfold fsF at hq
          cases hq2 : fs9 s (l.drop j) with
          | none => rfl
          | some w => rw [hq2] at hq; cases hq
        rw [sbA_none hs0 hn] at he
        have e : c = (sbA s f src l).2 := by simpa using he
        rw [e]
        exact mid
      | some v =>
        obtain ⟨v1, v2, v3, v4⟩ := fsF_some hj hq
        have e0 : oI (some v) = nI v := rfl
        rw [e0, ti_n (by omega), if_neg (by omega)]
        refine ⟨hps, ht, ?_⟩
        rw [hs.2.1, nI_add, li1, nI_add]
        refine s_find (k := v + s.length) ht hps hc hs v2 ?_
        refine ih (c + 1) (v + s.length) (by omega) v2 (by omega) ?_
        have hw : fs9 s (l.drop j) = some (v - j) := by
          unfold fsF at hq
          cases hq2 : fs9 s (l.drop j) with
          | none => rw [hq2] at hq; cases hq
          | some w =>
            rw [hq2] at hq
            simp only [Option.map_some, Option.some.injEq] at hq
            subst hq
            congr 1
            omega
        rw [sbA_some hs0 hw, List.drop_drop, show j + (v - j + s.length) = v + s.length by omega] at he
        simp only at he
        omega
  have := first 12 0 0 rfl (Nat.zero_le _) (Nat.le_refl _) (by simp)
  exact this
