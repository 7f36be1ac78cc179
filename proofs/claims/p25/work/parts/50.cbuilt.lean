/-! The whole building of a view in the class. -/
def LI9 (σ : SG) (ν : NU) (n : Nat) : Prop := σ 7 0 2 = nI n ∧ okc ν 0 n ∧ ∀ i, i < n → ν 8 0 i = i + 1
theorem LI9.same {σ σ' : SG} {ν ν' : NU} {n : Nat} (h : LI9 σ ν n) (e7 : σ' 7 0 = σ 7 0) (n7 : ν' 7 0 = ν 7 0) (n8 : ν' 8 0 = ν 8 0) (n99 : ν' 99 = ν 99) : LI9 σ' ν' n := by
  unfold LI9 okc at *
  rw [e7, n7, n8, n99]
  exact h
theorem LI9.b {σ σ' : SG} {ν ν' : NU} {n v : Nat} (h : LI9 σ ν n) (g : frB v σ σ') (gm : frM v ν ν') : LI9 σ' ν' n :=
  h.same (by funext c; exact g 7 0 c (fun z => by omega) (fun z => by omega) (fun z => by omega) (fun z => by omega)) (gm 7 0 (fun z => by omega) (fun z => by omega)) (gm 8 0 (fun z => by omega) (fun z => by omega)) gm.n99
theorem s_sizeT {σ : SG} {ν : NU} {v : Nat} {T : List Nat} {post : Int32 → Prop} (hv : v < 2) (h : LS9 σ ν (1 + v) T) (k : post (nI T.length)) : wpJx4a65c_size_8abf5 σ ν (1 + v) post := ⟨by omega, by rw [h.1]; exact k⟩
theorem s_size0 {σ : SG} {ν : NU} {n : Nat} {post : Int32 → Prop} (h : LI9 σ ν n) (k : post (nI n)) : wpJx4a65c_size_8abf5 σ ν 0 post := ⟨by omega, by rw [h.1]; exact k⟩
theorem s_get0 {σ : SG} {ν : NU} {n i : Nat} {post : Nat → Prop} (h : LI9 σ ν n) (hi : i < n) (k : post i) : wpJx4a65c_get_915e3 σ ν 0 (nI i) post := by
  obtain ⟨h1, ⟨h2, h3, h4, h5, h6⟩, h7⟩ := h
  have hc : (nI i).toNatClampNeg = i := cl_n (by omega)
  refine ⟨by omega, by rw [ti_n (by omega)]; omega, by rw [ti_n (by omega), h1, ti_n (by omega)]; omega, vi_n (by omega) (by omega), by rw [hc, h7 i hi]; omega, ?_⟩
  rw [hc, h7 i hi]
  exact k
theorem s_getT {σ : SG} {ν : NU} {v k : Nat} {T : List Nat} {post : Nat → Prop} (hv : v < 2) (h : LS9 σ ν (1 + v) T) (hk : k < T.length) (kk : post T[k]) : wpJx4a65c_get_915e3 σ ν (1 + v) (nI k) post := by
  obtain ⟨h1, ⟨h2, h3, h4, h5, h6⟩, h7⟩ := h
  have hc : (nI k).toNatClampNeg = k := cl_n (by omega)
  refine ⟨by omega, by rw [ti_n (by omega)]; omega, by rw [ti_n (by omega), h1, ti_n (by omega)]; omega, vi_n (by omega) (by omega), by rw [hc, h7 k hk]; omega, ?_⟩
  rw [hc, h7 k hk]
  exact kk
theorem VC.st {σ : SG} {ν : NU} {v n i : Nat} {ρ : RH} {eff : Nat → Bool} {C : CS} {x : Int32} (h : VC σ ν v n ρ eff C) : VC (u3 σ 12 v i x) ν v n ρ eff (st9 C i x) := by
  have go : ∀ a b, ¬ (a = 12 ∧ b = v) → u3 σ 12 v i x a b = σ a b := fun a b z => u3_oth z
  have gd : frD σ (u3 σ 12 v i x) := fun a b h => go a b (fun z => by omega)
  refine ⟨fun p hp => ?_, fun j hj => ?_, fun j hj he hk => ⟨(h.2.2 j hj he hk).1, (h.2.2 j hj he hk).2.same gd⟩⟩
  · rw [go 14 v (fun z => by omega), go 15 v (fun z => by omega)]
    obtain ⟨h1, h2⟩ := h.1 p hp
    refine ⟨h1, fun ht => ⟨(h2 ht).1, (h2 ht).2.1, ?_⟩⟩
    have := (h2 ht).2.2
    unfold CX at *
    rw [go 2 _ (fun z => by omega), go 20 _ (fun z => by omega), go 21 _ (fun z => by omega)]
    exact this
  · rw [u3_at]
    show _ = va_up C.2.2.2.2.1 i x j
    by_cases q : j = i
    · rw [if_pos q, q, va_up_self]
    · rw [if_neg q, va_up_ne _ _ q]; exact h.2.1 j hj
theorem frB_12 {σ : SG} {v i : Nat} {x : Int32} : frB v σ (u3 σ 12 v i x) := fun a b c _ _ _ h4 => by rw [u3_oth (fun z => h4 ⟨by omega, z.2⟩)]
/-- one of them is done and marked, in the class -/
theorem s_stepC {σ : SG} {ν : NU} {v n np i : Nat} {ρ : RH} {J : List Nat} {eff : Nat → Bool} {C : CS} {post : Int32 → SG → NU → Prop} (hv : v < 2) (hD : DAT n np ρ) (hC : CDT σ ν ρ n) (hV : VC σ ν v n ρ eff C) (hG : GD n np ρ J C) (hJ : ∀ j ∈ J, j < n) (hi : i < n) (hiJ : i ∉ J) (he : eff i = true)
    (k : ∀ (r x : Int32) (σ' : SG) (ν' : NU), (r = 0 ∧ x = 2) ∨ (r = 1 ∧ x = 1) → σ' 3 i 0 = nI i → VC (u3 σ' 12 v i x) ν' v n ρ eff (step9 np ρ eff C i) → frB v σ (u3 σ' 12 v i x) → frV v σ σ' → frN v ν ν' → post r σ' ν') : wpX5_carryOut σ ν v i post := by
  have c0 := (hC.2 i hi).1
  refine s_carryOut hv hD hC hV hG hJ hi hiJ he (fun hd => ?_) (fun C' hd σ' ν' x1 x2 x3 => ?_)
  · refine k 0 2 σ ν (Or.inl ⟨rfl, rfl⟩) c0 ?_ frB_12 frV.rf frN.rf
    unfold step9
    rw [hd]
    exact hV.st
  · refine k 1 1 σ' ν' (Or.inr ⟨rfl, rfl⟩) (by rw [x2 3 i (by omega) (by omega)]; exact c0) ?_ (x2.b.tr frB_12) x2 x3
    unfold step9
    rw [hd]
    exact x1.st
set_option maxHeartbeats 1000000 in
theorem s_build {σ : SG} {ν : NU} {v n np : Nat} {ρ : RH} {d kn te : Int32} {post : SG → NU → Prop} (hv : v < 2) (hD : DAT n np ρ) (hC : CDT σ ν ρ n) (hL : LI9 σ ν n) (hd : σ 1 v 10 = d) (hk : σ 1 v 11 = kn) (ht : σ 1 v 12 = te) (hd5 : d.toInt ≤ 5000) (hVL : VL9 σ ν v) (hB : BD9 v ν)
    (k : ∀ σ' ν', frB v σ σ' → frM v ν ν' → BD9 v ν' → VB9 σ' ν' v n ρ kn (ef9 ρ d kn te) (or9 ρ n d kn te) (vw9 n np ρ d kn te) → post σ' ν') : wpX5_build σ ν v 0 post := by
  have h40 := hD.1
  have hn := hC.1
  refine ⟨hv, s_clearC hv hVL hB (fun σ0 ν0 b1 b2 b3 b4 b5 b6 b7 => ?_)⟩
  -- the instructions are done in their order
  have hsT : (or9 ρ n d kn te).Pairwise (ah9 (bi9 ρ kn)) := tn9_sorted
  have hmT : ∀ x, x ∈ or9 ρ n d kn te ↔ x < n ∧ ef9 ρ d kn te x = true := fun x => tn9_mem
  have hnd : (or9 ρ n d kn te).Nodup := tn9_nodup
  have two : ∀ (rest pre : List Nat) (σ1 : SG) (ν1 : NU), or9 ρ n d kn te = pre ++ rest → GD n np ρ pre (run9 np ρ (ef9 ρ d kn te) pre (c09 (aw9 ρ))) → VC σ1 ν1 v n ρ (ef9 ρ d kn te) (run9 np ρ (ef9 ρ d kn te) pre (c09 (aw9 ρ))) → frB v σ σ1 → frM v ν ν1 → BD9 v ν1 → LS9 σ1 ν1 (1 + v) (or9 ρ n d kn te) → σ1 1 v 9 = 0 → (∀ i, i < n → σ1 11 v i = cm9 ρ kn i) → wX5_build_73 v 0 post (rest.length + 1) σ1 ν1 (nI pre.length) := by
    intro rest
    induction rest with
    | nil =>
      intro pre σ1 ν1 hT hG hV g1 m1 bd ls l9 l11
      have hlen : pre.length = (or9 ρ n d kn te).length := by rw [hT, List.append_nil]
      unfold wX5_build_73
      refine ⟨hv, s_sizeT hv ls ?_⟩
      rw [hlen, if_neg (by omega)]
      have hvw : vw9 n np ρ d kn te = run9 np ρ (ef9 ρ d kn te) pre (c09 (aw9 ρ)) := by
        unfold vw9
        rw [hT, List.append_nil]
      refine s_listInOrder hv hV hG l9 (fun σ2 f2 ld => ?_)
      have row : ∀ a, a ≠ 1 → a ≠ 18 → σ2 a = σ1 a := fun a h1 h2 => by funext b c; exact f2 a b c (fun z => h1 z.1) (fun z => h2 z.1)
      refine k σ2 ν1 (g1.tr (fun a b c h1 _ _ h4 => f2 a b c h1 (fun z => h4 ⟨by omega, z.2⟩))) m1 bd ⟨?_, ?_, fun i hi => ?_, ?_⟩
      · rw [hvw]
        exact hV.same (fun a b h => by rw [row a (by omega) (by omega)]) (by rw [row 14 (by decide) (by decide)]) (by rw [row 15 (by decide) (by decide)]) (by rw [row 12 (by decide) (by decide)]) (fun b _ _ => by rw [row 2 (by decide) (by decide), row 20 (by decide) (by decide), row 21 (by decide) (by decide)]; exact ⟨rfl, rfl, rfl⟩)
      · unfold LS9 at *
        rw [row 7 (by decide) (by decide)]
        exact ls
      · rw [row 11 (by decide) (by decide)]
        exact l11 i hi
      · rw [hvw]
        exact ld
    | cons r rest ih =>
      intro pre σ1 ν1 hT hG hV g1 m1 bd ls l9 l11
      have hr : r < n ∧ ef9 ρ d kn te r = true := (hmT r).mp (by rw [hT]; exact List.mem_append_right _ List.mem_cons_self)
      have hlen : pre.length < (or9 ρ n d kn te).length := by rw [hT, List.length_append, List.length_cons]; omega
      have hget : (or9 ρ n d kn te)[pre.length] = r := by
        have : (or9 ρ n d kn te)[pre.length]? = some r := by rw [hT, List.getElem?_append_right (Nat.le_refl _), Nat.sub_self]; rfl
        rw [List.getElem?_eq_getElem hlen] at this
        exact Option.some.inj this
      have h40T := ls.2.1.2.2.2.1
      have hpn : ∀ j ∈ pre, j < n := fun j hj => ((hmT j).mp (by rw [hT]; exact List.mem_append_left _ hj)).1
      have hrp : r ∉ pre := fun q => (List.nodup_append.mp (hT ▸ hnd)).2.2 r q r List.mem_cons_self rfl
      have hC1 : CDT σ1 ν1 ρ n := hC.same g1.d m1.n3 m1.n99
      unfold wX5_build_73
      refine ⟨hv, s_sizeT hv ls ?_⟩
      rw [ti_n (by omega), ti_n (by omega), if_pos (by omega)]
      refine s_getT hv ls hlen ?_
      rw [hget]
      refine ⟨by have := hC1.1; omega, ?_⟩
      refine s_stepC hv hD hC1 hV hG hpn hr.1 hrp hr.2 (fun q x σ2 ν2 hqx e0 hV2 gB gV gN => ?_)
      have n99 : ν2 99 = ν1 99 := gN.m.n99
      refine ⟨by rw [n99]; have := hC1.1; omega, ?_⟩
      have hcr : (nI r).toNatClampNeg = r := cl_n (by omega)
      rw [e0, ti_n (by omega), if_neg (by omega), if_pos (by omega), hcr, nI_1]
      have go : vp_in (nI r) 40 ∧ ∀ t : SG, t = u3 σ2 12 v r x → wX5_build_73 v 0 post (rest.length + 1) t ν2 (nI (pre.length + 1)) := by
        refine ⟨vi_n (by omega) (by decide), fun t e => ?_⟩
        subst e
        have := ih (pre ++ [r]) (u3 σ2 12 v r x) ν2 (by rw [hT, List.append_assoc]; rfl) (by rw [run9_snoc]; exact GD_step hD hG hpn hr.1 hrp) (by rw [run9_snoc]; exact hV2) (g1.tr gB) (m1.tr gN.m) ⟨fun i => ?_, fun i => ?_⟩ ?_ ?_ (fun i hi => ?_)
        · rw [List.length_append] at this
          exact this
        · rw [gN.1 8 _ (fun z => by omega), n99]; exact bd.1 i
        · rw [n99]
          rcases gN.2 i with q | q
          · rw [q]; exact bd.2 i
          · exact q
        · unfold LS9 okc at *
          rw [u3_oth (fun z => by omega), gV 7 (1 + v) (by omega) (by omega), gN.1 7 _ (fun z => by omega), gN.1 8 _ (fun z => by omega), n99]
          exact ls
        · rw [u3_oth (fun z => by omega), gV 1 v (by omega) (by omega)]; exact l9
        · rw [u3_oth (fun z => by omega), gV 11 v (by omega) (by omega)]; exact l11 i hi
      rcases hqx with ⟨e1, e2⟩ | ⟨e1, e2⟩
      · subst e1; subst e2
        rw [if_pos z0I]
        exact go
      · subst e1; subst e2
        rw [if_neg z1I]
        exact go
  refine ⟨n + 1, by omega, ?_⟩
  have one : ∀ e j, j + e = n → ∀ (σ1 : SG) (ν1 : NU), frB v σ σ1 → frM v ν ν1 → BD9 v ν1 → LS9 σ1 ν1 (1 + v) (tn9 (bi9 ρ kn) (ef9 ρ d kn te) j) → σ1 1 v 9 = 0 → (∀ i, i < j → σ1 11 v i = cm9 ρ kn i) → (∀ i, i < 40 → σ1 12 v i = 0 ∧ ν1 13 v i = 0) → (∀ p, p < 20 → σ1 14 v p = -1) → wX5_build_6 v 0 post (e + 1) σ1 ν1 (nI j) := by
    intro e
    induction e with
    | zero =>
      intro j hj σ1 ν1 g1 m1 bd ls l9 l11 l12 l14
      have hjn : j = n := by omega
      subst hjn
      have hL1 := hL.b g1 m1
      have hC1 : CDT σ1 ν1 ρ j := hC.same g1.d m1.n3 m1.n99
      unfold wX5_build_6
      refine ⟨by omega, s_size0 hL1 ?_⟩
      rw [if_neg (by omega)]
      refine ⟨(or9 ρ j d kn te).length + 1, two (or9 ρ j d kn te) [] σ1 ν1 rfl (GD_c0 hD) ⟨fun p hp => ⟨fun _ => l14 p hp, fun z => by cases (show false = true from z)⟩, fun i hi => (l12 i (by omega)).1, fun i hi _ _ => ?_⟩ g1 m1 bd ls l9 l11⟩
      rw [(l12 i (by omega)).2, if_pos rfl]
      obtain ⟨-, -, -, -, -, -, -, -, c8, -⟩ := hC1.2 i hi
      have := hC1.1
      exact ⟨by omega, c8⟩
    | succ e ih =>
      intro j hj σ1 ν1 g1 m1 bd ls l9 l11 l12 l14
      have hjn : j < n := by omega
      have hc : (nI j).toNatClampNeg = j := cl_n (by omega)
      have hL1 := hL.b g1 m1
      have hC1 : CDT σ1 ν1 ρ n := hC.same g1.d m1.n3 m1.n99
      have v1 : ∀ c, c ≠ 9 → σ1 1 v c = σ 1 v c := fun c hc => g1 1 v c (fun z => hc z.2.2) (fun z => by omega) (fun z => by omega) (fun z => by omega)
      unfold wX5_build_6
      refine ⟨by omega, s_size0 hL1 ?_⟩
      rw [ti_n (by omega), ti_n (by omega), if_pos (by omega), if_pos (by omega)]
      refine s_get0 hL1 hjn ⟨by have := hC1.1; omega, hv, ?_⟩
      refine s_findBeginning hv hD hC1 hjn (by rw [v1 11 (by decide)]; exact hk) l11 ⟨vi_n (by omega) (by decide), fun t36 f36 => ⟨vi_n (by omega) (by decide), ?_⟩⟩
      rw [hc] at f36 ⊢
      have go : ∀ a b, ¬ (a = 11 ∧ b = v) → t36 a b = σ1 a b := fun a b z => by rw [f36, u3_oth z]
      have gB : frB v σ1 t36 := fun a b c _ _ _ h4 => by rw [go a b (fun z => h4 ⟨by omega, z.2⟩)]
      have hC2 : CDT t36 ν1 ρ n := hC1.same gB.d rfl rfl
      have r11 : ∀ i, t36 11 v i = if i = j then cm9 ρ kn j else σ1 11 v i := fun i => by rw [f36, u3_at]
      have ls2 : LS9 t36 ν1 (1 + v) (tn9 (bi9 ρ kn) (ef9 ρ d kn te) j) := by
        unfold LS9 at *
        rw [go 7 _ (fun z => by omega)]
        exact ls
      have l11' : ∀ i, i < j + 1 → t36 11 v i = cm9 ρ kn i := fun i hi => by
        rw [r11]
        by_cases q : i = j
        · rw [if_pos q, q]
        · rw [if_neg q]; exact l11 i (by omega)
      have l12' : ∀ i, i < 40 → t36 12 v i = 0 ∧ ν1 13 v i = 0 := fun i hi => by rw [go 12 v (fun z => by omega)]; exact l12 i hi
      have l14' : ∀ p, p < 20 → t36 14 v p = -1 := fun p hp => by rw [go 14 v (fun z => by omega)]; exact l14 p hp
      have l9' : t36 1 v 9 = 0 := by rw [go 1 v (fun z => by omega)]; exact l9
      have g2 := g1.tr gB
      rw [l11' j (by omega)]
      refine s_isInEffectC (d := d) (kn := kn) (te := te) hv hD hC2 hjn (by rw [go 1 v (fun z => by omega), v1 10 (by decide)]; exact hd) (by rw [go 1 v (fun z => by omega), v1 11 (by decide)]; exact hk) (by rw [go 1 v (fun z => by omega), v1 12 (by decide)]; exact ht) hd5 ?_
      rw [nI_1]
      cases he : ef9 ρ d kn te j with
      | false =>
        rw [show bI (false = true) = 0 from bI_f (by decide), if_pos z0I]
        refine ih (j + 1) (by omega) t36 ν1 g2 m1 bd ?_ l9' l11' l12' l14'
        simp only [tn9, he]
        exact ls2
      | true =>
        rw [show bI (true = true) = 1 from bI_t rfl, if_neg z1I]
        refine ⟨vi_n (by omega) (by decide), s_takeTurn hv hD hC2 hjn ls2 (fun x hx => (tn9_mem.mp hx).1) tn9_sorted (fun w _ hw => l11' w (by omega)) (by have := tn9_len (b := bi9 ρ kn) (eff := ef9 ρ d kn te) (n := j); omega) (fun σ3 ν3 ls3 f3 n3 b3 => ?_)⟩
        have m3 : frM v ν1 ν3 := fun a b h1 _ => n3 a b h1
        have n99 := m3.n99
        refine ih (j + 1) (by omega) σ3 ν3 (g2.tr (fun a b c _ _ h3 _ => by rw [f3 a b h3])) (m1.tr m3) ⟨?_, fun i => by rw [n3 13 v (fun z => by omega), n99]; exact bd.2 i⟩ ?_ (by rw [f3 1 v (fun z => by omega)]; exact l9') (fun i hi => by rw [f3 11 v (fun z => by omega)]; exact l11' i hi) (fun i hi => by rw [f3 12 v (fun z => by omega), n3 13 v (fun z => by omega)]; exact l12' i hi) (fun p hp => by rw [f3 14 v (fun z => by omega)]; exact l14' p hp)
        · rw [n99]
          exact b3 (ν1 99 0 0) bd.1 (by have := hC2.1; omega)
        · simp only [tn9, he, if_true]
          exact ls3
  exact one n 0 (by omega) σ0 ν0 b1 b2 b3 b4 b5 (fun i hi => absurd hi (Nat.not_lt_zero i)) (fun i hi => ⟨(b6 i hi).2.1, (b6 i hi).2.2⟩) (fun p hp => (b7 p hp).1)
