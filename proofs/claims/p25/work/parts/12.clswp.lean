/-! what each method asks of the state. Written by wip/gen/gen.py -/
def wpX6_pass (σ : SG) (ν : NU) (p1 : Int32) (post : Int32 → SG → Prop) (px : String → SG → Prop) : Prop :=
  if p1.toInt < 1 then (
    px "java/lang/IllegalArgumentException" σ
  ) else (
    if p1.toInt ≤ 500 then (
      if ((σ 0 0 4) + p1).toInt ≤ 5000 then (
        ∀ t4 : SG, t4 = u3 σ 0 0 4 ((σ 0 0 4) + p1) →
        post (t4 0 0 4) t4
      ) else (
        px "java/lang/IllegalStateException" σ
      )
    ) else (
      px "java/lang/IllegalArgumentException" σ
    )
  )
def wpX6_act (σ : SG) (ν : NU)  (post : Int32 → SG → Prop) (px : String → SG → Prop) : Prop :=
  if (σ 0 0 5).toInt < 10 then (
    ∀ t2 : SG, t2 = u3 σ 0 0 6 (σ 0 0 4) →
    ∀ t4 : SG, t4 = u3 t2 0 0 5 ((t2 0 0 5) + ((1 : Int32))) →
    post ((t4 0 0 5) - ((1 : Int32))) t4
  ) else (
    px "java/lang/IllegalStateException" σ
  )
def wpX6_needInstruction (σ : SG) (ν : NU) (p1 : Int32) (post : Nat → Prop) (px : String → Prop) : Prop :=
  if p1.toInt < 0 then (
    px "java/lang/IndexOutOfBoundsException"
  ) else (
    wpJx4a65c_size_8abf5 σ ν 0 (fun r2 =>
      if p1.toInt < r2.toInt then (
        wpJx4a65c_get_915e3 σ ν 0 p1 (fun r4 =>
          r4 < ν 99 0 0 ∧
          post r4
        )
      ) else (
        px "java/lang/IndexOutOfBoundsException"
      )
    )
  )
def wpX6_needDay (σ : SG) (ν : NU) (p0 : Int32) (post : Prop) (px : String → Prop) : Prop :=
  if p0.toInt < 0 then (
    px "java/lang/IllegalArgumentException"
  ) else (
    if p0.toInt ≤ 5000 then (
      post
    ) else (
      px "java/lang/IllegalArgumentException"
    )
  )
def jX6_terms_38 (p1 : Int32) (p2 : Int32) (p3 : Int32) (p4 : Int32)  (post : SG → NU → Prop) (px : String → Prop) (σ : SG) (ν : NU) : Prop :=
  if p3.toInt < 1 then (
    px "java/lang/IllegalArgumentException"
  ) else (
    if p3.toInt ≤ 7 then (
      if p4.toInt = (-1) then (
        clo ν ∧
        (ν 0 0 3) < ν 99 0 0 ∧
        ∀ t8 : SG, t8 = r3 σ 5 (ν 99 0 1) (tm4 p1 p2 p3 p4) →
        ∀ vv9 : NU, vv9 = nuT ν (ν 0 0 3) →
          post t8 vv9
      ) else (
        wpX6_needDay σ ν p4 (
          clo ν ∧
          (ν 0 0 3) < ν 99 0 0 ∧
          ∀ t16 : SG, t16 = r3 σ 5 (ν 99 0 1) (tm4 p1 p2 p3 p4) →
          ∀ vv17 : NU, vv17 = nuT ν (ν 0 0 3) →
            post t16 vv17
        ) px
      )
    ) else (
      px "java/lang/IllegalArgumentException"
    )
  )
def jX6_terms_11 (p1 : Int32) (p2 : Int32) (p3 : Int32) (p4 : Int32)  (post : SG → NU → Prop) (px : String → Prop) (σ : SG) (ν : NU) : Prop :=
  if p1.toInt < 0 then (
    px "java/lang/IllegalArgumentException"
  ) else (
    if p1.toInt ≤ 2 then (
      if p1.toInt = 0 then (
        wpX6_needDay σ ν p2 (
          jX6_terms_38 p1 p2 p3 p4 post px σ ν
        ) px
      ) else (
        jX6_terms_38 p1 p2 p3 p4 post px σ ν
      )
    ) else (
      px "java/lang/IllegalArgumentException"
    )
  )
def wpX6_terms (σ : SG) (ν : NU) (p1 : Int32) (p2 : Int32) (p3 : Int32) (p4 : Int32) (post : SG → NU → Prop) (px : String → Prop) : Prop :=
  if p1.toInt = 2 then (
    wpX6_needInstruction σ ν p2 (fun r24 =>
      jX6_terms_11 p1 p2 p3 p4 post px σ ν
    ) px
  ) else (
    jX6_terms_11 p1 p2 p3 p4 post px σ ν
  )
def wpX2_append (σ : SG) (ν : NU) (o0 : Nat) (p1 : Int32) (post : Int32 → SG → Prop) : Prop :=
  o0 < 2 * ν 99 0 0 ∧
  if (σ 4 o0 1).toInt < 4 then (
    vp_in (σ 4 o0 1) 4 ∧
    ∀ t4 : SG, t4 = u3 σ 22 o0 (σ 4 o0 1).toNatClampNeg p1 →
    ∀ t6 : SG, t6 = u3 t4 4 o0 1 ((t4 4 o0 1) + ((1 : Int32))) →
    post ((1 : Int32)) t6
  ) else (
    post ((0 : Int32)) σ
  )
def jX6_word_42 (p1 : Int32) (p2 : Int32)  (post : Int32 → SG → Prop) (px : String → SG → Prop) (σ : SG) (ν : NU) (y0 : Nat) : Prop :=
  y0 < 2 * ν 99 0 0 ∧
  wpX2_append σ ν y0 p1 (fun r6 t7 =>
    if r6.toInt = 0 then (
      px "java/lang/IllegalStateException" t7
    ) else (
      post (t7 4 y0 1) t7
    )
  )
def wpX6_word (σ : SG) (ν : NU) (p1 : Int32) (p2 : Int32) (post : Int32 → SG → Prop) (px : String → SG → Prop) : Prop :=
  if p1.toInt < 0 then (
    px "java/lang/IllegalArgumentException" σ
  ) else (
    if p1.toInt ≤ 139 then (
      if p2.toInt = 0 then (
        ν 0 0 3 < ν 99 0 0 ∧
        jX6_word_42 p1 p2 post px σ ν (2 * (ν 0 0 3))
      ) else (
        ν 0 0 3 < ν 99 0 0 ∧
        jX6_word_42 p1 p2 post px σ ν (2 * (ν 0 0 3) + 1)
      )
    ) else (
      px "java/lang/IllegalArgumentException" σ
    )
  )
def wpX6_needProvision (σ : SG) (ν : NU) (p1 : Int32) (post : Prop) (px : String → Prop) : Prop :=
  if p1.toInt < 0 then (
    px "java/lang/IndexOutOfBoundsException"
  ) else (
    if p1.toInt < (σ 0 0 7).toInt then (
      post
    ) else (
      px "java/lang/IndexOutOfBoundsException"
    )
  )
def wpX6_needProvisionOrTop (σ : SG) (ν : NU) (p1 : Int32) (post : Prop) (px : String → Prop) : Prop :=
  if p1.toInt = (-1) then (
    post
  ) else (
    wpX6_needProvision σ ν p1 (
      post
    ) px
  )
def wpX6_needLabel (σ : SG) (ν : NU) (p0 : Int32) (p1 : Int32) (post : Prop) (px : String → Prop) : Prop :=
  if p0.toInt < 1 then (
    px "java/lang/IllegalArgumentException"
  ) else (
    if p0.toInt ≤ 99 then (
      if p1.toInt < 0 then (
        px "java/lang/IllegalArgumentException"
      ) else (
        if p1.toInt ≤ 728 then (
          if p1.toInt ≤ 0 then (
            post
          ) else (
            if (p1 - p1 / ((27 : Int32)) * ((27 : Int32))).toInt = 0 then (
              px "java/lang/IllegalArgumentException"
            ) else (
              post
            )
          )
        ) else (
          px "java/lang/IllegalArgumentException"
        )
      )
    ) else (
      px "java/lang/IllegalArgumentException"
    )
  )
def wpX6_needRoomInAct (σ : SG) (ν : NU)  (post : Prop) (px : String → Prop) : Prop :=
  if (σ 0 0 6).toInt = (σ 0 0 4).toInt then (
    wpJx4a65c_size_8abf5 σ ν 0 (fun r2 =>
      if r2.toInt < 40 then (
        post
      ) else (
        px "java/lang/IllegalStateException"
      )
    )
  ) else (
    px "java/lang/IllegalStateException"
  )
def wpX6_joinLabel (σ : SG) (ν : NU) (p0 : Int32) (p1 : Int32) (post : Int32 → Prop) : Prop :=
  post ((((1000 : Int32)) * p0) + p1)
def wpX6_add (σ : SG) (ν : NU) (p1 : Int32) (p2 : Int32) (post : SG → NU → Prop) : Prop :=
  wpJx4a65c_size_8abf5 σ ν 0 (fun r1 =>
    ν 0 0 3 < ν 99 0 0 ∧
    ∀ t3 : SG, t3 = u3 σ 3 (ν 0 0 3) 0 r1 →
    ∀ t5 : SG, t5 = u3 t3 3 (ν 0 0 3) 1 ((t3 0 0 5) - ((1 : Int32))) →
    ∀ t7 : SG, t7 = u3 t5 3 (ν 0 0 3) 2 (t5 0 0 4) →
    ∀ t9 : SG, t9 = u3 t7 3 (ν 0 0 3) 3 p1 →
    ∀ t11 : SG, t11 = u3 t9 3 (ν 0 0 3) 4 p2 →
    wpJx4a65c_add_9ea2d t11 ν 0 (ν 0 0 3) (fun r13 t14 vv15 =>
      clo vv15 ∧
      ∀ t19 : SG, t19 = sgI t14 (vv15 99 0 0) →
      ∀ vv20 : NU, vv20 = nuI vv15 (vv15 0 0 3) (vv15 99 0 0) →
        post t19 vv20
    )
  )
def wX5_clear_49 (o0 : Nat)  (post : SG → NU → Prop) : Nat → SG → NU → Int32 → Prop
  | 0, _, _, _ => False
  | n + 1, a1, a2, x1 =>
    if x1.toInt < 20 then (
      o0 < 2 ∧
      vp_in x1 20 ∧
      ∀ t11 : SG, t11 = u3 a1 14 o0 x1.toNatClampNeg ((-1 : Int32)) →
      vp_in x1 20 ∧
      ∀ t14 : SG, t14 = u3 t11 15 o0 x1.toNatClampNeg ((-1 : Int32)) →
      wX5_clear_49 o0 post n t14 a2 (x1 + (1 : Int32))
    ) else (
      post a1 a2
    )
def wX5_clear_14 (o0 : Nat)  (post : SG → NU → Prop) : Nat → SG → NU → Int32 → Prop
  | 0, _, _, _ => False
  | n + 1, a1, a2, x1 =>
    if x1.toInt < 40 then (
      o0 < 2 ∧
      vp_in x1 40 ∧
      ∀ t19 : SG, t19 = u3 a1 11 o0 x1.toNatClampNeg ((-1 : Int32)) →
      vp_in x1 40 ∧
      ∀ t22 : SG, t22 = u3 t19 12 o0 x1.toNatClampNeg ((0 : Int32)) →
      vp_in x1 40 ∧
      ∀ vv25 : NU, vv25 = u3 a2 13 o0 x1.toNatClampNeg (0) →
      wX5_clear_14 o0 post n t22 vv25 (x1 + (1 : Int32))
    ) else (
      ∃ f, wX5_clear_49 o0 post f a1 a2 ((0 : Int32))
    )
def wpX5_clear (σ : SG) (ν : NU) (o0 : Nat) (post : SG → NU → Prop) : Prop :=
  o0 < 2 ∧
  wpJx4a65c_clear_da8c8 σ ν (1 + o0) (fun t2 vv3 =>
    ∀ t5 : SG, t5 = u3 t2 1 o0 9 ((0 : Int32)) →
    ∃ f, wX5_clear_14 o0 post f t5 vv3 ((0 : Int32))
  )
def wpX1_isGiven (σ : SG) (ν : NU) (o0 : Nat) (post : Int32 → Prop) : Prop :=
  o0 < 3 * ν 99 0 0 ∧
  if (σ 6 o0 0).toInt = (-1) then (
    post ((0 : Int32))
  ) else (
    post ((1 : Int32))
  )
def wpX1_isKnownOn (σ : SG) (ν : NU) (o0 : Nat) (p1 : Int32) (post : Int32 → Prop) : Prop :=
  o0 < 3 * ν 99 0 0 ∧
  wpX1_isGiven σ ν o0 (fun r2 =>
    if r2.toInt = 0 then (
      post ((0 : Int32))
    ) else (
      if (σ 6 o0 0).toInt ≤ p1.toInt then (
        post ((1 : Int32))
      ) else (
        post ((0 : Int32))
      )
    )
  )
def wpX5_beginningOf (σ : SG) (ν : NU) (o0 : Nat) (p1 : Int32) (post : Int32 → Prop) : Prop :=
  if p1.toInt < 0 then (
    post ((-1 : Int32))
  ) else (
    o0 < 2 ∧
    if p1.toInt < 40 then (
      vp_in p1 40 ∧
      post (σ 11 o0 p1.toNatClampNeg)
    ) else (
      post ((-1 : Int32))
    )
  )
def wpX5_findBeginning (σ : SG) (ν : NU) (o0 : Nat) (o1 : Nat) (post : Int32 → Prop) : Prop :=
  o1 < ν 99 0 0 ∧
  o0 < 2 ∧
  if (σ 3 o1 2).toInt ≤ (σ 1 o0 11).toInt then (
    ν 3 o1 7 < ν 99 0 1 ∧
    if (σ 5 (ν 3 o1 7) 0).toInt = 0 then (
      post (σ 5 (ν 3 o1 7) 1)
    ) else (
    if (σ 5 (ν 3 o1 7) 0).toInt = 1 then (
      wpX1_isKnownOn σ ν (3 * o1) (σ 1 o0 11) (fun r7 =>
        if r7.toInt = 0 then (
          post ((-1 : Int32))
        ) else (
          post (σ 6 (3 * o1) 1)
        )
      )
    ) else (
      wpX5_beginningOf σ ν o0 (σ 5 (ν 3 o1 7) 1) (fun r9 =>
        post r9
      )
    ))
  ) else (
    post ((-1 : Int32))
  )
def wpX3_reach (σ : SG) (ν : NU) (o0 : Nat) (p1 : Int32) (post : Int32 → Prop) : Prop :=
  o0 < ν 99 0 1 ∧
  if (((σ 5 o0 2) >>> (p1 &&& 31)) &&& ((1 : Int32))).toInt = 1 then (
    post ((1 : Int32))
  ) else (
    post ((0 : Int32))
  )
def wpX3_endBy (σ : SG) (ν : NU) (o0 : Nat) (p1 : Int32) (post : Int32 → Prop) : Prop :=
  o0 < ν 99 0 1 ∧
  if (σ 5 o0 3).toInt = (-1) then (
    post ((0 : Int32))
  ) else (
    if (σ 5 o0 3).toInt ≤ p1.toInt then (
      post ((1 : Int32))
    ) else (
      post ((0 : Int32))
    )
  )
def wpX1_covers (σ : SG) (ν : NU) (o0 : Nat) (p1 : Int32) (p2 : Int32) (post : Int32 → Prop) : Prop :=
  o0 < 3 * ν 99 0 0 ∧
  wpX1_isKnownOn σ ν o0 p2 (fun r2 =>
    if r2.toInt = 0 then (
      post ((0 : Int32))
    ) else (
      if (σ 6 o0 1).toInt ≤ p1.toInt then (
        if p1.toInt ≤ (σ 6 o0 2).toInt then (
          post ((1 : Int32))
        ) else (
          post ((0 : Int32))
        )
      ) else (
        post ((0 : Int32))
      )
    )
  )
def wpX5_isInEffect (σ : SG) (ν : NU) (o0 : Nat) (o1 : Nat) (p2 : Int32) (post : Int32 → Prop) : Prop :=
  if p2.toInt = (-1) then (
    post ((0 : Int32))
  ) else (
    o0 < 2 ∧
    if p2.toInt ≤ (σ 1 o0 10).toInt then (
      o1 < ν 99 0 0 ∧
      ν 3 o1 7 < ν 99 0 1 ∧
      wpX3_reach σ ν (ν 3 o1 7) (σ 1 o0 12) (fun r6 =>
        if r6.toInt = 0 then (
          post ((0 : Int32))
        ) else (
          wpX3_endBy σ ν (ν 3 o1 7) (σ 1 o0 10) (fun r8 =>
            if r8.toInt = 0 then (
              wpX1_covers σ ν (3 * o1 + 1) (σ 1 o0 10) (σ 1 o0 11) (fun r10 =>
                if r10.toInt = 0 then (
                  wpX1_covers σ ν (3 * o1 + 2) (σ 1 o0 10) (σ 1 o0 11) (fun r12 =>
                    if r12.toInt = 0 then (
                      post ((1 : Int32))
                    ) else (
                      post ((0 : Int32))
                    )
                  )
                ) else (
                  post ((0 : Int32))
                )
              )
            ) else (
              post ((0 : Int32))
            )
          )
        )
      )
    ) else (
      post ((0 : Int32))
    )
  )
def jX5_takeTurn_42 (o0 : Nat) (o1 : Nat) (p2 : Int32)  (post : SG → NU → Prop) (a1 : SG) (a2 : NU) (x3 : Int32) : Prop :=
  o0 < 2 ∧
  o1 < a2 99 0 0 ∧
  wpJx4a65c_add_7a177 a1 a2 (1 + o0) x3 o1 (fun t6 vv7 =>
    post t6 vv7
  )
def wX5_takeTurn_8 (o0 : Nat) (o1 : Nat) (p2 : Int32)  (post : SG → NU → Prop) : Nat → SG → NU → Int32 → Prop
  | 0, _, _, _ => False
  | n + 1, a1, a2, x3 =>
    if x3.toInt ≤ 0 then (
      jX5_takeTurn_42 o0 o1 p2 post a1 a2 x3
    ) else (
      o0 < 2 ∧
      wpJx4a65c_get_915e3 a1 a2 (1 + o0) (x3 - ((1 : Int32))) (fun r13 =>
        r13 < a2 99 0 0 ∧
        wpX5_beginningOf a1 a2 o0 (a1 3 r13 0) (fun r15 =>
          if r15.toInt ≤ p2.toInt then (
            jX5_takeTurn_42 o0 o1 p2 post a1 a2 x3
          ) else (
            wX5_takeTurn_8 o0 o1 p2 post n a1 a2 (x3 + (-1 : Int32))
          )
        )
      )
    )
def wpX5_takeTurn (σ : SG) (ν : NU) (o0 : Nat) (o1 : Nat) (p2 : Int32) (post : SG → NU → Prop) : Prop :=
  o0 < 2 ∧
  wpJx4a65c_size_8abf5 σ ν (1 + o0) (fun r2 =>
    ∃ f, wX5_takeTurn_8 o0 o1 p2 post f σ ν r2
  )
def wpX5_labelOf (σ : SG) (ν : NU) (o0 : Nat) (p1 : Int32) (post : Int32 → Prop) : Prop :=
  if p1.toInt < 0 then (
    post ((-1 : Int32))
  ) else (
    o0 < 2 ∧
    if p1.toInt < 20 then (
      vp_in p1 20 ∧
      post (σ 14 o0 p1.toNatClampNeg)
    ) else (
      post ((-1 : Int32))
    )
  )
def wpX5_isThere (σ : SG) (ν : NU) (o0 : Nat) (p1 : Int32) (post : Int32 → Prop) : Prop :=
  o0 < 2 ∧
  wpX5_labelOf σ ν o0 p1 (fun r2 =>
    if r2.toInt = (-1) then (
      post ((0 : Int32))
    ) else (
      post ((1 : Int32))
    )
  )
def wX5_mayHold_18 (o0 : Nat) (p1 : Int32) (p2 : Int32) (p3 : Int32)  (post : Int32 → Prop) : Nat → SG → NU → Int32 → Prop
  | 0, _, _, _ => False
  | n + 1, σ, ν, x4 =>
    if x4.toInt < 20 then (
      if x4.toInt = p3.toInt then (
        wX5_mayHold_18 o0 p1 p2 p3 post n σ ν (x4 + (1 : Int32))
      ) else (
        o0 < 2 ∧
        vp_in x4 20 ∧
        if (σ 14 o0 x4.toNatClampNeg).toInt = p2.toInt then (
          vp_in x4 20 ∧
          if (σ 15 o0 x4.toNatClampNeg).toInt = p1.toInt then (
            post ((0 : Int32))
          ) else (
            wX5_mayHold_18 o0 p1 p2 p3 post n σ ν (x4 + (1 : Int32))
          )
        ) else (
          wX5_mayHold_18 o0 p1 p2 p3 post n σ ν (x4 + (1 : Int32))
        )
      )
    ) else (
      post ((1 : Int32))
    )
def wpX5_mayHold (σ : SG) (ν : NU) (o0 : Nat) (p1 : Int32) (p2 : Int32) (p3 : Int32) (post : Int32 → Prop) : Prop :=
  if p1.toInt = (-1) then (
    ∃ f, wX5_mayHold_18 o0 p1 p2 p3 post f σ ν ((0 : Int32))
  ) else (
    o0 < 2 ∧
    wpX5_isThere σ ν o0 p1 (fun r11 =>
      if r11.toInt = 0 then (
        post ((0 : Int32))
      ) else (
        ∃ f, wX5_mayHold_18 o0 p1 p2 p3 post f σ ν ((0 : Int32))
      )
    )
  )
def wX4_splice_82 (o0 : Nat) (p1 : Int32) (p2 : Int32) (o3 : Nat) (p4 : Int32)  (post : Int32 → SG → Prop) : Nat → SG → NU → Int32 → Int32 → Int32 → Prop
  | 0, _, _, _, _, _ => False
  | n + 1, a1, ν, x5, x6, x7 =>
    o3 < 2 * ν 99 0 0 ∧
    if x7.toInt < (a1 4 o3 1).toInt then (
      o0 < 42 ∧
      vp_in x7 4 ∧
      vp_in (p1 + x7) 12 ∧
      ∀ t21 : SG, t21 = u3 a1 20 o0 (p1 + x7).toNatClampNeg (a1 22 o3 x7.toNatClampNeg) →
      vp_in (p1 + x7) 12 ∧
      ∀ t24 : SG, t24 = u3 t21 21 o0 (p1 + x7).toNatClampNeg p4 →
      wX4_splice_82 o0 p1 p2 o3 p4 post n t24 ν x5 x6 (x7 + (1 : Int32))
    ) else (
      o0 < 42 ∧
      ∀ t16 : SG, t16 = u3 a1 2 o0 2 (x6 + x5) →
      post ((1 : Int32)) t16
    )
def wpX4_splice (σ : SG) (ν : NU) (o0 : Nat) (p1 : Int32) (p2 : Int32) (o3 : Nat) (p4 : Int32) (post : Int32 → SG → Prop) : Prop :=
  o0 < 42 ∧
  o3 < 2 * ν 99 0 0 ∧
  if p1.toInt < 0 then (
    post ((0 : Int32)) σ
  ) else (
    if p2.toInt < 0 then (
      post ((0 : Int32)) σ
    ) else (
      if (((σ 2 o0 2) - p1) - p2).toInt < 0 then (
        post ((0 : Int32)) σ
      ) else (
        if ((p1 + (σ 4 o3 1)) + (((σ 2 o0 2) - p1) - p2)).toInt ≤ 12 then (
          (¬ (p1 + p2).toInt < 0 ∧ ¬ (p1 + (σ 4 o3 1)).toInt < 0 ∧ ¬ (((σ 2 o0 2) - p1) - p2).toInt < 0 ∧ (p1 + p2).toNatClampNeg + (((σ 2 o0 2) - p1) - p2).toNatClampNeg ≤ 12 ∧ (p1 + (σ 4 o3 1)).toNatClampNeg + (((σ 2 o0 2) - p1) - p2).toNatClampNeg ≤ 12) ∧
          ∀ t8 : SG, t8 = r3 σ 20 o0 (va_cpy (σ 20 o0) (σ 20 o0) (p1 + p2).toNatClampNeg (p1 + (σ 4 o3 1)).toNatClampNeg (((σ 2 o0 2) - p1) - p2).toNatClampNeg) →
          (¬ (p1 + p2).toInt < 0 ∧ ¬ (p1 + (σ 4 o3 1)).toInt < 0 ∧ ¬ (((σ 2 o0 2) - p1) - p2).toInt < 0 ∧ (p1 + p2).toNatClampNeg + (((σ 2 o0 2) - p1) - p2).toNatClampNeg ≤ 12 ∧ (p1 + (σ 4 o3 1)).toNatClampNeg + (((σ 2 o0 2) - p1) - p2).toNatClampNeg ≤ 12) ∧
          ∀ t11 : SG, t11 = r3 t8 21 o0 (va_cpy (t8 21 o0) (t8 21 o0) (p1 + p2).toNatClampNeg (p1 + (σ 4 o3 1)).toNatClampNeg (((σ 2 o0 2) - p1) - p2).toNatClampNeg) →
          ∃ f, wX4_splice_82 o0 p1 p2 o3 p4 post f t11 ν (((σ 2 o0 2) - p1) - p2) (p1 + (σ 4 o3 1)) ((0 : Int32))
        ) else (
          post ((0 : Int32)) σ
        )
      )
    )
  )
def wpX4_begin (σ : SG) (ν : NU) (o0 : Nat) (o1 : Nat) (p2 : Int32) (post : Int32 → SG → Prop) : Prop :=
  o0 < 42 ∧
  ∀ t2 : SG, t2 = u3 σ 2 o0 2 ((0 : Int32)) →
  wpX4_splice t2 ν o0 ((0 : Int32)) ((0 : Int32)) o1 p2 (fun r4 t5 =>
    (r4 = 0 ∨ r4 = 1) ∧
    post r4 t5
  )
def wX4_holdsAt_22 (o0 : Nat) (o1 : Nat) (p2 : Int32)  (post : Int32 → Prop) : Nat → SG → NU → Int32 → Prop
  | 0, _, _, _ => False
  | n + 1, σ, ν, x3 =>
    o1 < 2 * ν 99 0 0 ∧
    if x3.toInt < (σ 4 o1 1).toInt then (
      o0 < 42 ∧
      vp_in (p2 + x3) 12 ∧
      vp_in x3 4 ∧
      if (σ 20 o0 (p2 + x3).toNatClampNeg).toInt = (σ 22 o1 x3.toNatClampNeg).toInt then (
        wX4_holdsAt_22 o0 o1 p2 post n σ ν (x3 + (1 : Int32))
      ) else (
        post ((0 : Int32))
      )
    ) else (
      post ((1 : Int32))
    )
def wpX4_holdsAt (σ : SG) (ν : NU) (o0 : Nat) (o1 : Nat) (p2 : Int32) (post : Int32 → Prop) : Prop :=
  if p2.toInt < 0 then (
    post ((0 : Int32))
  ) else (
    o1 < 2 * ν 99 0 0 ∧
    o0 < 42 ∧
    if (p2 + (σ 4 o1 1)).toInt ≤ 12 then (
      ∃ f, wX4_holdsAt_22 o0 o1 p2 post f σ ν ((0 : Int32))
    ) else (
      post ((0 : Int32))
    )
  )
def wX4_find_2 (o0 : Nat) (o1 : Nat) (p2 : Int32)  (post : Int32 → Prop) : Nat → SG → NU → Int32 → Prop
  | 0, _, _, _ => False
  | n + 1, σ, ν, x3 =>
    o1 < 2 * ν 99 0 0 ∧
    o0 < 42 ∧
    if (x3 + (σ 4 o1 1)).toInt ≤ (σ 2 o0 2).toInt then (
      wpX4_holdsAt σ ν o0 o1 x3 (fun r4 =>
        if r4.toInt = 0 then (
          wX4_find_2 o0 o1 p2 post n σ ν (x3 + (1 : Int32))
        ) else (
          post x3
        )
      )
    ) else (
      post ((-1 : Int32))
    )
def wpX4_find (σ : SG) (ν : NU) (o0 : Nat) (o1 : Nat) (p2 : Int32) (post : Int32 → Prop) : Prop :=
  ∃ f, wX4_find_2 o0 o1 p2 post f σ ν p2
def wpX4_insert (σ : SG) (ν : NU) (o0 : Nat) (o1 : Nat) (o2 : Nat) (p3 : Int32) (post : Int32 → SG → Prop) : Prop :=
  o1 < 2 * ν 99 0 0 ∧
  if (σ 4 o1 1).toInt = 0 then (
    o0 < 42 ∧
    wpX4_splice σ ν o0 (σ 2 o0 2) ((0 : Int32)) o2 p3 (fun r10 t11 =>
      (r10 = 0 ∨ r10 = 1) ∧
      post r10 t11
    )
  ) else (
    o0 < 42 ∧
    wpX4_find σ ν o0 o1 ((0 : Int32)) (fun r4 =>
      if r4.toInt = (-1) then (
        post ((0 : Int32)) σ
      ) else (
        wpX4_splice σ ν o0 (r4 + (σ 4 o1 1)) ((0 : Int32)) o2 p3 (fun r6 t7 =>
          if r6.toInt = 0 then (
            post ((0 : Int32)) t7
          ) else (
            post ((1 : Int32)) t7
          )
        )
      )
    )
  )
def wX4_substitute_85 (o0 : Nat) (o1 : Nat) (o2 : Nat) (p3 : Int32)  (post : Int32 → SG → Prop) : Nat → SG → NU → Int32 → Int32 → Int32 → Prop
  | 0, _, _, _, _, _ => False
  | n + 1, a1, ν, x4, x6, x7 =>
    if x7.toInt < x4.toInt then (
      o0 < 42 ∧
      wpX4_find a1 ν o0 o1 x6 (fun r11 =>
        o1 < 2 * ν 99 0 0 ∧
        wpX4_splice a1 ν o0 r11 (a1 4 o1 1) o2 p3 (fun r13 t14 =>
          o2 < 2 * ν 99 0 0 ∧
          wX4_substitute_85 o0 o1 o2 p3 post n t14 ν x4 (r11 + (t14 4 o2 1)) (x7 + (1 : Int32))
        )
      )
    ) else (
      post ((1 : Int32)) a1
    )
def jX4_substitute_50 (o0 : Nat) (o1 : Nat) (o2 : Nat) (p3 : Int32)  (post : Int32 → SG → Prop) (a1 : SG) (ν : NU) (x4 : Int32) : Prop :=
  if x4.toInt = 0 then (
    post ((0 : Int32)) a1
  ) else (
    o0 < 42 ∧
    o2 < 2 * ν 99 0 0 ∧
    o1 < 2 * ν 99 0 0 ∧
    if ((a1 2 o0 2) + (x4 * ((a1 4 o2 1) - (a1 4 o1 1)))).toInt ≤ 12 then (
      ∃ f, wX4_substitute_85 o0 o1 o2 p3 post f a1 ν x4 ((0 : Int32)) ((0 : Int32))
    ) else (
      post ((0 : Int32)) a1
    )
  )
def wX4_substitute_14 (o0 : Nat) (o1 : Nat) (o2 : Nat) (p3 : Int32)  (post : Int32 → SG → Prop) : Nat → SG → NU → Int32 → Int32 → Int32 → Prop
  | 0, _, _, _, _, _ => False
  | n + 1, a1, ν, x4, x5, x6 =>
    if x6.toInt < 12 then (
      if x5.toInt = (-1) then (
        jX4_substitute_50 o0 o1 o2 p3 post a1 ν x4
      ) else (
        o1 < 2 * ν 99 0 0 ∧
        o0 < 42 ∧
        wpX4_find a1 ν o0 o1 (x5 + (a1 4 o1 1)) (fun r20 =>
          wX4_substitute_14 o0 o1 o2 p3 post n a1 ν (x4 + (1 : Int32)) r20 (x6 + (1 : Int32))
        )
      )
    ) else (
      jX4_substitute_50 o0 o1 o2 p3 post a1 ν x4
    )
def wpX4_substitute (σ : SG) (ν : NU) (o0 : Nat) (o1 : Nat) (o2 : Nat) (p3 : Int32) (post : Int32 → SG → Prop) : Prop :=
  o0 < 42 ∧
  wpX4_find σ ν o0 o1 ((0 : Int32)) (fun r2 =>
    ∃ f, wX4_substitute_14 o0 o1 o2 p3 post f σ ν ((0 : Int32)) r2 ((0 : Int32))
  )
def wpX4_omit (σ : SG) (ν : NU) (o0 : Nat) (o1 : Nat) (post : Int32 → SG → Prop) : Prop :=
  o0 < 42 ∧
  wpX4_find σ ν o0 o1 ((0 : Int32)) (fun r2 =>
    if r2.toInt = (-1) then (
      post ((0 : Int32)) σ
    ) else (
      ∀ t4 : SG, t4 = u3 σ 2 o0 2 r2 →
      post ((1 : Int32)) t4
    )
  )
def wpX5_reword (σ : SG) (ν : NU) (o0 : Nat) (o1 : Nat) (o2 : Nat) (post : Int32 → SG → Prop) : Prop :=
  o0 < 2 ∧
  wpX5_freshOf σ ν o0 o1 (fun r2 =>
    o1 < ν 99 0 0 ∧
    if (σ 3 o1 3).toInt = 0 then (
      o2 < 42 ∧
      wpX4_begin σ ν o2 r2 (σ 3 o1 0) (fun r6 t7 =>
        (r6 = 0 ∨ r6 = 1) ∧
        post r6 t7
      )
    ) else (
    if (σ 3 o1 3).toInt = 1 then (
      o2 < 42 ∧
      wpX4_insert σ ν o2 (2 * o1) r2 (σ 3 o1 0) (fun r11 t12 =>
        (r11 = 0 ∨ r11 = 1) ∧
        post r11 t12
      )
    ) else (
    if (σ 3 o1 3).toInt = 2 then (
      o2 < 42 ∧
      wpX4_substitute σ ν o2 (2 * o1) r2 (σ 3 o1 0) (fun r16 t17 =>
        (r16 = 0 ∨ r16 = 1) ∧
        post r16 t17
      )
    ) else (
    if (σ 3 o1 3).toInt = 3 then (
      o2 < 42 ∧
      wpX4_omit σ ν o2 (2 * o1) (fun r21 t22 =>
        (r21 = 0 ∨ r21 = 1) ∧
        post r21 t22
      )
    ) else (
      post ((1 : Int32)) σ
    ))))
  )
def wpX5_setUp (σ : SG) (ν : NU) (o0 : Nat) (o1 : Nat) (post : Int32 → SG → Prop) : Prop :=
  o1 < ν 99 0 0 ∧
  if (σ 3 o1 4).toInt < 0 then (
    post ((0 : Int32)) σ
  ) else (
    if (σ 3 o1 4).toInt < 20 then (
      o0 < 2 ∧
      wpX5_mayHold σ ν o0 (σ 3 o1 5) (σ 3 o1 6) (σ 3 o1 4) (fun r5 =>
        if r5.toInt = 0 then (
          post ((0 : Int32)) σ
        ) else (
          vp_in (σ 3 o1 4) 20 ∧
          ∀ t8 : SG, t8 = u3 σ 14 o0 (σ 3 o1 4).toNatClampNeg (σ 3 o1 6) →
          vp_in (σ 3 o1 4) 20 ∧
          ∀ t11 : SG, t11 = u3 t8 15 o0 (σ 3 o1 4).toNatClampNeg (t8 3 o1 5) →
          vp_in (σ 3 o1 4) 20 ∧
          wpX5_reword t11 ν o0 o1 (21 * o0 + 1 + (σ 3 o1 4).toNatClampNeg) (fun r15 t16 =>
            (r15 = 0 ∨ r15 = 1) ∧
            post r15 t16
          )
        )
      )
    ) else (
      post ((0 : Int32)) σ
    )
  )
def wpX5_outerOf (σ : SG) (ν : NU) (o0 : Nat) (p1 : Int32) (post : Int32 → Prop) : Prop :=
  if p1.toInt < 0 then (
    post ((-1 : Int32))
  ) else (
    o0 < 2 ∧
    if p1.toInt < 20 then (
      vp_in p1 20 ∧
      post (σ 15 o0 p1.toNatClampNeg)
    ) else (
      post ((-1 : Int32))
    )
  )
def wpX5_renumber (σ : SG) (ν : NU) (o0 : Nat) (o1 : Nat) (post : Int32 → SG → Prop) : Prop :=
  o1 < ν 99 0 0 ∧
  o0 < 2 ∧
  wpX5_isThere σ ν o0 (σ 3 o1 4) (fun r3 =>
    if r3.toInt = 0 then (
      post ((0 : Int32)) σ
    ) else (
      wpX5_outerOf σ ν o0 (σ 3 o1 4) (fun r5 =>
        wpX5_mayHold σ ν o0 r5 (σ 3 o1 6) (σ 3 o1 4) (fun r6 =>
          if r6.toInt = 0 then (
            post ((0 : Int32)) σ
          ) else (
            vp_in (σ 3 o1 4) 20 ∧
            ∀ t9 : SG, t9 = u3 σ 14 o0 (σ 3 o1 4).toNatClampNeg (σ 3 o1 6) →
            post ((1 : Int32)) t9
          )
        )
      )
    )
  )
def wX5_isWithin_5 (o0 : Nat) (p1 : Int32) (p2 : Int32)  (post : Int32 → Prop) : Nat → SG → NU → Int32 → Int32 → Prop
  | 0, _, _, _, _ => False
  | n + 1, σ, ν, x3, x4 =>
    if x4.toInt < 20 then (
      if x3.toInt = (-1) then (
        post ((0 : Int32))
      ) else (
        if x3.toInt = p2.toInt then (
          post ((1 : Int32))
        ) else (
          o0 < 2 ∧
          wpX5_outerOf σ ν o0 x3 (fun r5 =>
            wX5_isWithin_5 o0 p1 p2 post n σ ν r5 (x4 + (1 : Int32))
          )
        )
      )
    ) else (
      post ((0 : Int32))
    )
def wpX5_isWithin (σ : SG) (ν : NU) (o0 : Nat) (p1 : Int32) (p2 : Int32) (post : Int32 → Prop) : Prop :=
  ∃ f, wX5_isWithin_5 o0 p1 p2 post f σ ν p1 ((0 : Int32))
def wpX5_shift (σ : SG) (ν : NU) (o0 : Nat) (o1 : Nat) (post : Int32 → SG → Prop) : Prop :=
  o1 < ν 99 0 0 ∧
  o0 < 2 ∧
  wpX5_isThere σ ν o0 (σ 3 o1 4) (fun r3 =>
    if r3.toInt = 0 then (
      post ((0 : Int32)) σ
    ) else (
      wpX5_isWithin σ ν o0 (σ 3 o1 5) (σ 3 o1 4) (fun r5 =>
        if r5.toInt = 0 then (
          wpX5_labelOf σ ν o0 (σ 3 o1 4) (fun r7 =>
            wpX5_mayHold σ ν o0 (σ 3 o1 5) r7 (σ 3 o1 4) (fun r8 =>
              if r8.toInt = 0 then (
                post ((0 : Int32)) σ
              ) else (
                vp_in (σ 3 o1 4) 20 ∧
                ∀ t11 : SG, t11 = u3 σ 15 o0 (σ 3 o1 4).toNatClampNeg (σ 3 o1 5) →
                post ((1 : Int32)) t11
              )
            )
          )
        ) else (
          post ((0 : Int32)) σ
        )
      )
    )
  )
def wX5_remove_12 (o0 : Nat) (p1 : Int32)  (post : Int32 → SG → Prop) : Nat → SG → NU → Int32 → Prop
  | 0, _, _, _ => False
  | n + 1, a1, ν, x2 =>
    if x2.toInt < 20 then (
      o0 < 2 ∧
      wpX5_isWithin a1 ν o0 x2 p1 (fun r6 =>
        if r6.toInt = 0 then (
          wX5_remove_12 o0 p1 post n a1 ν (x2 + (1 : Int32))
        ) else (
          vp_in x2 20 ∧
          ∀ t9 : SG, t9 = u3 a1 14 o0 x2.toNatClampNeg ((-1 : Int32)) →
          wX5_remove_12 o0 p1 post n t9 ν (x2 + (1 : Int32))
        )
      )
    ) else (
      post ((1 : Int32)) a1
    )
def wpX5_remove (σ : SG) (ν : NU) (o0 : Nat) (p1 : Int32) (post : Int32 → SG → Prop) : Prop :=
  o0 < 2 ∧
  wpX5_isThere σ ν o0 p1 (fun r2 =>
    if r2.toInt = 0 then (
      post ((0 : Int32)) σ
    ) else (
      ∃ f, wX5_remove_12 o0 p1 post f σ ν ((0 : Int32))
    )
  )
def wpX5_retell (σ : SG) (ν : NU) (o0 : Nat) (o1 : Nat) (post : Int32 → SG → NU → Prop) : Prop :=
  o1 < ν 99 0 0 ∧
  if (σ 3 o1 4).toInt < 0 then (
    post ((0 : Int32)) σ ν
  ) else (
    if (σ 3 o1 4).toInt < 40 then (
      o0 < 2 ∧
      vp_in (σ 3 o1 4) 40 ∧
      if (σ 12 o0 (σ 3 o1 4).toNatClampNeg).toInt = 0 then (
        vp_in (σ 3 o1 4) 40 ∧
        ∀ vv8 : NU, vv8 = u3 ν 13 o0 (σ 3 o1 4).toNatClampNeg ((2 * o1 + 1) + 1) →
        post ((1 : Int32)) σ vv8
      ) else (
        post ((0 : Int32)) σ ν
      )
    ) else (
      post ((0 : Int32)) σ ν
    )
  )
def wpX5_carryOut (σ : SG) (ν : NU) (o0 : Nat) (o1 : Nat) (post : Int32 → SG → NU → Prop) : Prop :=
  o1 < ν 99 0 0 ∧
  if (σ 3 o1 3).toInt = 0 then (
    o0 < 2 ∧
    wpX5_setUp σ ν o0 o1 (fun r4 t5 =>
      (r4 = 0 ∨ r4 = 1) ∧
      post r4 t5 ν
    )
  ) else (
  if (σ 3 o1 3).toInt = 1 then (
    o0 < 2 ∧
    wpX5_isThere σ ν o0 (σ 3 o1 4) (fun r9 =>
      if r9.toInt = 0 then (
        post ((0 : Int32)) σ ν
      ) else (
        vp_in (σ 3 o1 4) 20 ∧
        wpX5_reword σ ν o0 o1 (21 * o0 + 1 + (σ 3 o1 4).toNatClampNeg) (fun r13 t14 =>
          if r13.toInt = 0 then (
            post ((0 : Int32)) t14 ν
          ) else (
            post ((1 : Int32)) t14 ν
          )
        )
      )
    )
  ) else (
  if (σ 3 o1 3).toInt = 2 then (
    o0 < 2 ∧
    wpX5_isThere σ ν o0 (σ 3 o1 4) (fun r18 =>
      if r18.toInt = 0 then (
        post ((0 : Int32)) σ ν
      ) else (
        vp_in (σ 3 o1 4) 20 ∧
        wpX5_reword σ ν o0 o1 (21 * o0 + 1 + (σ 3 o1 4).toNatClampNeg) (fun r22 t23 =>
          if r22.toInt = 0 then (
            post ((0 : Int32)) t23 ν
          ) else (
            post ((1 : Int32)) t23 ν
          )
        )
      )
    )
  ) else (
  if (σ 3 o1 3).toInt = 3 then (
    o0 < 2 ∧
    wpX5_isThere σ ν o0 (σ 3 o1 4) (fun r27 =>
      if r27.toInt = 0 then (
        post ((0 : Int32)) σ ν
      ) else (
        vp_in (σ 3 o1 4) 20 ∧
        wpX5_reword σ ν o0 o1 (21 * o0 + 1 + (σ 3 o1 4).toNatClampNeg) (fun r31 t32 =>
          if r31.toInt = 0 then (
            post ((0 : Int32)) t32 ν
          ) else (
            post ((1 : Int32)) t32 ν
          )
        )
      )
    )
  ) else (
  if (σ 3 o1 3).toInt = 4 then (
    o0 < 2 ∧
    wpX5_renumber σ ν o0 o1 (fun r36 t37 =>
      (r36 = 0 ∨ r36 = 1) ∧
      post r36 t37 ν
    )
  ) else (
  if (σ 3 o1 3).toInt = 5 then (
    o0 < 2 ∧
    wpX5_shift σ ν o0 o1 (fun r41 t42 =>
      (r41 = 0 ∨ r41 = 1) ∧
      post r41 t42 ν
    )
  ) else (
  if (σ 3 o1 3).toInt = 6 then (
    o0 < 2 ∧
    wpX5_remove σ ν o0 (σ 3 o1 4) (fun r46 t47 =>
      (r46 = 0 ∨ r46 = 1) ∧
      post r46 t47 ν
    )
  ) else (
  if (σ 3 o1 3).toInt = 7 then (
    o0 < 2 ∧
    wpX5_retell σ ν o0 o1 (fun r51 t52 vv53 =>
      (r51 = 0 ∨ r51 = 1) ∧
      post r51 t52 vv53
    )
  ) else (
    o0 < 2 ∧
    wpX5_isThere σ ν o0 (σ 3 o1 4) (fun r57 =>
      if r57.toInt = 0 then (
        post ((0 : Int32)) σ ν
      ) else (
        vp_in (σ 3 o1 4) 20 ∧
        wpX5_reword σ ν o0 o1 (21 * o0 + 1 + (σ 3 o1 4).toNatClampNeg) (fun r61 t62 =>
          if r61.toInt = 0 then (
            post ((0 : Int32)) t62 ν
          ) else (
            post ((1 : Int32)) t62 ν
          )
        )
      )
    )
  ))))))))
def wpX5_rank (σ : SG) (ν : NU) (p0 : Int32) (post : Int32 → Prop) : Prop :=
  if (p0 - p0 / ((1000 : Int32)) * ((1000 : Int32))).toInt < 27 then (
    post ((p0 - (p0 - p0 / ((1000 : Int32)) * ((1000 : Int32)))) + ((p0 - p0 / ((1000 : Int32)) * ((1000 : Int32))) * ((27 : Int32))))
  ) else (
    post ((p0 - (p0 - p0 / ((1000 : Int32)) * ((1000 : Int32)))) + (p0 - p0 / ((1000 : Int32)) * ((1000 : Int32))))
  )
def jX5_innerBehind_67 (o0 : Nat) (p1 : Int32) (p2 : Int32) (κ8 : SG → NU → Int32 → Int32 → Int32 → Prop) (post : Int32 → Prop) (σ : SG) (ν : NU) (x5 : Int32) (x6 : Int32) : Prop :=
  κ8 σ ν x5 x6 (x5 + (1 : Int32))
def wX5_innerBehind_8 (o0 : Nat) (p1 : Int32) (p2 : Int32)  (post : Int32 → Prop) : Nat → SG → NU → Int32 → Int32 → Int32 → Prop
  | 0, _, _, _, _, _ => False
  | n + 1, σ, ν, x3, x4, x5 =>
    if x5.toInt < 20 then (
      o0 < 2 ∧
      vp_in x5 20 ∧
      wpX5_rank σ ν (σ 14 o0 x5.toNatClampNeg) (fun r4 =>
        vp_in x5 20 ∧
        if (σ 14 o0 x5.toNatClampNeg).toInt = (-1) then (
          wX5_innerBehind_8 o0 p1 p2 post n σ ν x3 x4 (x5 + (1 : Int32))
        ) else (
          vp_in x5 20 ∧
          if (σ 15 o0 x5.toNatClampNeg).toInt = p1.toInt then (
            if r4.toInt ≤ p2.toInt then (
              wX5_innerBehind_8 o0 p1 p2 post n σ ν x3 x4 (x5 + (1 : Int32))
            ) else (
              if x3.toInt = (-1) then (
                jX5_innerBehind_67 o0 p1 p2 (wX5_innerBehind_8 o0 p1 p2 post n) post σ ν x5 r4
              ) else (
                if r4.toInt < x4.toInt then (
                  jX5_innerBehind_67 o0 p1 p2 (wX5_innerBehind_8 o0 p1 p2 post n) post σ ν x5 r4
                ) else (
                  wX5_innerBehind_8 o0 p1 p2 post n σ ν x3 x4 (x5 + (1 : Int32))
                )
              )
            )
          ) else (
            wX5_innerBehind_8 o0 p1 p2 post n σ ν x3 x4 (x5 + (1 : Int32))
          )
        )
      )
    ) else (
      post x3
    )
def wpX5_innerBehind (σ : SG) (ν : NU) (o0 : Nat) (p1 : Int32) (p2 : Int32) (post : Int32 → Prop) : Prop :=
  ∃ f, wX5_innerBehind_8 o0 p1 p2 post f σ ν ((-1 : Int32)) ((-1 : Int32)) ((0 : Int32))
def jX5_listInOrder_67 (o0 : Nat) (κ6 : SG → NU → Int32 → Int32 → Int32 → Prop) (post : SG → Prop) (a1 : SG) (ν : NU) (x1 : Int32) (x3 : Int32) : Prop :=
  if x1.toInt = (-1) then (
    post a1
  ) else (
    o0 < 2 ∧
    wpX5_labelOf a1 ν o0 x1 (fun r7 =>
      wpX5_rank a1 ν r7 (fun r8 =>
        wpX5_outerOf a1 ν o0 x1 (fun r9 =>
          κ6 a1 ν r9 r8 (x3 + (1 : Int32))
        )
      )
    )
  )
def wX5_listInOrder_6 (o0 : Nat)  (post : SG → Prop) : Nat → SG → NU → Int32 → Int32 → Int32 → Prop
  | 0, _, _, _, _, _ => False
  | n + 1, a1, ν, x1, x2, x3 =>
    if x3.toInt ≤ 40 then (
      o0 < 2 ∧
      wpX5_innerBehind a1 ν o0 x1 x2 (fun r3 =>
        if r3.toInt = (-1) then (
          jX5_listInOrder_67 o0 (wX5_listInOrder_6 o0 post n) post a1 ν x1 x3
        ) else (
          if (a1 1 o0 9).toInt < 20 then (
            vp_in (a1 1 o0 9) 20 ∧
            ∀ t12 : SG, t12 = u3 a1 18 o0 (a1 1 o0 9).toNatClampNeg r3 →
            ∀ t14 : SG, t14 = u3 t12 1 o0 9 ((t12 1 o0 9) + ((1 : Int32))) →
            wX5_listInOrder_6 o0 post n t14 ν r3 ((-1 : Int32)) (x3 + (1 : Int32))
          ) else (
            jX5_listInOrder_67 o0 (wX5_listInOrder_6 o0 post n) post a1 ν x1 x3
          )
        )
      )
    ) else (
      post a1
    )
def wpX5_listInOrder (σ : SG) (ν : NU) (o0 : Nat) (post : SG → Prop) : Prop :=
  ∃ f, wX5_listInOrder_6 o0 post f σ ν ((-1 : Int32)) ((-1 : Int32)) ((0 : Int32))
def wX5_build_73 (o0 : Nat) (o1 : Nat)  (post : SG → NU → Prop) : Nat → SG → NU → Int32 → Prop
  | 0, _, _, _ => False
  | n + 1, a1, a2, x2 =>
    o0 < 2 ∧
    wpJx4a65c_size_8abf5 a1 a2 (1 + o0) (fun r9 =>
      if x2.toInt < r9.toInt then (
        wpJx4a65c_get_915e3 a1 a2 (1 + o0) x2 (fun r12 =>
          r12 < a2 99 0 0 ∧
          wpX5_carryOut a1 a2 o0 r12 (fun r14 t15 vv16 =>
            r12 < vv16 99 0 0 ∧
            if (t15 3 r12 0).toInt < 0 then (
              wX5_build_73 o0 o1 post n t15 vv16 (x2 + (1 : Int32))
            ) else (
              if (t15 3 r12 0).toInt < 40 then (
                if r14.toInt = 0 then (
                  vp_in (t15 3 r12 0) 40 ∧
                  ∀ t23 : SG, t23 = u3 t15 12 o0 (t15 3 r12 0).toNatClampNeg ((2 : Int32)) →
                  wX5_build_73 o0 o1 post n t23 vv16 (x2 + (1 : Int32))
                ) else (
                  vp_in (t15 3 r12 0) 40 ∧
                  ∀ t26 : SG, t26 = u3 t15 12 o0 (t15 3 r12 0).toNatClampNeg ((1 : Int32)) →
                  wX5_build_73 o0 o1 post n t26 vv16 (x2 + (1 : Int32))
                )
              ) else (
                wX5_build_73 o0 o1 post n t15 vv16 (x2 + (1 : Int32))
              )
            )
          )
        )
      ) else (
        wpX5_listInOrder a1 a2 o0 (fun t11 =>
          post t11 a2
        )
      )
    )
def wX5_build_6 (o0 : Nat) (o1 : Nat)  (post : SG → NU → Prop) : Nat → SG → NU → Int32 → Prop
  | 0, _, _, _ => False
  | n + 1, a1, a2, x2 =>
    o1 < 3 ∧
    wpJx4a65c_size_8abf5 a1 a2 o1 (fun r6 =>
      if x2.toInt < r6.toInt then (
        if x2.toInt < 40 then (
          wpJx4a65c_get_915e3 a1 a2 o1 x2 (fun r31 =>
            r31 < a2 99 0 0 ∧
            o0 < 2 ∧
            wpX5_findBeginning a1 a2 o0 r31 (fun r34 =>
              vp_in x2 40 ∧
              ∀ t36 : SG, t36 = u3 a1 11 o0 x2.toNatClampNeg r34 →
              vp_in x2 40 ∧
              wpX5_isInEffect t36 a2 o0 r31 (t36 11 o0 x2.toNatClampNeg) (fun r39 =>
                if r39.toInt = 0 then (
                  wX5_build_6 o0 o1 post n t36 a2 (x2 + (1 : Int32))
                ) else (
                  vp_in x2 40 ∧
                  wpX5_takeTurn t36 a2 o0 r31 (t36 11 o0 x2.toNatClampNeg) (fun t42 vv43 =>
                    wX5_build_6 o0 o1 post n t42 vv43 (x2 + (1 : Int32))
                  )
                )
              )
            )
          )
        ) else (
          ∃ f, wX5_build_73 o0 o1 post f a1 a2 ((0 : Int32))
        )
      ) else (
        ∃ f, wX5_build_73 o0 o1 post f a1 a2 ((0 : Int32))
      )
    )
def wpX5_build (σ : SG) (ν : NU) (o0 : Nat) (o1 : Nat) (post : SG → NU → Prop) : Prop :=
  o0 < 2 ∧
  wpX5_clear σ ν o0 (fun t2 vv3 =>
    ∃ f, f ≤ 41 ∧ wX5_build_6 o0 o1 post f t2 vv3 ((0 : Int32))
  )
def wpX6_enact (σ : SG) (ν : NU) (p1 : Int32) (p2 : Int32) (p3 : Int32) (post : Int32 → SG → NU → Prop) (px : String → Prop) : Prop :=
  wpX6_needProvisionOrTop σ ν p1 (
    wpX6_needLabel σ ν p2 p3 (
      wpX6_needRoomInAct σ ν (
        if (σ 0 0 7).toInt < 20 then (
          ν 0 0 3 < ν 99 0 0 ∧
          2 * (ν 0 0 3) < 2 * ν 99 0 0 ∧
          if (σ 4 (2 * (ν 0 0 3)) 1).toInt ≤ 0 then (
            ∀ t5 : SG, t5 = u3 σ 3 (ν 0 0 3) 5 p1 →
            wpX6_joinLabel t5 ν p2 p3 (fun r7 =>
              ∀ t8 : SG, t8 = u3 t5 3 (ν 0 0 3) 6 r7 →
              wpX6_add t8 ν ((0 : Int32)) (t8 0 0 7) (fun t10 vv11 =>
                ∀ t15 : SG, t15 = u3 t10 0 0 7 ((t10 0 0 7) + ((1 : Int32))) →
                wpX5_build t15 vv11 0 0 (fun t17 vv18 =>
                  post ((t17 0 0 7) - ((1 : Int32))) t17 vv18
                )
              )
            )
          ) else (
            px "java/lang/IllegalStateException"
          )
        ) else (
          px "java/lang/IllegalStateException"
        )
      ) px
    ) px
  ) px
def wpX0_hasWordsFor (σ : SG) (ν : NU) (o0 : Nat) (p1 : Int32) (post : Int32 → Prop) : Prop :=
  if p1.toInt = 1 then (
    o0 < ν 99 0 0 ∧
    if (σ 4 (2 * o0 + 1) 1).toInt ≤ 0 then (
      post ((0 : Int32))
    ) else (
      post ((1 : Int32))
    )
  ) else (
  if p1.toInt = 2 then (
    o0 < ν 99 0 0 ∧
    if (σ 4 (2 * o0) 1).toInt ≤ 0 then (
      post ((0 : Int32))
    ) else (
      post ((1 : Int32))
    )
  ) else (
  if p1.toInt = 3 then (
    o0 < ν 99 0 0 ∧
    if (σ 4 (2 * o0) 1).toInt ≤ 0 then (
      post ((0 : Int32))
    ) else (
      if (σ 4 (2 * o0 + 1) 1).toInt = 0 then (
        post ((1 : Int32))
      ) else (
        post ((0 : Int32))
      )
    )
  ) else (
  if p1.toInt = 4 then (
    o0 < ν 99 0 0 ∧
    if (σ 4 (2 * o0) 1).toInt = 0 then (
      if (σ 4 (2 * o0 + 1) 1).toInt = 0 then (
        post ((1 : Int32))
      ) else (
        post ((0 : Int32))
      )
    ) else (
      post ((0 : Int32))
    )
  ) else (
  if p1.toInt = 5 then (
    o0 < ν 99 0 0 ∧
    if (σ 4 (2 * o0) 1).toInt = 0 then (
      if (σ 4 (2 * o0 + 1) 1).toInt = 0 then (
        post ((1 : Int32))
      ) else (
        post ((0 : Int32))
      )
    ) else (
      post ((0 : Int32))
    )
  ) else (
  if p1.toInt = 6 then (
    o0 < ν 99 0 0 ∧
    if (σ 4 (2 * o0) 1).toInt = 0 then (
      if (σ 4 (2 * o0 + 1) 1).toInt = 0 then (
        post ((1 : Int32))
      ) else (
        post ((0 : Int32))
      )
    ) else (
      post ((0 : Int32))
    )
  ) else (
  if p1.toInt = 7 then (
    o0 < ν 99 0 0 ∧
    if (σ 4 (2 * o0) 1).toInt = 0 then (
      post ((1 : Int32))
    ) else (
      post ((0 : Int32))
    )
  ) else (
    o0 < ν 99 0 0 ∧
    if (σ 4 (2 * o0) 1).toInt = 0 then (
      if (σ 4 (2 * o0 + 1) 1).toInt = 0 then (
        post ((1 : Int32))
      ) else (
        post ((0 : Int32))
      )
    ) else (
      post ((0 : Int32))
    )
  )))))))
def jX6_instruct_118 (p1 : Int32) (p2 : Int32) (p3 : Int32) (p4 : Int32)  (post : Int32 → SG → NU → Prop) (px : String → Prop) (a1 : SG) (a2 : NU) : Prop :=
  wpX6_add a1 a2 p1 p2 (fun t11 vv12 =>
    wpX5_build t11 vv12 0 0 (fun t16 vv17 =>
      wpJx4a65c_size_8abf5 t16 vv17 0 (fun r21 =>
        post (r21 - ((1 : Int32))) t16 vv17
      )
    )
  )
def jX6_instruct_100 (p1 : Int32) (p2 : Int32) (p3 : Int32) (p4 : Int32)  (post : Int32 → SG → NU → Prop) (px : String → Prop) (a1 : SG) (a2 : NU) : Prop :=
  if p1.toInt = 4 then (
    wpX6_joinLabel a1 a2 p3 p4 (fun r22 =>
      a2 0 0 3 < a2 99 0 0 ∧
      ∀ t24 : SG, t24 = u3 a1 3 (a2 0 0 3) 6 r22 →
      jX6_instruct_118 p1 p2 p3 p4 post px t24 a2
    )
  ) else (
    jX6_instruct_118 p1 p2 p3 p4 post px a1 a2
  )
def jX6_instruct_62 (p1 : Int32) (p2 : Int32) (p3 : Int32) (p4 : Int32)  (post : Int32 → SG → NU → Prop) (px : String → Prop) (σ : SG) (ν : NU) : Prop :=
  wpX6_needRoomInAct σ ν (
    ν 0 0 3 < ν 99 0 0 ∧
    wpX0_hasWordsFor σ ν (ν 0 0 3) p1 (fun r7 =>
      if r7.toInt = 0 then (
        px "java/lang/IllegalStateException"
      ) else (
        if p1.toInt = 5 then (
          ∀ t26 : SG, t26 = u3 σ 3 (ν 0 0 3) 5 p3 →
          jX6_instruct_100 p1 p2 p3 p4 post px t26 ν
        ) else (
          jX6_instruct_100 p1 p2 p3 p4 post px σ ν
        )
      )
    )
  ) px
def jX6_instruct_30 (p1 : Int32) (p2 : Int32) (p3 : Int32) (p4 : Int32)  (post : Int32 → SG → NU → Prop) (px : String → Prop) (σ : SG) (ν : NU) : Prop :=
  if p1.toInt < 1 then (
    px "java/lang/IllegalArgumentException"
  ) else (
    if p1.toInt ≤ 7 then (
      if p1.toInt = 4 then (
        wpX6_needLabel σ ν p3 p4 (
          jX6_instruct_62 p1 p2 p3 p4 post px σ ν
        ) px
      ) else (
        jX6_instruct_62 p1 p2 p3 p4 post px σ ν
      )
    ) else (
      px "java/lang/IllegalArgumentException"
    )
  )
def jX6_instruct_20 (p1 : Int32) (p2 : Int32) (p3 : Int32) (p4 : Int32)  (post : Int32 → SG → NU → Prop) (px : String → Prop) (σ : SG) (ν : NU) : Prop :=
  if p1.toInt = 5 then (
    wpX6_needProvisionOrTop σ ν p3 (
      jX6_instruct_30 p1 p2 p3 p4 post px σ ν
    ) px
  ) else (
    jX6_instruct_30 p1 p2 p3 p4 post px σ ν
  )
def wpX6_instruct (σ : SG) (ν : NU) (p1 : Int32) (p2 : Int32) (p3 : Int32) (p4 : Int32) (post : Int32 → SG → NU → Prop) (px : String → Prop) : Prop :=
  if p1.toInt = 7 then (
    wpX6_needInstruction σ ν p2 (fun r28 =>
      jX6_instruct_20 p1 p2 p3 p4 post px σ ν
    ) px
  ) else (
    wpX6_needProvision σ ν p2 (
      jX6_instruct_20 p1 p2 p3 p4 post px σ ν
    ) px
  )
def wpX1_give (σ : SG) (ν : NU) (o0 : Nat) (p1 : Int32) (p2 : Int32) (p3 : Int32) (post : SG → Prop) : Prop :=
  o0 < 3 * ν 99 0 0 ∧
  ∀ t2 : SG, t2 = u3 σ 6 o0 0 p1 →
  ∀ t4 : SG, t4 = u3 t2 6 o0 1 p2 →
  ∀ t6 : SG, t6 = u3 t4 6 o0 2 p3 →
  post t6
def wpX6_order (σ : SG) (ν : NU) (p1 : Int32) (p2 : Int32) (post : SG → NU → Prop) (px : String → Prop) : Prop :=
  wpX6_needInstruction σ ν p1 (fun r1 =>
    wpX6_needDay σ ν p2 (
      r1 < ν 99 0 0 ∧
      ν 3 r1 7 < ν 99 0 1 ∧
      if (σ 5 (ν 3 r1 7) 0).toInt = 1 then (
        wpX1_isGiven σ ν (3 * r1) (fun r5 =>
          if r5.toInt = 0 then (
            wpX1_give σ ν (3 * r1) (σ 0 0 4) p2 p2 (fun t7 =>
              wpX5_build t7 ν 0 0 (fun t8 vv9 =>
                post t8 vv9
              )
            )
          ) else (
            px "java/lang/IllegalStateException"
          )
        )
      ) else (
        px "java/lang/IllegalStateException"
      )
    ) px
  ) px
def wpX6_strike (σ : SG) (ν : NU) (p1 : Int32) (p2 : Int32) (post : SG → NU → Prop) (px : String → Prop) : Prop :=
  wpX6_needInstruction σ ν p1 (fun r1 =>
    wpX6_needDay σ ν p2 (
      r1 < ν 99 0 0 ∧
      wpX1_isGiven σ ν (3 * r1 + 1) (fun r3 =>
        if r3.toInt = 0 then (
          wpX1_give σ ν (3 * r1 + 1) (σ 0 0 4) p2 ((5000 : Int32)) (fun t5 =>
            wpX5_build t5 ν 0 0 (fun t6 vv7 =>
              post t6 vv7
            )
          )
        ) else (
          px "java/lang/IllegalStateException"
        )
      )
    ) px
  ) px
def wpX6_suspend (σ : SG) (ν : NU) (p1 : Int32) (p2 : Int32) (p3 : Int32) (post : SG → NU → Prop) (px : String → Prop) : Prop :=
  wpX6_needInstruction σ ν p1 (fun r1 =>
    wpX6_needDay σ ν p2 (
      wpX6_needDay σ ν p3 (
        if p3.toInt < p2.toInt then (
          px "java/lang/IllegalArgumentException"
        ) else (
          r1 < ν 99 0 0 ∧
          wpX1_isGiven σ ν (3 * r1 + 2) (fun r4 =>
            if r4.toInt = 0 then (
              wpX1_give σ ν (3 * r1 + 2) (σ 0 0 4) p2 p3 (fun t6 =>
                wpX5_build t6 ν 0 0 (fun t7 vv8 =>
                  post t7 vv8
                )
              )
            ) else (
              px "java/lang/IllegalStateException"
            )
          )
        )
      ) px
    ) px
  ) px
def wpX5_turnTo (σ : SG) (ν : NU) (o0 : Nat) (p1 : Int32) (p2 : Int32) (p3 : Int32) (post : SG → Prop) : Prop :=
  o0 < 2 ∧
  ∀ t2 : SG, t2 = u3 σ 1 o0 10 p1 →
  ∀ t4 : SG, t4 = u3 t2 1 o0 11 p2 →
  ∀ t6 : SG, t6 = u3 t4 1 o0 12 p3 →
  post t6
def wpX6_look (σ : SG) (ν : NU) (p1 : Int32) (p2 : Int32) (p3 : Int32) (post : Int32 → SG → NU → Prop) (px : String → Prop) : Prop :=
  wpX6_needDay σ ν p1 (
    if p2.toInt < 0 then (
      px "java/lang/IllegalArgumentException"
    ) else (
      if p2.toInt ≤ (σ 0 0 4).toInt then (
        if p3.toInt < 0 then (
          px "java/lang/IllegalArgumentException"
        ) else (
          if p3.toInt ≤ 2 then (
            wpX5_turnTo σ ν 0 p1 p2 p3 (fun t5 =>
              wpX5_build t5 ν 0 0 (fun t6 vv7 =>
                post (t6 1 0 9) t6 vv7
              )
            )
          ) else (
            px "java/lang/IllegalArgumentException"
          )
        )
      ) else (
        px "java/lang/IllegalArgumentException"
      )
    )
  ) px
def wpX5_listedAt (σ : SG) (ν : NU) (o0 : Nat) (p1 : Int32) (post : Int32 → Prop) : Prop :=
  if p1.toInt < 0 then (
    post ((-1 : Int32))
  ) else (
    o0 < 2 ∧
    if p1.toInt < (σ 1 o0 9).toInt then (
      if p1.toInt < 20 then (
        vp_in p1 20 ∧
        post (σ 18 o0 p1.toNatClampNeg)
      ) else (
        post ((-1 : Int32))
      )
    ) else (
      post ((-1 : Int32))
    )
  )
def wpX6_provisionAt (σ : SG) (ν : NU) (p1 : Int32) (post : Int32 → Prop) (px : String → Prop) : Prop :=
  if p1.toInt < 0 then (
    px "java/lang/IndexOutOfBoundsException"
  ) else (
    wpX5_listedAt σ ν 0 p1 (fun r2 =>
      post r2
    )
  )
def wpX6_label (σ : SG) (ν : NU) (p1 : Int32) (post : Int32 → Prop) (px : String → Prop) : Prop :=
  wpX6_needProvision σ ν p1 (
    wpX5_labelOf σ ν 0 p1 (fun r1 =>
      post r1
    )
  ) px
def wpX6_parent (σ : SG) (ν : NU) (p1 : Int32) (post : Int32 → Prop) (px : String → Prop) : Prop :=
  wpX6_needProvision σ ν p1 (
    wpX5_isThere σ ν 0 p1 (fun r1 =>
      if r1.toInt = 0 then (
        post ((-1 : Int32))
      ) else (
        wpX5_outerOf σ ν 0 p1 (fun r3 =>
          post r3
        )
      )
    )
  ) px
def wpX5_countOf (σ : SG) (ν : NU) (o0 : Nat) (p1 : Int32) (post : Int32 → Prop) : Prop :=
  o0 < 2 ∧
  wpX5_isThere σ ν o0 p1 (fun r2 =>
    if r2.toInt = 0 then (
      post ((-1 : Int32))
    ) else (
      vp_in p1 20 ∧
      post (σ 2 (21 * o0 + 1 + p1.toNatClampNeg) 2)
    )
  )
def wpX6_words (σ : SG) (ν : NU) (p1 : Int32) (post : Int32 → Prop) (px : String → Prop) : Prop :=
  wpX6_needProvision σ ν p1 (
    wpX5_countOf σ ν 0 p1 (fun r1 =>
      post r1
    )
  ) px
def wpX6_needWord (σ : SG) (ν : NU) (p1 : Int32) (p2 : Int32) (post : Prop) (px : String → Prop) : Prop :=
  wpX6_needProvision σ ν p1 (
    if p2.toInt < 0 then (
      px "java/lang/IndexOutOfBoundsException"
    ) else (
      wpX5_countOf σ ν 0 p1 (fun r2 =>
        if p2.toInt < r2.toInt then (
          post
        ) else (
          px "java/lang/IndexOutOfBoundsException"
        )
      )
    )
  ) px
def wpX4_readAt (σ : SG) (ν : NU) (o0 : Nat) (p1 : Int32) (post : Int32 → Prop) : Prop :=
  if p1.toInt < 0 then (
    post ((-1 : Int32))
  ) else (
    o0 < 42 ∧
    if p1.toInt < (σ 2 o0 2).toInt then (
      if p1.toInt < 12 then (
        vp_in p1 12 ∧
        post (σ 20 o0 p1.toNatClampNeg)
      ) else (
        post ((-1 : Int32))
      )
    ) else (
      post ((-1 : Int32))
    )
  )
def wpX5_readAt (σ : SG) (ν : NU) (o0 : Nat) (p1 : Int32) (p2 : Int32) (post : Int32 → Prop) : Prop :=
  o0 < 2 ∧
  wpX5_isThere σ ν o0 p1 (fun r2 =>
    if r2.toInt = 0 then (
      post ((-1 : Int32))
    ) else (
      vp_in p1 20 ∧
      wpX4_readAt σ ν (21 * o0 + 1 + p1.toNatClampNeg) p2 (fun r6 =>
        post r6
      )
    )
  )
def wpX6_wordAt (σ : SG) (ν : NU) (p1 : Int32) (p2 : Int32) (post : Int32 → Prop) (px : String → Prop) : Prop :=
  wpX6_needWord σ ν p1 p2 (
    wpX5_readAt σ ν 0 p1 p2 (fun r1 =>
      post r1
    )
  ) px
def wpX0_isOf (σ : SG) (ν : NU) (o0 : Nat) (p1 : Int32) (post : Int32 → Prop) : Prop :=
  o0 < ν 99 0 0 ∧
  if (σ 3 o0 3).toInt = 7 then (
    post ((0 : Int32))
  ) else (
    if (σ 3 o0 4).toInt = p1.toInt then (
      post ((1 : Int32))
    ) else (
      post ((0 : Int32))
    )
  )
def wpX5_stateOf (σ : SG) (ν : NU) (o0 : Nat) (p1 : Int32) (post : Int32 → Prop) : Prop :=
  if p1.toInt < 0 then (
    post ((0 : Int32))
  ) else (
    o0 < 2 ∧
    if p1.toInt < 40 then (
      vp_in p1 40 ∧
      post (σ 12 o0 p1.toNatClampNeg)
    ) else (
      post ((0 : Int32))
    )
  )
def wX5_findAnew_12 (o0 : Nat) (p1 : Int32) (p2 : Int32)  (post : Int32 → SG → Prop) : Nat → SG → NU → Int32 → Prop
  | 0, _, _, _ => False
  | n + 1, a1, ν, x3 =>
    o0 < 2 ∧
    wpJx4a65c_size_8abf5 a1 ν (1 + o0) (fun r5 =>
      if x3.toInt < r5.toInt then (
        wpJx4a65c_get_915e3 a1 ν (1 + o0) x3 (fun r8 =>
          r8 < ν 99 0 0 ∧
          wpX0_isOf a1 ν r8 p1 (fun r10 =>
            if r10.toInt = 0 then (
              wX5_findAnew_12 o0 p1 p2 post n a1 ν (x3 + (1 : Int32))
            ) else (
              wpX5_stateOf a1 ν o0 (a1 3 r8 0) (fun r12 =>
                if r12.toInt = 1 then (
                  wpX5_reword a1 ν o0 r8 (21 * o0) (fun r14 t15 =>
                    wX5_findAnew_12 o0 p1 p2 post n t15 ν (x3 + (1 : Int32))
                  )
                ) else (
                  wX5_findAnew_12 o0 p1 p2 post n a1 ν (x3 + (1 : Int32))
                )
              )
            )
          )
        )
      ) else (
        wpX4_readAt a1 ν (21 * o0) p2 (fun r7 =>
          post r7 a1
        )
      )
    )
def wpX5_findAnew (σ : SG) (ν : NU) (o0 : Nat) (p1 : Int32) (p2 : Int32) (post : Int32 → SG → Prop) : Prop :=
  o0 < 2 ∧
  wpX5_isThere σ ν o0 p1 (fun r2 =>
    if r2.toInt = 0 then (
      post ((-1 : Int32)) σ
    ) else (
      ∃ f, wX5_findAnew_12 o0 p1 p2 post f σ ν ((0 : Int32))
    )
  )
def wpX6_wordAnew (σ : SG) (ν : NU) (p1 : Int32) (p2 : Int32) (post : Int32 → SG → Prop) (px : String → SG → Prop) : Prop :=
  wpX6_needProvision σ ν p1 (
    if p2.toInt < 0 then (
      px "java/lang/IndexOutOfBoundsException" σ
    ) else (
      wpX5_findAnew σ ν 0 p1 p2 (fun r2 t3 =>
        post r2 t3
      )
    )
  ) (fun E9 => px E9 σ)
def wpX4_sourceAt (σ : SG) (ν : NU) (o0 : Nat) (p1 : Int32) (post : Int32 → Prop) : Prop :=
  if p1.toInt < 0 then (
    post ((-1 : Int32))
  ) else (
    o0 < 42 ∧
    if p1.toInt < (σ 2 o0 2).toInt then (
      if p1.toInt < 12 then (
        vp_in p1 12 ∧
        post (σ 21 o0 p1.toNatClampNeg)
      ) else (
        post ((-1 : Int32))
      )
    ) else (
      post ((-1 : Int32))
    )
  )
def wpX5_sourceAt (σ : SG) (ν : NU) (o0 : Nat) (p1 : Int32) (p2 : Int32) (post : Int32 → Prop) : Prop :=
  o0 < 2 ∧
  wpX5_isThere σ ν o0 p1 (fun r2 =>
    if r2.toInt = 0 then (
      post ((-1 : Int32))
    ) else (
      vp_in p1 20 ∧
      wpX4_sourceAt σ ν (21 * o0 + 1 + p1.toNatClampNeg) p2 (fun r6 =>
        post r6
      )
    )
  )
def wpX6_origin (σ : SG) (ν : NU) (p1 : Int32) (p2 : Int32) (post : Int32 → Prop) (px : String → Prop) : Prop :=
  wpX6_needWord σ ν p1 p2 (
    wpX5_sourceAt σ ν 0 p1 p2 (fun r1 =>
      post r1
    )
  ) px
def wpX6_refers (σ : SG) (ν : NU) (p1 : Int32) (p2 : Int32) (post : Int32 → SG → NU → Prop) (px : String → Prop) : Prop :=
  wpX6_needWord σ ν p1 p2 (
    wpX5_readAt σ ν 0 p1 p2 (fun r1 =>
      if r1.toInt < 100 then (
        post ((-1 : Int32)) σ ν
      ) else (
        if r1.toInt < 120 then (
          wpX5_labelOf σ ν 0 (r1 - ((100 : Int32))) (fun r13 =>
            post r13 σ ν
          )
        ) else (
          wpX5_sourceAt σ ν 0 p1 p2 (fun r4 =>
            wpX5_beginningOf σ ν 0 r4 (fun r5 =>
              wpX5_turnTo σ ν 1 r5 (σ 1 0 11) (σ 1 0 12) (fun t6 =>
                wpX5_build t6 ν 1 0 (fun t7 vv8 =>
                  wpX5_labelOf t7 vv8 1 (r1 - ((120 : Int32))) (fun r12 =>
                    post r12 t7 vv8
                  )
                )
              )
            )
          )
        )
      )
    )
  ) px
def wpX6_state (σ : SG) (ν : NU) (p1 : Int32) (post : Int32 → Prop) (px : String → Prop) : Prop :=
  wpX6_needInstruction σ ν p1 (fun r1 =>
    wpX5_stateOf σ ν 0 p1 (fun r2 =>
      post r2
    )
  ) px
def wpX6_commences (σ : SG) (ν : NU) (p1 : Int32) (post : Int32 → Prop) (px : String → Prop) : Prop :=
  wpX6_needInstruction σ ν p1 (fun r1 =>
    wpX5_beginningOf σ ν 0 p1 (fun r2 =>
      post r2
    )
  ) px
def wpX0_mayConflictWith (σ : SG) (ν : NU) (o0 : Nat) (o1 : Nat) (post : Int32 → Prop) : Prop :=
  o0 < ν 99 0 0 ∧
  o1 < ν 99 0 0 ∧
  if (σ 3 o0 1).toInt = (σ 3 o1 1).toInt then (
    post ((0 : Int32))
  ) else (
    if (σ 3 o0 3).toInt = 0 then (
      post ((0 : Int32))
    ) else (
      if (σ 3 o1 3).toInt = 0 then (
        post ((0 : Int32))
      ) else (
        if (σ 3 o0 3).toInt = 7 then (
          post ((0 : Int32))
        ) else (
          wpX0_isOf σ ν o1 (σ 3 o0 4) (fun r7 =>
            if r7.toInt = 0 then (
              post ((0 : Int32))
            ) else (
              post ((1 : Int32))
            )
          )
        )
      )
    )
  )
def wpX5_conflict (σ : SG) (ν : NU) (o0 : Nat) (o1 : Nat) (o2 : Nat) (post : Int32 → Prop) : Prop :=
  o1 < ν 99 0 0 ∧
  wpX0_mayConflictWith σ ν o1 o2 (fun r2 =>
    if r2.toInt = 0 then (
      post ((0 : Int32))
    ) else (
      o0 < 2 ∧
      wpX5_stateOf σ ν o0 (σ 3 o1 0) (fun r5 =>
        if r5.toInt = 1 then (
          o2 < ν 99 0 0 ∧
          wpX5_stateOf σ ν o0 (σ 3 o2 0) (fun r8 =>
            if r8.toInt = 1 then (
              wpX5_beginningOf σ ν o0 (σ 3 o1 0) (fun r10 =>
                wpX5_beginningOf σ ν o0 (σ 3 o2 0) (fun r11 =>
                  if r10.toInt = r11.toInt then (
                    post ((1 : Int32))
                  ) else (
                    post ((0 : Int32))
                  )
                )
              )
            ) else (
              post ((0 : Int32))
            )
          )
        ) else (
          post ((0 : Int32))
        )
      )
    )
  )
def wX5_countConflicts_17 (o0 : Nat) (κ4 : SG → NU → Int32 → Int32 → Prop) (post : Int32 → Prop) : Nat → SG → NU → Int32 → Int32 → Int32 → Prop
  | 0, _, _, _, _, _ => False
  | n + 1, σ, ν, x1, x2, x3 =>
    if x3.toInt < x2.toInt then (
      o0 < 2 ∧
      wpJx4a65c_get_915e3 σ ν (1 + o0) x2 (fun r6 =>
        r6 < ν 99 0 0 ∧
        wpJx4a65c_get_915e3 σ ν (1 + o0) x3 (fun r8 =>
          r8 < ν 99 0 0 ∧
          wpX5_conflict σ ν o0 r6 r8 (fun r10 =>
            if r10.toInt = 0 then (
              wX5_countConflicts_17 o0 κ4 post n σ ν x1 x2 (x3 + (1 : Int32))
            ) else (
              wX5_countConflicts_17 o0 κ4 post n σ ν (x1 + (1 : Int32)) x2 (x3 + (1 : Int32))
            )
          )
        )
      )
    ) else (
      κ4 σ ν x1 (x2 + (1 : Int32))
    )
def wX5_countConflicts_4 (o0 : Nat)  (post : Int32 → Prop) : Nat → SG → NU → Int32 → Int32 → Prop
  | 0, _, _, _, _ => False
  | n + 1, σ, ν, x1, x2 =>
    o0 < 2 ∧
    wpJx4a65c_size_8abf5 σ ν (1 + o0) (fun r2 =>
      if x2.toInt < r2.toInt then (
        ∃ f, wX5_countConflicts_17 o0 (wX5_countConflicts_4 o0 post n) post f σ ν x1 x2 ((0 : Int32))
      ) else (
        post x1
      )
    )
def wpX5_countConflicts (σ : SG) (ν : NU) (o0 : Nat) (post : Int32 → Prop) : Prop :=
  ∃ f, wX5_countConflicts_4 o0 post f σ ν ((0 : Int32)) ((0 : Int32))
def wpX6_conflicts (σ : SG) (ν : NU)  (post : Int32 → Prop) : Prop :=
  wpX5_countConflicts σ ν 0 (fun r1 =>
    post r1
  )
def wX5_fold_76 (o0 : Nat) (κ6 : SG → NU → Int64 → Int32 → Prop) (post : Int64 → Prop) : Nat → SG → NU → Int64 → Int32 → Int32 → Int32 → Int32 → Prop
  | 0, _, _, _, _, _, _, _ => False
  | n + 1, σ, ν, x1, x3, x4, x5, x6 =>
    if x6.toInt < x5.toInt then (
      if x6.toInt < 12 then (
        o0 < 2 ∧
        wpX5_readAt σ ν o0 x4 x6 (fun r10 =>
          wpX5_sourceAt σ ν o0 x4 x6 (fun r11 =>
            wX5_fold_76 o0 κ6 post n σ ν ((((31 : Int64)) * ((((31 : Int64)) * x1) + (r10.toInt64))) + (r11.toInt64)) x3 x4 x5 (x6 + (1 : Int32))
          )
        )
      ) else (
        κ6 σ ν x1 (x3 + (1 : Int32))
      )
    ) else (
      κ6 σ ν x1 (x3 + (1 : Int32))
    )
def wX5_fold_6 (o0 : Nat)  (post : Int64 → Prop) : Nat → SG → NU → Int64 → Int32 → Prop
  | 0, _, _, _, _ => False
  | n + 1, σ, ν, x1, x3 =>
    o0 < 2 ∧
    if x3.toInt < (σ 1 o0 9).toInt then (
      if x3.toInt < 20 then (
        vp_in x3 20 ∧
        wpX5_countOf σ ν o0 (σ 18 o0 x3.toNatClampNeg) (fun r5 =>
          wpX5_labelOf σ ν o0 (σ 18 o0 x3.toNatClampNeg) (fun r6 =>
            ∃ f, wX5_fold_76 o0 (wX5_fold_6 o0 post n) post f σ ν ((((31 : Int64)) * ((((31 : Int64)) * ((((31 : Int64)) * x1) + ((σ 18 o0 x3.toNatClampNeg).toInt64))) + (r6.toInt64))) + (r5.toInt64)) x3 (σ 18 o0 x3.toNatClampNeg) r5 ((0 : Int32))
          )
        )
      ) else (
        post x1
      )
    ) else (
      post x1
    )
def wpX5_fold (σ : SG) (ν : NU) (o0 : Nat) (post : Int64 → Prop) : Prop :=
  ∃ f, wX5_fold_6 o0 post f σ ν ((11 : Int64)) ((0 : Int32))
def wpX6_print (σ : SG) (ν : NU)  (post : Int64 → Prop) : Prop :=
  wpX5_fold σ ν 0 (fun r1 =>
    post r1
  )
