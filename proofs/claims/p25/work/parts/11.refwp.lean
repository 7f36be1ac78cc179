/-! what each method asks of the state. Written by wip/gen/gen.py -/
def wpX7_thrown (ρ : RH)  (post : Int32 → Prop) : Prop :=
  post (ρ 48 0)
def wpX7_goes (ρ : RH) (p1 : Int32) (post : Int32 → RH → Prop) : Prop :=
  ∀ t1 : RH, t1 = u2 ρ 48 0 p1 →
  if p1.toInt = 0 then (
    post ((1 : Int32)) t1
  ) else (
    post ((0 : Int32)) t1
  )
def wpX7_isIn (ρ : RH) (p0 : Int32) (p1 : Int32) (p2 : Int32) (post : Int32 → Prop) : Prop :=
  if p0.toInt < p1.toInt then (
    post ((0 : Int32))
  ) else (
    if p0.toInt ≤ p2.toInt then (
      post ((1 : Int32))
    ) else (
      post ((0 : Int32))
    )
  )
def wpX7_isInstruction (ρ : RH) (p1 : Int32) (post : Int32 → Prop) : Prop :=
  wpX7_isIn ρ p1 ((0 : Int32)) ((ρ 11 0) - ((1 : Int32))) (fun r1 =>
    (r1 = 0 ∨ r1 = 1) ∧
    post r1
  )
def wpX7_isProvision (ρ : RH) (p1 : Int32) (post : Int32 → Prop) : Prop :=
  wpX7_isIn ρ p1 ((0 : Int32)) ((ρ 12 0) - ((1 : Int32))) (fun r1 =>
    (r1 = 0 ∨ r1 = 1) ∧
    post r1
  )
def wpX7_isDay (ρ : RH) (p0 : Int32) (post : Int32 → Prop) : Prop :=
  wpX7_isIn ρ p0 ((0 : Int32)) ((5000 : Int32)) (fun r1 =>
    (r1 = 0 ∨ r1 = 1) ∧
    post r1
  )
def jX7_pass_33 (p1 : Int32)  (post : Int32 → RH → Prop) (a3 : RH) (y0 : Nat) (y1 : Int32) : Prop :=
  wpX7_goes a3 y1 (fun r4 t5 =>
    if r4.toInt = 0 then (
      post ((0 : Int32)) t5
    ) else (
      ∀ t7 : RH, t7 = u2 t5 0 0 ((t5 0 0) + p1) →
      post (t7 0 0) t7
    )
  )
def wpX7_pass (ρ : RH) (p1 : Int32) (post : Int32 → RH → Prop) : Prop :=
  wpX7_isIn ρ p1 ((1 : Int32)) ((500 : Int32)) (fun r1 =>
    if r1.toInt = 0 then (
      jX7_pass_33 p1 post ρ 0 ((1 : Int32))
    ) else (
      if ((ρ 0 0) + p1).toInt ≤ 5000 then (
        jX7_pass_33 p1 post ρ 0 ((0 : Int32))
      ) else (
        jX7_pass_33 p1 post ρ 0 ((2 : Int32))
      )
    )
  )
def jX7_act_15   (post : Int32 → RH → Prop) (a3 : RH) (y0 : Nat) (y1 : Int32) : Prop :=
  wpX7_goes a3 y1 (fun r2 t3 =>
    if r2.toInt = 0 then (
      post ((0 : Int32)) t3
    ) else (
      vp_in (t3 1 0) 10 ∧
      ∀ t6 : RH, t6 = u2 t3 2 (t3 1 0).toNatClampNeg (t3 0 0) →
      ∀ t8 : RH, t8 = u2 t6 1 0 ((t6 1 0) + ((1 : Int32))) →
      post ((t8 1 0) - ((1 : Int32))) t8
    )
  )
def wpX7_act (ρ : RH)  (post : Int32 → RH → Prop) : Prop :=
  if (ρ 1 0).toInt = 10 then (
    jX7_act_15  post ρ 0 ((1 : Int32))
  ) else (
    jX7_act_15  post ρ 0 ((0 : Int32))
  )
def jX7_terms_79 (p1 : Int32) (p2 : Int32) (p3 : Int32) (p4 : Int32)  (post : RH → Prop) (a3 : RH) (y0 : Nat) (y1 : Int32) : Prop :=
  wpX7_goes a3 y1 (fun r5 t6 =>
    if r5.toInt = 0 then (
      post t6
    ) else (
      ∀ t8 : RH, t8 = u2 t6 3 0 p1 →
      ∀ t10 : RH, t10 = u2 t8 4 0 p2 →
      ∀ t12 : RH, t12 = u2 t10 5 0 p3 →
      ∀ t14 : RH, t14 = u2 t12 6 0 p4 →
      post t14
    )
  )
def jX7_terms_69 (p1 : Int32) (p2 : Int32) (p3 : Int32) (p4 : Int32)  (post : RH → Prop) (a3 : RH) (x5 : Int32) (y0 : Nat) : Prop :=
  if x5.toInt = 0 then (
    jX7_terms_79 p1 p2 p3 p4 post a3 0 ((2 : Int32))
  ) else (
    jX7_terms_79 p1 p2 p3 p4 post a3 0 ((0 : Int32))
  )
def jX7_terms_49 (p1 : Int32) (p2 : Int32) (p3 : Int32) (p4 : Int32)  (post : RH → Prop) (a3 : RH) (y0 : Int32) : Prop :=
  if p1.toInt = 2 then (
    wpX7_isInstruction a3 p2 (fun r16 =>
      if r16.toInt = 0 then (
        jX7_terms_79 p1 p2 p3 p4 post a3 0 ((1 : Int32))
      ) else (
        jX7_terms_69 p1 p2 p3 p4 post a3 y0 0
      )
    )
  ) else (
    jX7_terms_69 p1 p2 p3 p4 post a3 y0 0
  )
def jX7_terms_20 (p1 : Int32) (p2 : Int32) (p3 : Int32) (p4 : Int32)  (post : RH → Prop) (a3 : RH) : Prop :=
  wpX7_isIn a3 p3 ((1 : Int32)) ((7 : Int32)) (fun r19 =>
    if r19.toInt = 0 then (
      jX7_terms_49 p1 p2 p3 p4 post a3 ((0 : Int32))
    ) else (
      if p4.toInt = (-1) then (
        jX7_terms_49 p1 p2 p3 p4 post a3 ((1 : Int32))
      ) else (
        wpX7_isDay a3 p4 (fun r22 =>
          if r22.toInt = 0 then (
            jX7_terms_49 p1 p2 p3 p4 post a3 ((0 : Int32))
          ) else (
            jX7_terms_49 p1 p2 p3 p4 post a3 ((1 : Int32))
          )
        )
      )
    )
  )
def wpX7_terms (ρ : RH) (p1 : Int32) (p2 : Int32) (p3 : Int32) (p4 : Int32) (post : RH → Prop) : Prop :=
  wpX7_isIn ρ p1 ((0 : Int32)) ((2 : Int32)) (fun r1 =>
    if r1.toInt = 0 then (
      jX7_terms_49 p1 p2 p3 p4 post ρ ((0 : Int32))
    ) else (
      if p1.toInt = 0 then (
        wpX7_isDay ρ p2 (fun r24 =>
          if r24.toInt = 0 then (
            jX7_terms_49 p1 p2 p3 p4 post ρ ((0 : Int32))
          ) else (
            jX7_terms_20 p1 p2 p3 p4 post ρ
          )
        )
      ) else (
        jX7_terms_20 p1 p2 p3 p4 post ρ
      )
    )
  )
def jX7_word_40 (p1 : Int32) (p2 : Int32)  (post : Int32 → RH → Prop) (a3 : RH) (y0 : Nat) (y1 : Int32) : Prop :=
  wpX7_goes a3 y1 (fun r5 t6 =>
    if r5.toInt = 0 then (
      post ((0 : Int32)) t6
    ) else (
      if p2.toInt = 0 then (
        vp_in (t6 7 0) 4 ∧
        ∀ t10 : RH, t10 = u2 t6 8 (t6 7 0).toNatClampNeg p1 →
        ∀ t12 : RH, t12 = u2 t10 7 0 ((t10 7 0) + ((1 : Int32))) →
        post (t12 7 0) t12
      ) else (
        vp_in (t6 9 0) 4 ∧
        ∀ t15 : RH, t15 = u2 t6 10 (t6 9 0).toNatClampNeg p1 →
        ∀ t17 : RH, t17 = u2 t15 9 0 ((t15 9 0) + ((1 : Int32))) →
        post (t17 9 0) t17
      )
    )
  )
def jX7_word_31 (p1 : Int32) (p2 : Int32)  (post : Int32 → RH → Prop) (a3 : RH) (y0 : Nat) (y1 : Int32) : Prop :=
  if y1.toInt = 4 then (
    jX7_word_40 p1 p2 post a3 0 ((2 : Int32))
  ) else (
    jX7_word_40 p1 p2 post a3 0 ((0 : Int32))
  )
def wpX7_word (ρ : RH) (p1 : Int32) (p2 : Int32) (post : Int32 → RH → Prop) : Prop :=
  wpX7_isIn ρ p1 ((0 : Int32)) ((139 : Int32)) (fun r1 =>
    if r1.toInt = 0 then (
      jX7_word_40 p1 p2 post ρ 0 ((1 : Int32))
    ) else (
      if p2.toInt = 0 then (
        jX7_word_31 p1 p2 post ρ 0 (ρ 7 0)
      ) else (
        jX7_word_31 p1 p2 post ρ 0 (ρ 9 0)
      )
    )
  )
def wpX7_isLabel (ρ : RH) (p0 : Int32) (p1 : Int32) (post : Int32 → Prop) : Prop :=
  wpX7_isIn ρ p0 ((1 : Int32)) ((99 : Int32)) (fun r1 =>
    if r1.toInt = 0 then (
      post ((0 : Int32))
    ) else (
      wpX7_isIn ρ p1 ((0 : Int32)) ((728 : Int32)) (fun r3 =>
        if r3.toInt = 0 then (
          post ((0 : Int32))
        ) else (
          if p1.toInt < 27 then (
            post ((1 : Int32))
          ) else (
            if (p1 - p1 / ((27 : Int32)) * ((27 : Int32))).toInt ≤ 0 then (
              post ((0 : Int32))
            ) else (
              post ((1 : Int32))
            )
          )
        )
      )
    )
  )
def wpX7_isShut (ρ : RH)  (post : Int32 → Prop) : Prop :=
  if (ρ 1 0).toInt = 0 then (
    post ((1 : Int32))
  ) else (
    vp_in ((ρ 1 0) - ((1 : Int32))) 10 ∧
    if (ρ 2 ((ρ 1 0) - ((1 : Int32))).toNatClampNeg).toInt = (ρ 0 0).toInt then (
      if (ρ 11 0).toInt = 40 then (
        post ((1 : Int32))
      ) else (
        post ((0 : Int32))
      )
    ) else (
      post ((1 : Int32))
    )
  )
def wX7_lays_77 (p1 : Int32) (p2 : Int32) (p3 : Int32) (p4 : Int32)  (post : Int32 → RH → Prop) : Nat → RH → Int32 → Int32 → Prop
  | 0, _, _, _ => False
  | n + 1, a3, x5, x6 =>
    if x6.toInt < 4 then (
      vp_in x6 4 ∧
      vp_in ((((4 : Int32)) * x5) + x6) 160 ∧
      ∀ t52 : RH, t52 = u2 a3 19 ((((4 : Int32)) * x5) + x6).toNatClampNeg (a3 8 x6.toNatClampNeg) →
      vp_in x6 4 ∧
      vp_in ((((4 : Int32)) * x5) + x6) 160 ∧
      ∀ t56 : RH, t56 = u2 t52 21 ((((4 : Int32)) * x5) + x6).toNatClampNeg (t52 10 x6.toNatClampNeg) →
      wX7_lays_77 p1 p2 p3 p4 post n t56 x5 (x6 + (1 : Int32))
    ) else (
      vp_in x5 40 ∧
      ∀ t24 : RH, t24 = u2 a3 22 x5.toNatClampNeg (a3 3 0) →
      vp_in x5 40 ∧
      ∀ t27 : RH, t27 = u2 t24 23 x5.toNatClampNeg (t24 4 0) →
      vp_in x5 40 ∧
      ∀ t30 : RH, t30 = u2 t27 24 x5.toNatClampNeg (t27 5 0) →
      vp_in x5 40 ∧
      ∀ t33 : RH, t33 = u2 t30 25 x5.toNatClampNeg (t30 6 0) →
      vp_in x5 40 ∧
      ∀ t36 : RH, t36 = u2 t33 26 x5.toNatClampNeg ((-1 : Int32)) →
      vp_in x5 40 ∧
      ∀ t39 : RH, t39 = u2 t36 28 x5.toNatClampNeg ((-1 : Int32)) →
      vp_in x5 40 ∧
      ∀ t42 : RH, t42 = u2 t39 30 x5.toNatClampNeg ((-1 : Int32)) →
      ∀ t44 : RH, t44 = u2 t42 7 0 ((0 : Int32)) →
      ∀ t46 : RH, t46 = u2 t44 9 0 ((0 : Int32)) →
      ∀ t48 : RH, t48 = u2 t46 11 0 ((t46 11 0) + ((1 : Int32))) →
      post x5 t48
    )
def wpX7_lays (ρ : RH) (p1 : Int32) (p2 : Int32) (p3 : Int32) (p4 : Int32) (post : Int32 → RH → Prop) : Prop :=
  vp_in (ρ 11 0) 40 ∧
  ∀ t2 : RH, t2 = u2 ρ 13 (ρ 11 0).toNatClampNeg p1 →
  vp_in (ρ 11 0) 40 ∧
  ∀ t5 : RH, t5 = u2 t2 14 (ρ 11 0).toNatClampNeg ((t2 1 0) - ((1 : Int32))) →
  vp_in (ρ 11 0) 40 ∧
  ∀ t8 : RH, t8 = u2 t5 15 (ρ 11 0).toNatClampNeg p2 →
  vp_in (ρ 11 0) 40 ∧
  ∀ t11 : RH, t11 = u2 t8 16 (ρ 11 0).toNatClampNeg p3 →
  vp_in (ρ 11 0) 40 ∧
  ∀ t14 : RH, t14 = u2 t11 17 (ρ 11 0).toNatClampNeg p4 →
  vp_in (ρ 11 0) 40 ∧
  ∀ t17 : RH, t17 = u2 t14 18 (ρ 11 0).toNatClampNeg (t14 7 0) →
  vp_in (ρ 11 0) 40 ∧
  ∀ t20 : RH, t20 = u2 t17 20 (ρ 11 0).toNatClampNeg (t17 9 0) →
  ∃ f, wX7_lays_77 p1 p2 p3 p4 post f t20 (ρ 11 0) ((0 : Int32))
def jX7_enact_58 (p1 : Int32) (p2 : Int32) (p3 : Int32)  (post : Int32 → RH → Prop) (a3 : RH) (y0 : Nat) (y1 : Int32) : Prop :=
  wpX7_goes a3 y1 (fun r6 t7 =>
    if r6.toInt = 0 then (
      post ((0 : Int32)) t7
    ) else (
      wpX7_lays t7 ((0 : Int32)) (t7 12 0) p1 ((((1000 : Int32)) * p2) + p3) (fun r9 t10 =>
        ∀ t11 : RH, t11 = u2 t10 12 0 ((t10 12 0) + ((1 : Int32))) →
        post ((t11 12 0) - ((1 : Int32))) t11
      )
    )
  )
def jX7_enact_18 (p1 : Int32) (p2 : Int32) (p3 : Int32)  (post : Int32 → RH → Prop) (a3 : RH) (y0 : Nat) : Prop :=
  wpX7_isLabel a3 p2 p3 (fun r2 =>
    if r2.toInt = 0 then (
      jX7_enact_58 p1 p2 p3 post a3 0 ((2 : Int32))
    ) else (
      wpX7_isShut a3 (fun r4 =>
        if r4.toInt = 0 then (
          if (a3 12 0).toInt = 20 then (
            jX7_enact_58 p1 p2 p3 post a3 0 ((3 : Int32))
          ) else (
            if (a3 7 0).toInt ≤ 0 then (
              jX7_enact_58 p1 p2 p3 post a3 0 ((0 : Int32))
            ) else (
              jX7_enact_58 p1 p2 p3 post a3 0 ((3 : Int32))
            )
          )
        ) else (
          jX7_enact_58 p1 p2 p3 post a3 0 ((3 : Int32))
        )
      )
    )
  )
def wpX7_enact (ρ : RH) (p1 : Int32) (p2 : Int32) (p3 : Int32) (post : Int32 → RH → Prop) : Prop :=
  if p1.toInt = (-1) then (
    jX7_enact_18 p1 p2 p3 post ρ 0
  ) else (
    wpX7_isProvision ρ p1 (fun r15 =>
      if r15.toInt = 0 then (
        jX7_enact_58 p1 p2 p3 post ρ 0 ((1 : Int32))
      ) else (
        jX7_enact_18 p1 p2 p3 post ρ 0
      )
    )
  )
def jX7_instruct_195 (p1 : Int32) (p2 : Int32) (p3 : Int32) (p4 : Int32)  (post : Int32 → RH → Prop) (a3 : RH) (y0 : Nat) (y1 : Int32) : Prop :=
  wpX7_goes a3 y1 (fun r14 t15 =>
    if r14.toInt = 0 then (
      post ((0 : Int32)) t15
    ) else (
      if p1.toInt = 4 then (
        wpX7_lays t15 p1 p2 p3 ((((1000 : Int32)) * p3) + p4) (fun r20 t21 =>
          post r20 t21
        )
      ) else (
        wpX7_lays t15 p1 p2 p3 ((0 : Int32)) (fun r18 t19 =>
          post r18 t19
        )
      )
    )
  )
def jX7_instruct_152 (p1 : Int32) (p2 : Int32) (p3 : Int32) (p4 : Int32)  (post : Int32 → RH → Prop) (a3 : RH) (x5 : Int32) (x6 : Int32) (x7 : Int32) (y0 : Int32) : Prop :=
  if x5.toInt = 0 then (
    if x6.toInt = 0 then (
      jX7_instruct_195 p1 p2 p3 p4 post a3 0 ((2 : Int32))
    ) else (
      wpX7_isShut a3 (fun r12 =>
        if r12.toInt = 0 then (
          if x7.toInt = 0 then (
            if y0.toInt = 0 then (
              jX7_instruct_195 p1 p2 p3 p4 post a3 0 ((0 : Int32))
            ) else (
              jX7_instruct_195 p1 p2 p3 p4 post a3 0 ((3 : Int32))
            )
          ) else (
            jX7_instruct_195 p1 p2 p3 p4 post a3 0 ((3 : Int32))
          )
        ) else (
          jX7_instruct_195 p1 p2 p3 p4 post a3 0 ((3 : Int32))
        )
      )
    )
  ) else (
    jX7_instruct_195 p1 p2 p3 p4 post a3 0 ((1 : Int32))
  )
def jX7_instruct_129 (p1 : Int32) (p2 : Int32) (p3 : Int32) (p4 : Int32)  (post : Int32 → RH → Prop) (a3 : RH) (x5 : Int32) (x6 : Int32) (x7 : Int32) : Prop :=
  if p1.toInt ≤ 2 then (
    jX7_instruct_152 p1 p2 p3 p4 post a3 x5 x6 x7 ((0 : Int32))
  ) else (
    if p1.toInt = 7 then (
      jX7_instruct_152 p1 p2 p3 p4 post a3 x5 x6 x7 ((0 : Int32))
    ) else (
      if (a3 9 0).toInt ≤ 0 then (
        jX7_instruct_152 p1 p2 p3 p4 post a3 x5 x6 x7 ((0 : Int32))
      ) else (
        jX7_instruct_152 p1 p2 p3 p4 post a3 x5 x6 x7 ((1 : Int32))
      )
    )
  )
def jX7_instruct_115 (p1 : Int32) (p2 : Int32) (p3 : Int32) (p4 : Int32)  (post : Int32 → RH → Prop) (a3 : RH) (x5 : Int32) (x6 : Int32) (y0 : Int32) : Prop :=
  if p1.toInt ≤ 3 then (
    jX7_instruct_129 p1 p2 p3 p4 post a3 x5 x6 y0
  ) else (
    if (a3 7 0).toInt ≤ 0 then (
      jX7_instruct_129 p1 p2 p3 p4 post a3 x5 x6 y0
    ) else (
      jX7_instruct_152 p1 p2 p3 p4 post a3 x5 x6 y0 ((1 : Int32))
    )
  )
def jX7_instruct_98 (p1 : Int32) (p2 : Int32) (p3 : Int32) (p4 : Int32)  (post : Int32 → RH → Prop) (a3 : RH) (x5 : Int32) (x6 : Int32) : Prop :=
  if p1.toInt = 1 then (
    if (a3 9 0).toInt = 0 then (
      jX7_instruct_115 p1 p2 p3 p4 post a3 x5 x6 ((1 : Int32))
    ) else (
      jX7_instruct_115 p1 p2 p3 p4 post a3 x5 x6 ((0 : Int32))
    )
  ) else (
    jX7_instruct_115 p1 p2 p3 p4 post a3 x5 x6 ((0 : Int32))
  )
def jX7_instruct_91 (p1 : Int32) (p2 : Int32) (p3 : Int32) (p4 : Int32)  (post : Int32 → RH → Prop) (a3 : RH) (x5 : Int32) (x6 : Int32) : Prop :=
  if (a3 7 0).toInt = 0 then (
    jX7_instruct_115 p1 p2 p3 p4 post a3 x5 x6 ((1 : Int32))
  ) else (
    jX7_instruct_98 p1 p2 p3 p4 post a3 x5 x6
  )
def jX7_instruct_79 (p1 : Int32) (p2 : Int32) (p3 : Int32) (p4 : Int32)  (post : Int32 → RH → Prop) (a3 : RH) (x5 : Int32) (y0 : Int32) : Prop :=
  if p1.toInt = 2 then (
    jX7_instruct_91 p1 p2 p3 p4 post a3 x5 y0
  ) else (
    if p1.toInt = 3 then (
      jX7_instruct_91 p1 p2 p3 p4 post a3 x5 y0
    ) else (
      jX7_instruct_98 p1 p2 p3 p4 post a3 x5 y0
    )
  )
def jX7_instruct_48 (p1 : Int32) (p2 : Int32) (p3 : Int32) (p4 : Int32)  (post : Int32 → RH → Prop) (a3 : RH) (y0 : Int32) : Prop :=
  wpX7_isIn a3 p1 ((1 : Int32)) ((7 : Int32)) (fun r4 =>
    if r4.toInt = 0 then (
      jX7_instruct_79 p1 p2 p3 p4 post a3 y0 ((0 : Int32))
    ) else (
      if p1.toInt = 4 then (
        wpX7_isLabel a3 p3 p4 (fun r31 =>
          if r31.toInt = 0 then (
            jX7_instruct_79 p1 p2 p3 p4 post a3 y0 ((0 : Int32))
          ) else (
            jX7_instruct_79 p1 p2 p3 p4 post a3 y0 ((1 : Int32))
          )
        )
      ) else (
        jX7_instruct_79 p1 p2 p3 p4 post a3 y0 ((1 : Int32))
      )
    )
  )
def jX7_instruct_25 (p1 : Int32) (p2 : Int32) (p3 : Int32) (p4 : Int32)  (post : Int32 → RH → Prop) (a3 : RH) : Prop :=
  if p1.toInt = 5 then (
    if p3.toInt = (-1) then (
      jX7_instruct_48 p1 p2 p3 p4 post a3 ((0 : Int32))
    ) else (
      wpX7_isProvision a3 p3 (fun r35 =>
        if r35.toInt = 0 then (
          jX7_instruct_48 p1 p2 p3 p4 post a3 ((1 : Int32))
        ) else (
          jX7_instruct_48 p1 p2 p3 p4 post a3 ((0 : Int32))
        )
      )
    )
  ) else (
    jX7_instruct_48 p1 p2 p3 p4 post a3 ((0 : Int32))
  )
def wpX7_instruct (ρ : RH) (p1 : Int32) (p2 : Int32) (p3 : Int32) (p4 : Int32) (post : Int32 → RH → Prop) : Prop :=
  if p1.toInt = 7 then (
    wpX7_isInstruction ρ p2 (fun r37 =>
      if r37.toInt = 0 then (
        jX7_instruct_48 p1 p2 p3 p4 post ρ ((1 : Int32))
      ) else (
        jX7_instruct_25 p1 p2 p3 p4 post ρ
      )
    )
  ) else (
    wpX7_isProvision ρ p2 (fun r2 =>
      if r2.toInt = 0 then (
        jX7_instruct_48 p1 p2 p3 p4 post ρ ((1 : Int32))
      ) else (
        jX7_instruct_25 p1 p2 p3 p4 post ρ
      )
    )
  )
def wpX7_asksDay (ρ : RH) (p1 : Int32) (p2 : Int32) (p3 : Int32) (post : Int32 → RH → Prop) : Prop :=
  wpX7_isInstruction ρ p1 (fun r1 =>
    if r1.toInt = 0 then (
      wpX7_goes ρ ((1 : Int32)) (fun r14 t15 =>
        (r14 = 0 ∨ r14 = 1) ∧
        post r14 t15
      )
    ) else (
      if p2.toInt = 0 then (
        wpX7_goes ρ ((2 : Int32)) (fun r11 t12 =>
          (r11 = 0 ∨ r11 = 1) ∧
          post r11 t12
        )
      ) else (
        if p3.toInt = 0 then (
          wpX7_goes ρ ((3 : Int32)) (fun r5 t6 =>
            (r5 = 0 ∨ r5 = 1) ∧
            post r5 t6
          )
        ) else (
          wpX7_goes ρ ((0 : Int32)) (fun r8 t9 =>
            (r8 = 0 ∨ r8 = 1) ∧
            post r8 t9
          )
        )
      )
    )
  )
def jX7_order_33 (p1 : Int32) (p2 : Int32)  (post : RH → Prop) (a3 : RH) (y0 : Int32) : Prop :=
  wpX7_isDay a3 p2 (fun r3 =>
    wpX7_asksDay a3 p1 r3 y0 (fun r4 t5 =>
      if r4.toInt = 0 then (
        post t5
      ) else (
        vp_in p1 40 ∧
        ∀ t8 : RH, t8 = u2 t5 26 p1.toNatClampNeg (t5 0 0) →
        vp_in p1 40 ∧
        ∀ t11 : RH, t11 = u2 t8 27 p1.toNatClampNeg p2 →
        post t11
      )
    )
  )
def wpX7_order (ρ : RH) (p1 : Int32) (p2 : Int32) (post : RH → Prop) : Prop :=
  wpX7_isInstruction ρ p1 (fun r1 =>
    if r1.toInt = 0 then (
      jX7_order_33 p1 p2 post ρ ((0 : Int32))
    ) else (
      vp_in p1 40 ∧
      if (ρ 22 p1.toNatClampNeg).toInt = 1 then (
        vp_in p1 40 ∧
        if (ρ 26 p1.toNatClampNeg).toInt = (-1) then (
          jX7_order_33 p1 p2 post ρ ((1 : Int32))
        ) else (
          jX7_order_33 p1 p2 post ρ ((0 : Int32))
        )
      ) else (
        jX7_order_33 p1 p2 post ρ ((0 : Int32))
      )
    )
  )
def jX7_strike_29 (p1 : Int32) (p2 : Int32)  (post : RH → Prop) (a3 : RH) (y0 : Nat) (y1 : Int32) (y2 : Int32) (y3 : Int32) : Prop :=
  wpX7_asksDay a3 y1 y2 y3 (fun r4 t5 =>
    if r4.toInt = 0 then (
      post t5
    ) else (
      vp_in p1 40 ∧
      ∀ t8 : RH, t8 = u2 t5 28 p1.toNatClampNeg (t5 0 0) →
      vp_in p1 40 ∧
      ∀ t11 : RH, t11 = u2 t8 29 p1.toNatClampNeg p2 →
      post t11
    )
  )
def wpX7_strike (ρ : RH) (p1 : Int32) (p2 : Int32) (post : RH → Prop) : Prop :=
  wpX7_isDay ρ p2 (fun r1 =>
    wpX7_isInstruction ρ p1 (fun r2 =>
      if r2.toInt = 0 then (
        jX7_strike_29 p1 p2 post ρ 0 p1 r1 ((0 : Int32))
      ) else (
        vp_in p1 40 ∧
        if (ρ 28 p1.toNatClampNeg).toInt = (-1) then (
          jX7_strike_29 p1 p2 post ρ 0 p1 r1 ((1 : Int32))
        ) else (
          jX7_strike_29 p1 p2 post ρ 0 p1 r1 ((0 : Int32))
        )
      )
    )
  )
def jX7_suspend_48 (p1 : Int32) (p2 : Int32) (p3 : Int32)  (post : RH → Prop) (a3 : RH) (y0 : Nat) (y1 : Int32) (y2 : Int32) (y3 : Int32) : Prop :=
  wpX7_asksDay a3 y1 y2 y3 (fun r5 t6 =>
    if r5.toInt = 0 then (
      post t6
    ) else (
      vp_in p1 40 ∧
      ∀ t9 : RH, t9 = u2 t6 30 p1.toNatClampNeg (t6 0 0) →
      vp_in p1 40 ∧
      ∀ t12 : RH, t12 = u2 t9 31 p1.toNatClampNeg p2 →
      vp_in p1 40 ∧
      ∀ t15 : RH, t15 = u2 t12 32 p1.toNatClampNeg p3 →
      post t15
    )
  )
def jX7_suspend_25 (p1 : Int32) (p2 : Int32) (p3 : Int32)  (post : RH → Prop) (a3 : RH) (y0 : Nat) (y1 : Int32) (y2 : Int32) : Prop :=
  wpX7_isInstruction a3 p1 (fun r3 =>
    if r3.toInt = 0 then (
      jX7_suspend_48 p1 p2 p3 post a3 0 y1 y2 ((0 : Int32))
    ) else (
      vp_in p1 40 ∧
      if (a3 30 p1.toNatClampNeg).toInt = (-1) then (
        jX7_suspend_48 p1 p2 p3 post a3 0 y1 y2 ((1 : Int32))
      ) else (
        jX7_suspend_48 p1 p2 p3 post a3 0 y1 y2 ((0 : Int32))
      )
    )
  )
def wpX7_suspend (ρ : RH) (p1 : Int32) (p2 : Int32) (p3 : Int32) (post : RH → Prop) : Prop :=
  wpX7_isDay ρ p2 (fun r1 =>
    if r1.toInt = 0 then (
      jX7_suspend_25 p1 p2 p3 post ρ 0 p1 ((0 : Int32))
    ) else (
      wpX7_isIn ρ p3 p2 ((5000 : Int32)) (fun r19 =>
        if r19.toInt = 0 then (
          jX7_suspend_25 p1 p2 p3 post ρ 0 p1 ((0 : Int32))
        ) else (
          jX7_suspend_25 p1 p2 p3 post ρ 0 p1 ((1 : Int32))
        )
      )
    )
  )
def wpX7_isKnown (ρ : RH) (p1 : Int32) (p2 : Int32) (post : Int32 → Prop) : Prop :=
  if p1.toInt = (-1) then (
    post ((0 : Int32))
  ) else (
    if p1.toInt ≤ p2.toInt then (
      post ((1 : Int32))
    ) else (
      post ((0 : Int32))
    )
  )
def wX7_commencesBy_19 (p1 : Int32) (p2 : Int32)  (post : Int32 → Prop) : Nat → RH → Int32 → Prop
  | 0, _, _ => False
  | n + 1, ρ, x3 =>
    vp_in x3 40 ∧
    if (ρ 22 x3.toNatClampNeg).toInt = 2 then (
      vp_in x3 40 ∧
      wX7_commencesBy_19 p1 p2 post n ρ (ρ 23 x3.toNatClampNeg)
    ) else (
      vp_in x3 40 ∧
      if (ρ 22 x3.toNatClampNeg).toInt = 0 then (
        vp_in x3 40 ∧
        post (ρ 23 x3.toNatClampNeg)
      ) else (
        vp_in x3 40 ∧
        wpX7_isKnown ρ (ρ 26 x3.toNatClampNeg) p2 (fun r9 =>
          if r9.toInt = 0 then (
            post ((-1 : Int32))
          ) else (
            vp_in x3 40 ∧
            post (ρ 27 x3.toNatClampNeg)
          )
        )
      )
    )
def wpX7_commencesBy (ρ : RH) (p1 : Int32) (p2 : Int32) (post : Int32 → Prop) : Prop :=
  vp_in p1 40 ∧
  vp_in (ρ 14 p1.toNatClampNeg) 10 ∧
  if (ρ 2 (ρ 14 p1.toNatClampNeg).toNatClampNeg).toInt ≤ p2.toInt then (
    ∃ f, wX7_commencesBy_19 p1 p2 post f ρ p1
  ) else (
    post ((-1 : Int32))
  )
def jX7_isInEffect_104 (p1 : Int32) (p2 : Int32) (p3 : Int32) (p4 : Int32)  (post : Int32 → Prop) (ρ : RH) (x5 : Int32) (x6 : Int32) (x7 : Int32) (y0 : Int32) : Prop :=
  if x5.toInt = (-1) then (
    post ((0 : Int32))
  ) else (
    if x5.toInt ≤ p2.toInt then (
      vp_in p1 40 ∧
      if (((ρ 24 p1.toNatClampNeg) >>> (p4 &&& 31)) &&& ((1 : Int32))).toInt = 1 then (
        if x6.toInt = 0 then (
          if x7.toInt = 0 then (
            if y0.toInt = 0 then (
              post ((1 : Int32))
            ) else (
              post ((0 : Int32))
            )
          ) else (
            post ((0 : Int32))
          )
        ) else (
          post ((0 : Int32))
        )
      ) else (
        post ((0 : Int32))
      )
    ) else (
      post ((0 : Int32))
    )
  )
def jX7_isInEffect_64 (p1 : Int32) (p2 : Int32) (p3 : Int32) (p4 : Int32)  (post : Int32 → Prop) (ρ : RH) (x5 : Int32) (x6 : Int32) (y0 : Int32) : Prop :=
  vp_in p1 40 ∧
  wpX7_isKnown ρ (ρ 30 p1.toNatClampNeg) p3 (fun r8 =>
    if r8.toInt = 0 then (
      jX7_isInEffect_104 p1 p2 p3 p4 post ρ x5 x6 y0 ((0 : Int32))
    ) else (
      vp_in p1 40 ∧
      vp_in p1 40 ∧
      wpX7_isIn ρ p2 (ρ 31 p1.toNatClampNeg) (ρ 32 p1.toNatClampNeg) (fun r19 =>
        if r19.toInt = 0 then (
          jX7_isInEffect_104 p1 p2 p3 p4 post ρ x5 x6 y0 ((0 : Int32))
        ) else (
          jX7_isInEffect_104 p1 p2 p3 p4 post ρ x5 x6 y0 ((1 : Int32))
        )
      )
    )
  )
def jX7_isInEffect_33 (p1 : Int32) (p2 : Int32) (p3 : Int32) (p4 : Int32)  (post : Int32 → Prop) (ρ : RH) (x5 : Int32) (y0 : Int32) : Prop :=
  vp_in p1 40 ∧
  wpX7_isKnown ρ (ρ 28 p1.toNatClampNeg) p3 (fun r5 =>
    if r5.toInt = 0 then (
      jX7_isInEffect_64 p1 p2 p3 p4 post ρ x5 y0 ((0 : Int32))
    ) else (
      vp_in p1 40 ∧
      if (ρ 29 p1.toNatClampNeg).toInt ≤ p2.toInt then (
        jX7_isInEffect_64 p1 p2 p3 p4 post ρ x5 y0 ((1 : Int32))
      ) else (
        jX7_isInEffect_64 p1 p2 p3 p4 post ρ x5 y0 ((0 : Int32))
      )
    )
  )
def wpX7_isInEffect (ρ : RH) (p1 : Int32) (p2 : Int32) (p3 : Int32) (p4 : Int32) (post : Int32 → Prop) : Prop :=
  wpX7_commencesBy ρ p1 p3 (fun r1 =>
    vp_in p1 40 ∧
    if (ρ 25 p1.toNatClampNeg).toInt = (-1) then (
      jX7_isInEffect_33 p1 p2 p3 p4 post ρ r1 ((0 : Int32))
    ) else (
      vp_in p1 40 ∧
      if (ρ 25 p1.toNatClampNeg).toInt ≤ p2.toInt then (
        jX7_isInEffect_33 p1 p2 p3 p4 post ρ r1 ((1 : Int32))
      ) else (
        jX7_isInEffect_33 p1 p2 p3 p4 post ρ r1 ((0 : Int32))
      )
    )
  )
def wX7_hasLabel_6 (p1 : Int32) (p2 : Int32) (p3 : Int32)  (post : Int32 → Prop) : Nat → RH → Int32 → Int32 → Prop
  | 0, _, _, _ => False
  | n + 1, ρ, x4, x5 =>
    if x5.toInt < (ρ 12 0).toInt then (
      if x4.toInt = 0 then (
        if x5.toInt = p3.toInt then (
          wX7_hasLabel_6 p1 p2 p3 post n ρ ((0 : Int32)) (x5 + (1 : Int32))
        ) else (
          vp_in x5 20 ∧
          if (ρ 37 x5.toNatClampNeg).toInt = 0 then (
            wX7_hasLabel_6 p1 p2 p3 post n ρ ((0 : Int32)) (x5 + (1 : Int32))
          ) else (
            vp_in x5 20 ∧
            if (ρ 39 x5.toNatClampNeg).toInt = p1.toInt then (
              vp_in x5 20 ∧
              if (ρ 38 x5.toNatClampNeg).toInt = p2.toInt then (
                wX7_hasLabel_6 p1 p2 p3 post n ρ ((1 : Int32)) (x5 + (1 : Int32))
              ) else (
                wX7_hasLabel_6 p1 p2 p3 post n ρ ((0 : Int32)) (x5 + (1 : Int32))
              )
            ) else (
              wX7_hasLabel_6 p1 p2 p3 post n ρ ((0 : Int32)) (x5 + (1 : Int32))
            )
          )
        )
      ) else (
        wX7_hasLabel_6 p1 p2 p3 post n ρ ((1 : Int32)) (x5 + (1 : Int32))
      )
    ) else (
      (x4 = 0 ∨ x4 = 1) ∧
      post x4
    )
def wpX7_hasLabel (ρ : RH) (p1 : Int32) (p2 : Int32) (p3 : Int32) (post : Int32 → Prop) : Prop :=
  ∃ f, wX7_hasLabel_6 p1 p2 p3 post f ρ ((0 : Int32)) ((0 : Int32))
def wpX7_isPlace (ρ : RH) (p1 : Int32) (post : Int32 → Prop) : Prop :=
  if p1.toInt = (-1) then (
    post ((1 : Int32))
  ) else (
    vp_in p1 20 ∧
    if (ρ 37 p1.toNatClampNeg).toInt = 0 then (
      post ((0 : Int32))
    ) else (
      post ((1 : Int32))
    )
  )
def jX7_isWithin_22 (p1 : Int32) (p2 : Int32)  (post : Int32 → Prop) (ρ : RH) (x3 : Int32) : Prop :=
  if x3.toInt = p2.toInt then (
    post ((1 : Int32))
  ) else (
    post ((0 : Int32))
  )
def wX7_isWithin_2 (p1 : Int32) (p2 : Int32)  (post : Int32 → Prop) : Nat → RH → Int32 → Prop
  | 0, _, _ => False
  | n + 1, ρ, x3 =>
    if x3.toInt = (-1) then (
      jX7_isWithin_22 p1 p2 post ρ x3
    ) else (
      if x3.toInt = p2.toInt then (
        jX7_isWithin_22 p1 p2 post ρ x3
      ) else (
        vp_in x3 20 ∧
        wX7_isWithin_2 p1 p2 post n ρ (ρ 39 x3.toNatClampNeg)
      )
    )
def wpX7_isWithin (ρ : RH) (p1 : Int32) (p2 : Int32) (post : Int32 → Prop) : Prop :=
  ∃ f, wX7_isWithin_2 p1 p2 post f ρ p1
def wX7_isFoundAt_27 (p1 : Int32) (p2 : Int32) (p3 : Int32)  (post : Int32 → Prop) : Nat → RH → Int32 → Int32 → Prop
  | 0, _, _, _ => False
  | n + 1, ρ, x4, x5 =>
    vp_in p1 40 ∧
    if x5.toInt < (ρ 18 p1.toNatClampNeg).toInt then (
      if x4.toInt = 0 then (
        (x4 = 0 ∨ x4 = 1) ∧
        post x4
      ) else (
        vp_in (((((12 : Int32)) * p2) + p3) + x5) 240 ∧
        vp_in ((((4 : Int32)) * p1) + x5) 160 ∧
        if (ρ 41 (((((12 : Int32)) * p2) + p3) + x5).toNatClampNeg).toInt = (ρ 19 ((((4 : Int32)) * p1) + x5).toNatClampNeg).toInt then (
          wX7_isFoundAt_27 p1 p2 p3 post n ρ ((1 : Int32)) (x5 + (1 : Int32))
        ) else (
          wX7_isFoundAt_27 p1 p2 p3 post n ρ ((0 : Int32)) (x5 + (1 : Int32))
        )
      )
    ) else (
      (x4 = 0 ∨ x4 = 1) ∧
      post x4
    )
def wpX7_isFoundAt (ρ : RH) (p1 : Int32) (p2 : Int32) (p3 : Int32) (post : Int32 → Prop) : Prop :=
  vp_in p1 40 ∧
  vp_in p2 20 ∧
  if (p3 + (ρ 18 p1.toNatClampNeg)).toInt ≤ (ρ 40 p2.toNatClampNeg).toInt then (
    ∃ f, wX7_isFoundAt_27 p1 p2 p3 post f ρ ((1 : Int32)) ((0 : Int32))
  ) else (
    ∃ f, wX7_isFoundAt_27 p1 p2 p3 post f ρ ((0 : Int32)) ((0 : Int32))
  )
def wX7_firstPlace_10 (p1 : Int32) (p2 : Int32)  (post : Int32 → Prop) : Nat → RH → Int32 → Int32 → Prop
  | 0, _, _, _ => False
  | n + 1, ρ, x3, x4 =>
    if x4.toInt < 0 then (
      post x3
    ) else (
      wpX7_isFoundAt ρ p1 p2 x4 (fun r3 =>
        if r3.toInt = 0 then (
          wX7_firstPlace_10 p1 p2 post n ρ x3 (x4 + (-1 : Int32))
        ) else (
          wX7_firstPlace_10 p1 p2 post n ρ x4 (x4 + (-1 : Int32))
        )
      )
    )
def wpX7_firstPlace (ρ : RH) (p1 : Int32) (p2 : Int32) (post : Int32 → Prop) : Prop :=
  vp_in p2 20 ∧
  ∃ f, wX7_firstPlace_10 p1 p2 post f ρ ((-1 : Int32)) (ρ 40 p2.toNatClampNeg)
def wpX7_puts (ρ : RH) (p1 : Int32) (p2 : Int32) (post : RH → Prop) : Prop :=
  vp_in (ρ 45 0) 64 ∧
  ∀ t2 : RH, t2 = u2 ρ 46 (ρ 45 0).toNatClampNeg p1 →
  vp_in (t2 45 0) 64 ∧
  ∀ t5 : RH, t5 = u2 t2 47 (t2 45 0).toNatClampNeg p2 →
  ∀ t7 : RH, t7 = u2 t5 45 0 ((t5 45 0) + ((1 : Int32))) →
  post t7
def wX7_putsNew_2 (p1 : Int32)  (post : RH → Prop) : Nat → RH → Int32 → Prop
  | 0, _, _ => False
  | n + 1, a3, x2 =>
    vp_in p1 40 ∧
    if x2.toInt < (a3 43 p1.toNatClampNeg).toInt then (
      vp_in ((((4 : Int32)) * p1) + x2) 160 ∧
      wpX7_puts a3 (a3 44 ((((4 : Int32)) * p1) + x2).toNatClampNeg) p1 (fun t4 =>
        wX7_putsNew_2 p1 post n t4 (x2 + (1 : Int32))
      )
    ) else (
      post a3
    )
def wpX7_putsNew (ρ : RH) (p1 : Int32) (post : RH → Prop) : Prop :=
  ∃ f, wX7_putsNew_2 p1 post f ρ ((0 : Int32))
def wX7_putsOld_3 (p1 : Int32) (p2 : Int32) (p3 : Int32)  (post : RH → Prop) : Nat → RH → Int32 → Prop
  | 0, _, _ => False
  | n + 1, a3, x4 =>
    if x4.toInt < p3.toInt then (
      vp_in ((((12 : Int32)) * p1) + x4) 240 ∧
      vp_in ((((12 : Int32)) * p1) + x4) 240 ∧
      wpX7_puts a3 (a3 41 ((((12 : Int32)) * p1) + x4).toNatClampNeg) (a3 42 ((((12 : Int32)) * p1) + x4).toNatClampNeg) (fun t4 =>
        wX7_putsOld_3 p1 p2 p3 post n t4 (x4 + (1 : Int32))
      )
    ) else (
      post a3
    )
def wpX7_putsOld (ρ : RH) (p1 : Int32) (p2 : Int32) (p3 : Int32) (post : RH → Prop) : Prop :=
  ∃ f, wX7_putsOld_3 p1 p2 p3 post f ρ p2
def wX7_takes_13 (p1 : Int32)  (post : Int32 → RH → Prop) : Nat → RH → Int32 → Prop
  | 0, _, _ => False
  | n + 1, a3, x2 =>
    if x2.toInt < (a3 45 0).toInt then (
      vp_in x2 64 ∧
      vp_in ((((12 : Int32)) * p1) + x2) 240 ∧
      ∀ t8 : RH, t8 = u2 a3 41 ((((12 : Int32)) * p1) + x2).toNatClampNeg (a3 46 x2.toNatClampNeg) →
      vp_in x2 64 ∧
      vp_in ((((12 : Int32)) * p1) + x2) 240 ∧
      ∀ t12 : RH, t12 = u2 t8 42 ((((12 : Int32)) * p1) + x2).toNatClampNeg (t8 47 x2.toNatClampNeg) →
      wX7_takes_13 p1 post n t12 (x2 + (1 : Int32))
    ) else (
      vp_in p1 20 ∧
      ∀ t4 : RH, t4 = u2 a3 40 p1.toNatClampNeg (a3 45 0) →
      post ((1 : Int32)) t4
    )
def wpX7_takes (ρ : RH) (p1 : Int32) (post : Int32 → RH → Prop) : Prop :=
  if (ρ 45 0).toInt ≤ 12 then (
    ∃ f, wX7_takes_13 p1 post f ρ ((0 : Int32))
  ) else (
    post ((0 : Int32)) ρ
  )
def wpX7_enacts (ρ : RH) (p1 : Int32) (post : Int32 → RH → Prop) : Prop :=
  vp_in p1 40 ∧
  vp_in p1 40 ∧
  wpX7_isPlace ρ (ρ 16 p1.toNatClampNeg) (fun r3 =>
    if r3.toInt = 0 then (
      post ((0 : Int32)) ρ
    ) else (
      vp_in p1 40 ∧
      wpX7_hasLabel ρ (ρ 16 p1.toNatClampNeg) (ρ 17 p1.toNatClampNeg) ((-1 : Int32)) (fun r6 =>
        if r6.toInt = 0 then (
          vp_in (ρ 15 p1.toNatClampNeg) 20 ∧
          ∀ t9 : RH, t9 = u2 ρ 37 (ρ 15 p1.toNatClampNeg).toNatClampNeg (vp_nar .boolean ((1 : Int32))) →
          vp_in (ρ 15 p1.toNatClampNeg) 20 ∧
          ∀ t12 : RH, t12 = u2 t9 39 (ρ 15 p1.toNatClampNeg).toNatClampNeg (ρ 16 p1.toNatClampNeg) →
          vp_in p1 40 ∧
          vp_in (ρ 15 p1.toNatClampNeg) 20 ∧
          ∀ t16 : RH, t16 = u2 t12 38 (ρ 15 p1.toNatClampNeg).toNatClampNeg (t12 17 p1.toNatClampNeg) →
          wpX7_putsNew t16 p1 (fun t18 =>
            wpX7_takes t18 (ρ 15 p1.toNatClampNeg) (fun r19 t20 =>
              (r19 = 0 ∨ r19 = 1) ∧
              post r19 t20
            )
          )
        ) else (
          post ((0 : Int32)) ρ
        )
      )
    )
  )
def jX7_inserts_24 (p1 : Int32) (p2 : Int32)  (post : Int32 → RH → Prop) (a3 : RH) (y0 : Int32) : Prop :=
  if y0.toInt = (-1) then (
    post ((0 : Int32)) a3
  ) else (
    vp_in p1 40 ∧
    wpX7_putsOld a3 p2 ((0 : Int32)) (y0 + (a3 18 p1.toNatClampNeg)) (fun t6 =>
      wpX7_putsNew t6 p1 (fun t7 =>
        vp_in p1 40 ∧
        vp_in p2 20 ∧
        wpX7_putsOld t7 p2 (y0 + (t7 18 p1.toNatClampNeg)) (t7 40 p2.toNatClampNeg) (fun t10 =>
          wpX7_takes t10 p2 (fun r11 t12 =>
            (r11 = 0 ∨ r11 = 1) ∧
            post r11 t12
          )
        )
      )
    )
  )
def wpX7_inserts (ρ : RH) (p1 : Int32) (p2 : Int32) (post : Int32 → RH → Prop) : Prop :=
  vp_in p1 40 ∧
  if (ρ 18 p1.toNatClampNeg).toInt = 0 then (
    vp_in p2 20 ∧
    jX7_inserts_24 p1 p2 post ρ (ρ 40 p2.toNatClampNeg)
  ) else (
    wpX7_firstPlace ρ p1 p2 (fun r3 =>
      jX7_inserts_24 p1 p2 post ρ r3
    )
  )
def wX7_substitutes_5 (p1 : Int32) (p2 : Int32)  (post : Int32 → RH → Prop) : Nat → RH → Int32 → Int32 → Prop
  | 0, _, _, _ => False
  | n + 1, a3, x3, x4 =>
    vp_in p2 20 ∧
    if x4.toInt < (a3 40 p2.toNatClampNeg).toInt then (
      wpX7_isFoundAt a3 p1 p2 x4 (fun r7 =>
        if r7.toInt = 0 then (
          wpX7_putsOld a3 p2 x4 (x4 + ((1 : Int32))) (fun t9 =>
            wX7_substitutes_5 p1 p2 post n t9 x3 (x4 + (1 : Int32))
          )
        ) else (
          wpX7_putsNew a3 p1 (fun t10 =>
            vp_in p1 40 ∧
            wX7_substitutes_5 p1 p2 post n t10 ((1 : Int32)) (x4 + (t10 18 p1.toNatClampNeg))
          )
        )
      )
    ) else (
      if x3.toInt = 0 then (
        post ((0 : Int32)) a3
      ) else (
        wpX7_takes a3 p2 (fun r4 t5 =>
          if r4.toInt = 0 then (
            post ((0 : Int32)) t5
          ) else (
            post ((1 : Int32)) t5
          )
        )
      )
    )
def wpX7_substitutes (ρ : RH) (p1 : Int32) (p2 : Int32) (post : Int32 → RH → Prop) : Prop :=
  ∃ f, wX7_substitutes_5 p1 p2 post f ρ ((0 : Int32)) ((0 : Int32))
def wpX7_omits (ρ : RH) (p1 : Int32) (p2 : Int32) (post : Int32 → RH → Prop) : Prop :=
  wpX7_firstPlace ρ p1 p2 (fun r1 =>
    if r1.toInt = (-1) then (
      post ((0 : Int32)) ρ
    ) else (
      vp_in p2 20 ∧
      ∀ t4 : RH, t4 = u2 ρ 40 p2.toNatClampNeg r1 →
      post ((1 : Int32)) t4
    )
  )
def jX7_renumbers_25 (p1 : Int32) (p2 : Int32)  (post : Int32 → RH → Prop) (a3 : RH) (y0 : Int32) : Prop :=
  if y0.toInt = 0 then (
    vp_in p2 20 ∧
    vp_in p2 20 ∧
    ∀ t8 : RH, t8 = u2 a3 38 p2.toNatClampNeg (a3 38 p2.toNatClampNeg) →
    (y0 = 0 ∨ y0 = 1) ∧
    post y0 t8
  ) else (
    vp_in p1 40 ∧
    vp_in p2 20 ∧
    ∀ t13 : RH, t13 = u2 a3 38 p2.toNatClampNeg (a3 17 p1.toNatClampNeg) →
    (y0 = 0 ∨ y0 = 1) ∧
    post y0 t13
  )
def wpX7_renumbers (ρ : RH) (p1 : Int32) (p2 : Int32) (post : Int32 → RH → Prop) : Prop :=
  vp_in p2 20 ∧
  vp_in p1 40 ∧
  wpX7_hasLabel ρ (ρ 39 p2.toNatClampNeg) (ρ 17 p1.toNatClampNeg) p2 (fun r3 =>
    if r3.toInt = 0 then (
      jX7_renumbers_25 p1 p2 post ρ ((1 : Int32))
    ) else (
      jX7_renumbers_25 p1 p2 post ρ ((0 : Int32))
    )
  )
def jX7_moves_44 (p1 : Int32) (p2 : Int32)  (post : Int32 → RH → Prop) (a3 : RH) (x3 : Int32) (y0 : Int32) : Prop :=
  if y0.toInt = 0 then (
    vp_in p2 20 ∧
    vp_in p2 20 ∧
    ∀ t7 : RH, t7 = u2 a3 39 p2.toNatClampNeg (a3 39 p2.toNatClampNeg) →
    (y0 = 0 ∨ y0 = 1) ∧
    post y0 t7
  ) else (
    vp_in p2 20 ∧
    ∀ t11 : RH, t11 = u2 a3 39 p2.toNatClampNeg x3 →
    (y0 = 0 ∨ y0 = 1) ∧
    post y0 t11
  )
def wpX7_moves (ρ : RH) (p1 : Int32) (p2 : Int32) (post : Int32 → RH → Prop) : Prop :=
  vp_in p1 40 ∧
  wpX7_isPlace ρ (ρ 16 p1.toNatClampNeg) (fun r2 =>
    if r2.toInt = 0 then (
      jX7_moves_44 p1 p2 post ρ (ρ 16 p1.toNatClampNeg) ((0 : Int32))
    ) else (
      wpX7_isWithin ρ (ρ 16 p1.toNatClampNeg) p2 (fun r14 =>
        if r14.toInt = 0 then (
          vp_in p2 20 ∧
          wpX7_hasLabel ρ (ρ 16 p1.toNatClampNeg) (ρ 38 p2.toNatClampNeg) p2 (fun r17 =>
            if r17.toInt = 0 then (
              jX7_moves_44 p1 p2 post ρ (ρ 16 p1.toNatClampNeg) ((1 : Int32))
            ) else (
              jX7_moves_44 p1 p2 post ρ (ρ 16 p1.toNatClampNeg) ((0 : Int32))
            )
          )
        ) else (
          jX7_moves_44 p1 p2 post ρ (ρ 16 p1.toNatClampNeg) ((0 : Int32))
        )
      )
    )
  )
def wX7_repeals_47 (p1 : Int32)  (post : Int32 → RH → Prop) : Nat → RH → Int32 → Prop
  | 0, _, _ => False
  | n + 1, a3, x2 =>
    if x2.toInt < (a3 12 0).toInt then (
      vp_in x2 20 ∧
      if (a3 37 x2.toNatClampNeg).toInt = 0 then (
        vp_in x2 20 ∧
        ∀ t6 : RH, t6 = u2 a3 37 x2.toNatClampNeg (vp_nar .boolean ((0 : Int32))) →
        wX7_repeals_47 p1 post n t6 (x2 + (1 : Int32))
      ) else (
        vp_in x2 64 ∧
        if (a3 46 x2.toNatClampNeg).toInt = 0 then (
          vp_in x2 20 ∧
          ∀ t14 : RH, t14 = u2 a3 37 x2.toNatClampNeg (vp_nar .boolean ((1 : Int32))) →
          wX7_repeals_47 p1 post n t14 (x2 + (1 : Int32))
        ) else (
          vp_in x2 20 ∧
          ∀ t11 : RH, t11 = u2 a3 37 x2.toNatClampNeg (vp_nar .boolean ((0 : Int32))) →
          wX7_repeals_47 p1 post n t11 (x2 + (1 : Int32))
        )
      )
    ) else (
      post ((1 : Int32)) a3
    )
def wX7_repeals_2 (p1 : Int32)  (post : Int32 → RH → Prop) : Nat → RH → Int32 → Prop
  | 0, _, _ => False
  | n + 1, a3, x2 =>
    if x2.toInt < (a3 12 0).toInt then (
      vp_in x2 20 ∧
      if (a3 37 x2.toNatClampNeg).toInt = 0 then (
        vp_in x2 64 ∧
        ∀ t20 : RH, t20 = u2 a3 46 x2.toNatClampNeg ((0 : Int32)) →
        wX7_repeals_2 p1 post n t20 (x2 + (1 : Int32))
      ) else (
        wpX7_isWithin a3 x2 p1 (fun r22 =>
          if r22.toInt = 0 then (
            vp_in x2 64 ∧
            ∀ t25 : RH, t25 = u2 a3 46 x2.toNatClampNeg ((0 : Int32)) →
            wX7_repeals_2 p1 post n t25 (x2 + (1 : Int32))
          ) else (
            vp_in x2 64 ∧
            ∀ t28 : RH, t28 = u2 a3 46 x2.toNatClampNeg ((1 : Int32)) →
            wX7_repeals_2 p1 post n t28 (x2 + (1 : Int32))
          )
        )
      )
    ) else (
      ∃ f, wX7_repeals_47 p1 post f a3 ((0 : Int32))
    )
def wpX7_repeals (ρ : RH) (p1 : Int32) (post : Int32 → RH → Prop) : Prop :=
  ∃ f, wX7_repeals_2 p1 post f ρ ((0 : Int32))
def wX7_amends_47 (p1 : Int32) (p2 : Int32)  (post : Int32 → RH → Prop) : Nat → RH → Int32 → Int32 → Prop
  | 0, _, _, _ => False
  | n + 1, a3, x3, x4 =>
    if x4.toInt < 4 then (
      vp_in ((((4 : Int32)) * p1) + x4) 160 ∧
      vp_in ((((4 : Int32)) * x3) + x4) 160 ∧
      ∀ t14 : RH, t14 = u2 a3 44 ((((4 : Int32)) * x3) + x4).toNatClampNeg (a3 21 ((((4 : Int32)) * p1) + x4).toNatClampNeg) →
      wX7_amends_47 p1 p2 post n t14 x3 (x4 + (1 : Int32))
    ) else (
      post ((1 : Int32)) a3
    )
def wpX7_amends (ρ : RH) (p1 : Int32) (p2 : Int32) (post : Int32 → RH → Prop) : Prop :=
  vp_in p1 40 ∧
  vp_in (ρ 15 p1.toNatClampNeg) 40 ∧
  if (ρ 36 (ρ 15 p1.toNatClampNeg).toNatClampNeg).toInt = 0 then (
    if p2.toInt = 0 then (
      post ((1 : Int32)) ρ
    ) else (
      vp_in (ρ 15 p1.toNatClampNeg) 40 ∧
      if (ρ 13 (ρ 15 p1.toNatClampNeg).toNatClampNeg).toInt ≤ 2 then (
        vp_in p1 40 ∧
        vp_in (ρ 15 p1.toNatClampNeg) 40 ∧
        ∀ t9 : RH, t9 = u2 ρ 43 (ρ 15 p1.toNatClampNeg).toNatClampNeg (ρ 20 p1.toNatClampNeg) →
        ∃ f, wX7_amends_47 p1 p2 post f t9 (ρ 15 p1.toNatClampNeg) ((0 : Int32))
      ) else (
        post ((1 : Int32)) ρ
      )
    )
  ) else (
    post ((0 : Int32)) ρ
  )
def wpX7_does (ρ : RH) (p1 : Int32) (p2 : Int32) (p3 : Int32) (p4 : Int32) (post : Int32 → RH → Prop) : Prop :=
  vp_in p1 40 ∧
  vp_in p1 40 ∧
  ∀ t3 : RH, t3 = u2 ρ 45 0 ((0 : Int32)) →
  if (ρ 13 p1.toNatClampNeg).toInt = 0 then (
    wpX7_enacts t3 p1 (fun r36 t37 =>
      (r36 = 0 ∨ r36 = 1) ∧
      post r36 t37
    )
  ) else (
    if (ρ 13 p1.toNatClampNeg).toInt = 7 then (
      wpX7_isInEffect t3 (ρ 15 p1.toNatClampNeg) p2 p3 p4 (fun r32 =>
        wpX7_amends t3 p1 r32 (fun r33 t34 =>
          (r33 = 0 ∨ r33 = 1) ∧
          post r33 t34
        )
      )
    ) else (
      vp_in (ρ 15 p1.toNatClampNeg) 20 ∧
      if (t3 37 (ρ 15 p1.toNatClampNeg).toNatClampNeg).toInt = 0 then (
        post ((0 : Int32)) t3
      ) else (
        if (ρ 13 p1.toNatClampNeg).toInt = 1 then (
          wpX7_inserts t3 p1 (ρ 15 p1.toNatClampNeg) (fun r29 t30 =>
            (r29 = 0 ∨ r29 = 1) ∧
            post r29 t30
          )
        ) else (
          if (ρ 13 p1.toNatClampNeg).toInt = 2 then (
            wpX7_substitutes t3 p1 (ρ 15 p1.toNatClampNeg) (fun r26 t27 =>
              (r26 = 0 ∨ r26 = 1) ∧
              post r26 t27
            )
          ) else (
            if (ρ 13 p1.toNatClampNeg).toInt = 3 then (
              wpX7_omits t3 p1 (ρ 15 p1.toNatClampNeg) (fun r23 t24 =>
                (r23 = 0 ∨ r23 = 1) ∧
                post r23 t24
              )
            ) else (
              if (ρ 13 p1.toNatClampNeg).toInt = 4 then (
                wpX7_renumbers t3 p1 (ρ 15 p1.toNatClampNeg) (fun r20 t21 =>
                  (r20 = 0 ∨ r20 = 1) ∧
                  post r20 t21
                )
              ) else (
                if (ρ 13 p1.toNatClampNeg).toInt = 5 then (
                  wpX7_moves t3 p1 (ρ 15 p1.toNatClampNeg) (fun r17 t18 =>
                    (r17 = 0 ∨ r17 = 1) ∧
                    post r17 t18
                  )
                ) else (
                  wpX7_repeals t3 (ρ 15 p1.toNatClampNeg) (fun r14 t15 =>
                    (r14 = 0 ∨ r14 = 1) ∧
                    post r14 t15
                  )
                )
              )
            )
          )
        )
      )
    )
  )
def jX7_views_261 (p1 : Int32) (p2 : Int32) (p3 : Int32) (κ120 : RH → Int32 → Int32 → Int32 → Prop) (post : RH → Prop) (a3 : RH) (x4 : Int32) (x7 : Int32) (x8 : Int32) (y0 : Nat) (y1 : Int32) (y2 : Int32) : Prop :=
  vp_in y1 40 ∧
  ∀ t11 : RH, t11 = u2 a3 36 y1.toNatClampNeg y2 →
  κ120 t11 x4 x8 x7
def jX7_views_231 (p1 : Int32) (p2 : Int32) (p3 : Int32) (κ120 : RH → Int32 → Int32 → Int32 → Prop) (post : RH → Prop) (a3 : RH) (x5 : Int32) (x6 : Int32) (x7 : Int32) (x8 : Int32) (y0 : Int32) : Prop :=
  if y0.toInt = 0 then (
    κ120 a3 y0 x5 x6
  ) else (
    wpX7_does a3 x7 p1 p2 p3 (fun r7 t8 =>
      if r7.toInt = 0 then (
        jX7_views_261 p1 p2 p3 κ120 post t8 y0 x7 x8 0 x7 ((2 : Int32))
      ) else (
        jX7_views_261 p1 p2 p3 κ120 post t8 y0 x7 x8 0 x7 ((1 : Int32))
      )
    )
  )
def jX7_views_180 (p1 : Int32) (p2 : Int32) (p3 : Int32) (κ120 : RH → Int32 → Int32 → Int32 → Prop) (κ136 : RH → Int32 → Int32 → Int32 → Int32 → Int32 → Prop) (post : RH → Prop) (a3 : RH) (x5 : Int32) (x6 : Int32) (x7 : Int32) (x8 : Int32) (x9 : Int32) (x10 : Int32) (y0 : Int32) : Prop :=
  wpX7_isInEffect a3 x9 p1 p2 p3 (fun r15 =>
    if r15.toInt = 0 then (
      κ136 a3 x5 x6 x7 x8 (x9 + (1 : Int32))
    ) else (
      if y0.toInt = 0 then (
        κ136 a3 x5 x6 x7 x8 (x9 + (1 : Int32))
      ) else (
        if x10.toInt < x8.toInt then (
          κ136 a3 x5 x6 x9 x10 (x9 + (1 : Int32))
        ) else (
          κ136 a3 x5 x6 x7 x8 (x9 + (1 : Int32))
        )
      )
    )
  )
def wX7_views_136 (p1 : Int32) (p2 : Int32) (p3 : Int32) (κ120 : RH → Int32 → Int32 → Int32 → Prop) (post : RH → Prop) : Nat → RH → Int32 → Int32 → Int32 → Int32 → Int32 → Prop
  | 0, _, _, _, _, _, _ => False
  | n + 1, a3, x5, x6, x7, x8, x9 =>
    if x9.toInt < (a3 11 0).toInt then (
      wpX7_commencesBy a3 x9 p2 (fun r13 =>
        if r13.toInt ≤ x5.toInt then (
          if r13.toInt = x5.toInt then (
            if x9.toInt ≤ x6.toInt then (
              jX7_views_180 p1 p2 p3 κ120 (wX7_views_136 p1 p2 p3 κ120 post n) post a3 x5 x6 x7 x8 x9 r13 ((0 : Int32))
            ) else (
              jX7_views_180 p1 p2 p3 κ120 (wX7_views_136 p1 p2 p3 κ120 post n) post a3 x5 x6 x7 x8 x9 r13 ((1 : Int32))
            )
          ) else (
            jX7_views_180 p1 p2 p3 κ120 (wX7_views_136 p1 p2 p3 κ120 post n) post a3 x5 x6 x7 x8 x9 r13 ((0 : Int32))
          )
        ) else (
          jX7_views_180 p1 p2 p3 κ120 (wX7_views_136 p1 p2 p3 κ120 post n) post a3 x5 x6 x7 x8 x9 r13 ((1 : Int32))
        )
      )
    ) else (
      if x7.toInt = (-1) then (
        jX7_views_231 p1 p2 p3 κ120 post a3 x5 x6 x7 x8 ((0 : Int32))
      ) else (
        jX7_views_231 p1 p2 p3 κ120 post a3 x5 x6 x7 x8 ((1 : Int32))
      )
    )
def wX7_views_120 (p1 : Int32) (p2 : Int32) (p3 : Int32)  (post : RH → Prop) : Nat → RH → Int32 → Int32 → Int32 → Prop
  | 0, _, _, _, _ => False
  | n + 1, a3, x4, x5, x6 =>
    if x4.toInt = 0 then (
      post a3
    ) else (
      ∃ f, wX7_views_136 p1 p2 p3 (wX7_views_120 p1 p2 p3 post n) post f a3 x5 x6 ((-1 : Int32)) ((5001 : Int32)) ((0 : Int32))
    )
def wX7_views_69 (p1 : Int32) (p2 : Int32) (p3 : Int32) (κ35 : RH → Int32 → Prop) (post : RH → Prop) : Nat → RH → Int32 → Int32 → Prop
  | 0, _, _, _ => False
  | n + 1, a3, x4, x5 =>
    if x5.toInt < 4 then (
      vp_in ((((4 : Int32)) * x4) + x5) 160 ∧
      vp_in ((((4 : Int32)) * x4) + x5) 160 ∧
      ∀ t33 : RH, t33 = u2 a3 44 ((((4 : Int32)) * x4) + x5).toNatClampNeg (a3 21 ((((4 : Int32)) * x4) + x5).toNatClampNeg) →
      wX7_views_69 p1 p2 p3 κ35 post n t33 x4 (x5 + (1 : Int32))
    ) else (
      κ35 a3 (x4 + (1 : Int32))
    )
def wX7_views_35 (p1 : Int32) (p2 : Int32) (p3 : Int32)  (post : RH → Prop) : Nat → RH → Int32 → Prop
  | 0, _, _ => False
  | n + 1, a3, x4 =>
    if x4.toInt < (a3 11 0).toInt then (
      vp_in x4 40 ∧
      ∀ t24 : RH, t24 = u2 a3 36 x4.toNatClampNeg ((0 : Int32)) →
      vp_in x4 40 ∧
      vp_in x4 40 ∧
      ∀ t28 : RH, t28 = u2 t24 43 x4.toNatClampNeg (t24 20 x4.toNatClampNeg) →
      ∃ f, wX7_views_69 p1 p2 p3 (wX7_views_35 p1 p2 p3 post n) post f t28 x4 ((0 : Int32))
    ) else (
      ∃ f, wX7_views_120 p1 p2 p3 post f a3 ((1 : Int32)) ((-1 : Int32)) ((-1 : Int32))
    )
def wX7_views_3 (p1 : Int32) (p2 : Int32) (p3 : Int32)  (post : RH → Prop) : Nat → RH → Int32 → Prop
  | 0, _, _ => False
  | n + 1, a3, x4 =>
    if x4.toInt < 20 then (
      vp_in x4 20 ∧
      ∀ t38 : RH, t38 = u2 a3 37 x4.toNatClampNeg (vp_nar .boolean ((0 : Int32))) →
      vp_in x4 20 ∧
      ∀ t41 : RH, t41 = u2 t38 40 x4.toNatClampNeg ((0 : Int32)) →
      wX7_views_3 p1 p2 p3 post n t41 (x4 + (1 : Int32))
    ) else (
      ∃ f, wX7_views_35 p1 p2 p3 post f a3 ((0 : Int32))
    )
def wpX7_views (ρ : RH) (p1 : Int32) (p2 : Int32) (p3 : Int32) (post : RH → Prop) : Prop :=
  ∃ f, wX7_views_3 p1 p2 p3 post f ρ ((0 : Int32))
def wpX7_laysView (ρ : RH)  (post : RH → Prop) : Prop :=
  wpX7_views ρ (ρ 33 0) (ρ 34 0) (ρ 35 0) (fun t1 =>
    post t1
  )
def jX7_there_27  (κ4 : RH → Int32 → Int32 → Prop) (post : Int32 → Prop) (ρ : RH) (x2 : Int32) (y0 : Int32) (y1 : Int32) : Prop :=
  κ4 ρ (y0 + y1) (x2 + (1 : Int32))
def wX7_there_4   (post : Int32 → Prop) : Nat → RH → Int32 → Int32 → Prop
  | 0, _, _, _ => False
  | n + 1, ρ, x1, x2 =>
    if x2.toInt < (ρ 12 0).toInt then (
      vp_in x2 20 ∧
      if (ρ 37 x2.toNatClampNeg).toInt = 0 then (
        jX7_there_27  (wX7_there_4  post n) post ρ x2 x1 ((0 : Int32))
      ) else (
        jX7_there_27  (wX7_there_4  post n) post ρ x2 x1 ((1 : Int32))
      )
    ) else (
      post x1
    )
def wpX7_there (ρ : RH)  (post : Int32 → Prop) : Prop :=
  ∃ f, wX7_there_4  post f ρ ((0 : Int32)) ((0 : Int32))
def jX7_look_34 (p1 : Int32) (p2 : Int32) (p3 : Int32)  (post : Int32 → RH → Prop) (a3 : RH) (y0 : Nat) (y1 : Int32) : Prop :=
  wpX7_goes a3 y1 (fun r3 t4 =>
    if r3.toInt = 0 then (
      post ((0 : Int32)) t4
    ) else (
      ∀ t6 : RH, t6 = u2 t4 33 0 p1 →
      ∀ t8 : RH, t8 = u2 t6 34 0 p2 →
      ∀ t10 : RH, t10 = u2 t8 35 0 p3 →
      wpX7_laysView t10 (fun t12 =>
        wpX7_there t12 (fun r13 =>
          post r13 t12
        )
      )
    )
  )
def wpX7_look (ρ : RH) (p1 : Int32) (p2 : Int32) (p3 : Int32) (post : Int32 → RH → Prop) : Prop :=
  wpX7_isDay ρ p1 (fun r1 =>
    if r1.toInt = 0 then (
      jX7_look_34 p1 p2 p3 post ρ 0 ((1 : Int32))
    ) else (
      wpX7_isIn ρ p2 ((0 : Int32)) (ρ 0 0) (fun r14 =>
        if r14.toInt = 0 then (
          jX7_look_34 p1 p2 p3 post ρ 0 ((1 : Int32))
        ) else (
          wpX7_isIn ρ p3 ((0 : Int32)) ((2 : Int32)) (fun r16 =>
            if r16.toInt = 0 then (
              jX7_look_34 p1 p2 p3 post ρ 0 ((1 : Int32))
            ) else (
              jX7_look_34 p1 p2 p3 post ρ 0 ((0 : Int32))
            )
          )
        )
      )
    )
  )
def wpX7_key (ρ : RH) (p0 : Int32) (post : Int32 → Prop) : Prop :=
  if (p0 - p0 / ((1000 : Int32)) * ((1000 : Int32))).toInt < 27 then (
    post ((((1000 : Int32)) * (p0 / ((1000 : Int32)))) + (((27 : Int32)) * (p0 - p0 / ((1000 : Int32)) * ((1000 : Int32)))))
  ) else (
    post ((((1000 : Int32)) * (p0 / ((1000 : Int32)))) + (p0 - p0 / ((1000 : Int32)) * ((1000 : Int32))))
  )
def jX7_nextChild_54 (p1 : Int32) (p2 : Int32) (κ5 : RH → Int32 → Int32 → Prop) (post : Int32 → Prop) (ρ : RH) (x3 : Int32) (x4 : Int32) (y0 : Int32) : Prop :=
  if y0.toInt = 0 then (
    κ5 ρ x3 (x4 + (1 : Int32))
  ) else (
    if x3.toInt = (-1) then (
      κ5 ρ x4 (x4 + (1 : Int32))
    ) else (
      vp_in x4 20 ∧
      wpX7_key ρ (ρ 38 x4.toNatClampNeg) (fun r7 =>
        vp_in x3 20 ∧
        wpX7_key ρ (ρ 38 x3.toNatClampNeg) (fun r9 =>
          if r7.toInt < r9.toInt then (
            κ5 ρ x4 (x4 + (1 : Int32))
          ) else (
            κ5 ρ x3 (x4 + (1 : Int32))
          )
        )
      )
    )
  )
def wX7_nextChild_5 (p1 : Int32) (p2 : Int32)  (post : Int32 → Prop) : Nat → RH → Int32 → Int32 → Prop
  | 0, _, _, _ => False
  | n + 1, ρ, x3, x4 =>
    if x4.toInt < (ρ 12 0).toInt then (
      vp_in x4 20 ∧
      if (ρ 37 x4.toNatClampNeg).toInt = 0 then (
        jX7_nextChild_54 p1 p2 (wX7_nextChild_5 p1 p2 post n) post ρ x3 x4 ((0 : Int32))
      ) else (
        vp_in x4 20 ∧
        if (ρ 39 x4.toNatClampNeg).toInt = p1.toInt then (
          vp_in x4 20 ∧
          wpX7_key ρ (ρ 38 x4.toNatClampNeg) (fun r14 =>
            if r14.toInt ≤ p2.toInt then (
              jX7_nextChild_54 p1 p2 (wX7_nextChild_5 p1 p2 post n) post ρ x3 x4 ((0 : Int32))
            ) else (
              jX7_nextChild_54 p1 p2 (wX7_nextChild_5 p1 p2 post n) post ρ x3 x4 ((1 : Int32))
            )
          )
        ) else (
          jX7_nextChild_54 p1 p2 (wX7_nextChild_5 p1 p2 post n) post ρ x3 x4 ((0 : Int32))
        )
      )
    ) else (
      post x3
    )
def wpX7_nextChild (ρ : RH) (p1 : Int32) (p2 : Int32) (post : Int32 → Prop) : Prop :=
  ∃ f, wX7_nextChild_5 p1 p2 post f ρ ((-1 : Int32)) ((0 : Int32))
def wX7_behind_9 (p1 : Int32)  (post : Int32 → Prop) : Nat → RH → Int32 → Int32 → Prop
  | 0, _, _, _ => False
  | n + 1, ρ, x2, x3 =>
    if x2.toInt = (-1) then (
      if x3.toInt = (-1) then (
        post x2
      ) else (
        vp_in x3 20 ∧
        vp_in x3 20 ∧
        wpX7_key ρ (ρ 38 x3.toNatClampNeg) (fun r6 =>
          wpX7_nextChild ρ (ρ 39 x3.toNatClampNeg) r6 (fun r7 =>
            vp_in x3 20 ∧
            wX7_behind_9 p1 post n ρ r7 (ρ 39 x3.toNatClampNeg)
          )
        )
      )
    ) else (
      post x2
    )
def wpX7_behind (ρ : RH) (p1 : Int32) (post : Int32 → Prop) : Prop :=
  wpX7_nextChild ρ p1 ((-1 : Int32)) (fun r1 =>
    ∃ f, wX7_behind_9 p1 post f ρ r1 p1
  )
def wX7_provisionAt_30 (p1 : Int32)  (post : Int32 → RH → Prop) : Nat → RH → Int32 → Int32 → Prop
  | 0, _, _, _ => False
  | n + 1, a3, x2, x3 =>
    if x3.toInt < p1.toInt then (
      if x2.toInt = (-1) then (
        post x2 a3
      ) else (
        wpX7_behind a3 x2 (fun r9 =>
          wX7_provisionAt_30 p1 post n a3 r9 (x3 + (1 : Int32))
        )
      )
    ) else (
      post x2 a3
    )
def jX7_provisionAt_10 (p1 : Int32)  (post : Int32 → RH → Prop) (a3 : RH) (y0 : Nat) (y1 : Int32) : Prop :=
  wpX7_goes a3 y1 (fun r2 t3 =>
    if r2.toInt = 0 then (
      post ((0 : Int32)) t3
    ) else (
      wpX7_laysView t3 (fun t5 =>
        wpX7_behind t5 ((-1 : Int32)) (fun r6 =>
          ∃ f, wX7_provisionAt_30 p1 post f t5 r6 ((0 : Int32))
        )
      )
    )
  )
def wpX7_provisionAt (ρ : RH) (p1 : Int32) (post : Int32 → RH → Prop) : Prop :=
  if p1.toInt < 0 then (
    jX7_provisionAt_10 p1 post ρ 0 ((1 : Int32))
  ) else (
    jX7_provisionAt_10 p1 post ρ 0 ((0 : Int32))
  )
def wpX7_asks (ρ : RH) (p1 : Int32) (post : Int32 → RH → Prop) : Prop :=
  wpX7_laysView ρ (fun t1 =>
    wpX7_isProvision t1 p1 (fun r2 =>
      if r2.toInt = 0 then (
        wpX7_goes t1 ((1 : Int32)) (fun r4 t5 =>
          (r4 = 0 ∨ r4 = 1) ∧
          post r4 t5
        )
      ) else (
        wpX7_goes t1 ((0 : Int32)) (fun r7 t8 =>
          (r7 = 0 ∨ r7 = 1) ∧
          post r7 t8
        )
      )
    )
  )
def wpX7_label (ρ : RH) (p1 : Int32) (post : Int32 → RH → Prop) : Prop :=
  wpX7_asks ρ p1 (fun r1 t2 =>
    if r1.toInt = 0 then (
      post ((0 : Int32)) t2
    ) else (
      vp_in p1 20 ∧
      if (t2 37 p1.toNatClampNeg).toInt = 0 then (
        post ((-1 : Int32)) t2
      ) else (
        vp_in p1 20 ∧
        post (t2 38 p1.toNatClampNeg) t2
      )
    )
  )
def wpX7_parent (ρ : RH) (p1 : Int32) (post : Int32 → RH → Prop) : Prop :=
  wpX7_asks ρ p1 (fun r1 t2 =>
    if r1.toInt = 0 then (
      post ((0 : Int32)) t2
    ) else (
      vp_in p1 20 ∧
      if (t2 37 p1.toNatClampNeg).toInt = 0 then (
        post ((-1 : Int32)) t2
      ) else (
        vp_in p1 20 ∧
        post (t2 39 p1.toNatClampNeg) t2
      )
    )
  )
def wpX7_words (ρ : RH) (p1 : Int32) (post : Int32 → RH → Prop) : Prop :=
  wpX7_asks ρ p1 (fun r1 t2 =>
    if r1.toInt = 0 then (
      post ((0 : Int32)) t2
    ) else (
      vp_in p1 20 ∧
      if (t2 37 p1.toNatClampNeg).toInt = 0 then (
        post ((-1 : Int32)) t2
      ) else (
        vp_in p1 20 ∧
        post (t2 40 p1.toNatClampNeg) t2
      )
    )
  )
def wpX7_hasPlace (ρ : RH) (p1 : Int32) (p2 : Int32) (post : Int32 → Prop) : Prop :=
  vp_in p1 20 ∧
  if (ρ 37 p1.toNatClampNeg).toInt = 0 then (
    post ((0 : Int32))
  ) else (
    vp_in p1 20 ∧
    wpX7_isIn ρ p2 ((0 : Int32)) ((ρ 40 p1.toNatClampNeg) - ((1 : Int32))) (fun r4 =>
      if r4.toInt = 0 then (
        post ((0 : Int32))
      ) else (
        post ((1 : Int32))
      )
    )
  )
def wpX7_asksPlace (ρ : RH) (p1 : Int32) (p2 : Int32) (post : Int32 → RH → Prop) : Prop :=
  wpX7_laysView ρ (fun t1 =>
    wpX7_isProvision t1 p1 (fun r2 =>
      if r2.toInt = 0 then (
        wpX7_goes t1 ((1 : Int32)) (fun r12 t13 =>
          (r12 = 0 ∨ r12 = 1) ∧
          post r12 t13
        )
      ) else (
        wpX7_hasPlace t1 p1 p2 (fun r4 =>
          if r4.toInt = 0 then (
            wpX7_goes t1 ((1 : Int32)) (fun r6 t7 =>
              (r6 = 0 ∨ r6 = 1) ∧
              post r6 t7
            )
          ) else (
            wpX7_goes t1 ((0 : Int32)) (fun r9 t10 =>
              (r9 = 0 ∨ r9 = 1) ∧
              post r9 t10
            )
          )
        )
      )
    )
  )
def wpX7_wordAt (ρ : RH) (p1 : Int32) (p2 : Int32) (post : Int32 → RH → Prop) : Prop :=
  wpX7_asksPlace ρ p1 p2 (fun r1 t2 =>
    if r1.toInt = 0 then (
      post ((0 : Int32)) t2
    ) else (
      vp_in ((((12 : Int32)) * p1) + p2) 240 ∧
      post (t2 41 ((((12 : Int32)) * p1) + p2).toNatClampNeg) t2
    )
  )
def jX7_wordAnew_22 (p1 : Int32) (p2 : Int32)  (post : Int32 → RH → Prop) (a3 : RH) (y0 : Nat) (y1 : Int32) : Prop :=
  wpX7_goes a3 y1 (fun r4 t5 =>
    if r4.toInt = 0 then (
      post ((0 : Int32)) t5
    ) else (
      wpX7_hasPlace t5 p1 p2 (fun r7 =>
        if r7.toInt = 0 then (
          post ((-1 : Int32)) t5
        ) else (
          vp_in ((((12 : Int32)) * p1) + p2) 240 ∧
          post (t5 41 ((((12 : Int32)) * p1) + p2).toNatClampNeg) t5
        )
      )
    )
  )
def wpX7_wordAnew (ρ : RH) (p1 : Int32) (p2 : Int32) (post : Int32 → RH → Prop) : Prop :=
  wpX7_laysView ρ (fun t1 =>
    wpX7_isProvision t1 p1 (fun r2 =>
      if r2.toInt = 0 then (
        jX7_wordAnew_22 p1 p2 post t1 0 ((1 : Int32))
      ) else (
        if p2.toInt < 0 then (
          jX7_wordAnew_22 p1 p2 post t1 0 ((1 : Int32))
        ) else (
          jX7_wordAnew_22 p1 p2 post t1 0 ((0 : Int32))
        )
      )
    )
  )
def wpX7_origin (ρ : RH) (p1 : Int32) (p2 : Int32) (post : Int32 → RH → Prop) : Prop :=
  wpX7_asksPlace ρ p1 p2 (fun r1 t2 =>
    if r1.toInt = 0 then (
      post ((0 : Int32)) t2
    ) else (
      vp_in ((((12 : Int32)) * p1) + p2) 240 ∧
      post (t2 42 ((((12 : Int32)) * p1) + p2).toNatClampNeg) t2
    )
  )
def jX7_refers_87 (p1 : Int32) (p2 : Int32)  (post : Int32 → RH → Prop) (a3 : RH) (x4 : Int32) : Prop :=
  if x4.toInt < (a3 12 0).toInt then (
    vp_in x4 20 ∧
    if (a3 37 x4.toNatClampNeg).toInt = 0 then (
      post ((-1 : Int32)) a3
    ) else (
      vp_in x4 20 ∧
      post (a3 38 x4.toNatClampNeg) a3
    )
  ) else (
    post ((-1 : Int32)) a3
  )
def jX7_refers_48 (p1 : Int32) (p2 : Int32)  (post : Int32 → RH → Prop) (a3 : RH) (x3 : Int32) (y0 : Int32) : Prop :=
  if x3.toInt ≤ 119 then (
    jX7_refers_87 p1 p2 post a3 y0
  ) else (
    vp_in ((((12 : Int32)) * p1) + p2) 240 ∧
    wpX7_commencesBy a3 (a3 42 ((((12 : Int32)) * p1) + p2).toNatClampNeg) (a3 34 0) (fun r13 =>
      wpX7_views a3 r13 (a3 34 0) (a3 35 0) (fun t14 =>
        jX7_refers_87 p1 p2 post t14 y0
      )
    )
  )
def wpX7_refers (ρ : RH) (p1 : Int32) (p2 : Int32) (post : Int32 → RH → Prop) : Prop :=
  wpX7_asksPlace ρ p1 p2 (fun r1 t2 =>
    if r1.toInt = 0 then (
      post ((0 : Int32)) t2
    ) else (
      vp_in ((((12 : Int32)) * p1) + p2) 240 ∧
      if (t2 41 ((((12 : Int32)) * p1) + p2).toNatClampNeg).toInt < 100 then (
        post ((-1 : Int32)) t2
      ) else (
        if (t2 41 ((((12 : Int32)) * p1) + p2).toNatClampNeg).toInt < 120 then (
          jX7_refers_48 p1 p2 post t2 (t2 41 ((((12 : Int32)) * p1) + p2).toNatClampNeg) ((t2 41 ((((12 : Int32)) * p1) + p2).toNatClampNeg) - ((100 : Int32)))
        ) else (
          jX7_refers_48 p1 p2 post t2 (t2 41 ((((12 : Int32)) * p1) + p2).toNatClampNeg) ((t2 41 ((((12 : Int32)) * p1) + p2).toNatClampNeg) - ((120 : Int32)))
        )
      )
    )
  )
def jX7_state_18 (p1 : Int32)  (post : Int32 → RH → Prop) (a3 : RH) (y0 : Nat) (y1 : Int32) : Prop :=
  wpX7_goes a3 y1 (fun r4 t5 =>
    if r4.toInt = 0 then (
      post ((0 : Int32)) t5
    ) else (
      vp_in p1 40 ∧
      post (t5 36 p1.toNatClampNeg) t5
    )
  )
def wpX7_state (ρ : RH) (p1 : Int32) (post : Int32 → RH → Prop) : Prop :=
  wpX7_laysView ρ (fun t1 =>
    wpX7_isInstruction t1 p1 (fun r2 =>
      if r2.toInt = 0 then (
        jX7_state_18 p1 post t1 0 ((1 : Int32))
      ) else (
        jX7_state_18 p1 post t1 0 ((0 : Int32))
      )
    )
  )
def jX7_commences_14 (p1 : Int32)  (post : Int32 → RH → Prop) (a3 : RH) (y0 : Nat) (y1 : Int32) : Prop :=
  wpX7_goes a3 y1 (fun r3 t4 =>
    if r3.toInt = 0 then (
      post ((0 : Int32)) t4
    ) else (
      wpX7_commencesBy t4 p1 (t4 34 0) (fun r6 =>
        post r6 t4
      )
    )
  )
def wpX7_commences (ρ : RH) (p1 : Int32) (post : Int32 → RH → Prop) : Prop :=
  wpX7_isInstruction ρ p1 (fun r1 =>
    if r1.toInt = 0 then (
      jX7_commences_14 p1 post ρ 0 ((1 : Int32))
    ) else (
      jX7_commences_14 p1 post ρ 0 ((0 : Int32))
    )
  )
def jX7_conflicts_159  (κ13 : RH → Int32 → Int32 → Prop) (κ23 : RH → Int32 → Int32 → Int32 → Prop) (post : Int32 → RH → Prop) (a3 : RH) (x2 : Int32) (x3 : Int32) (y0 : Int32) (y1 : Int32) : Prop :=
  κ23 a3 (y0 + y1) x2 (x3 + (1 : Int32))
def jX7_conflicts_120  (κ13 : RH → Int32 → Int32 → Prop) (κ23 : RH → Int32 → Int32 → Int32 → Prop) (post : Int32 → RH → Prop) (a3 : RH) (x1 : Int32) (x2 : Int32) (x3 : Int32) (x4 : Int32) (y0 : Int32) : Prop :=
  if x4.toInt = 0 then (
    jX7_conflicts_159  κ13 κ23 post a3 x2 x3 x1 ((0 : Int32))
  ) else (
    if y0.toInt = 0 then (
      jX7_conflicts_159  κ13 κ23 post a3 x2 x3 x1 ((0 : Int32))
    ) else (
      wpX7_commencesBy a3 x2 (a3 34 0) (fun r13 =>
        wpX7_commencesBy a3 x3 (a3 34 0) (fun r14 =>
          if r13.toInt = r14.toInt then (
            jX7_conflicts_159  κ13 κ23 post a3 x2 x3 x1 ((1 : Int32))
          ) else (
            jX7_conflicts_159  κ13 κ23 post a3 x2 x3 x1 ((0 : Int32))
          )
        )
      )
    )
  )
def jX7_conflicts_83  (κ13 : RH → Int32 → Int32 → Prop) (κ23 : RH → Int32 → Int32 → Int32 → Prop) (post : Int32 → RH → Prop) (a3 : RH) (x1 : Int32) (x2 : Int32) (x3 : Int32) (y0 : Int32) : Prop :=
  vp_in x2 40 ∧
  wpX7_isIn a3 (a3 13 x2.toNatClampNeg) ((1 : Int32)) ((6 : Int32)) (fun r9 =>
    if r9.toInt = 0 then (
      jX7_conflicts_120  κ13 κ23 post a3 x1 x2 x3 y0 ((0 : Int32))
    ) else (
      vp_in x3 40 ∧
      wpX7_isIn a3 (a3 13 x3.toNatClampNeg) ((1 : Int32)) ((6 : Int32)) (fun r17 =>
        if r17.toInt = 0 then (
          jX7_conflicts_120  κ13 κ23 post a3 x1 x2 x3 y0 ((0 : Int32))
        ) else (
          jX7_conflicts_120  κ13 κ23 post a3 x1 x2 x3 y0 ((1 : Int32))
        )
      )
    )
  )
def wX7_conflicts_23  (κ13 : RH → Int32 → Int32 → Prop) (post : Int32 → RH → Prop) : Nat → RH → Int32 → Int32 → Int32 → Prop
  | 0, _, _, _, _ => False
  | n + 1, a3, x1, x2, x3 =>
    if x3.toInt < x2.toInt then (
      vp_in x2 40 ∧
      if (a3 36 x2.toNatClampNeg).toInt = 1 then (
        vp_in x3 40 ∧
        if (a3 36 x3.toNatClampNeg).toInt = 1 then (
          vp_in x2 40 ∧
          vp_in x3 40 ∧
          if (a3 14 x2.toNatClampNeg).toInt = (a3 14 x3.toNatClampNeg).toInt then (
            jX7_conflicts_83  κ13 (wX7_conflicts_23  κ13 post n) post a3 x1 x2 x3 ((0 : Int32))
          ) else (
            vp_in x2 40 ∧
            vp_in x3 40 ∧
            if (a3 15 x2.toNatClampNeg).toInt = (a3 15 x3.toNatClampNeg).toInt then (
              jX7_conflicts_83  κ13 (wX7_conflicts_23  κ13 post n) post a3 x1 x2 x3 ((1 : Int32))
            ) else (
              jX7_conflicts_83  κ13 (wX7_conflicts_23  κ13 post n) post a3 x1 x2 x3 ((0 : Int32))
            )
          )
        ) else (
          jX7_conflicts_83  κ13 (wX7_conflicts_23  κ13 post n) post a3 x1 x2 x3 ((0 : Int32))
        )
      ) else (
        jX7_conflicts_83  κ13 (wX7_conflicts_23  κ13 post n) post a3 x1 x2 x3 ((0 : Int32))
      )
    ) else (
      κ13 a3 x1 (x2 + (1 : Int32))
    )
def wX7_conflicts_13   (post : Int32 → RH → Prop) : Nat → RH → Int32 → Int32 → Prop
  | 0, _, _, _ => False
  | n + 1, a3, x1, x2 =>
    if x2.toInt < (a3 11 0).toInt then (
      ∃ f, wX7_conflicts_23  (wX7_conflicts_13  post n) post f a3 x1 x2 ((0 : Int32))
    ) else (
      post x1 a3
    )
def wpX7_conflicts (ρ : RH)  (post : Int32 → RH → Prop) : Prop :=
  ∀ t1 : RH, t1 = u2 ρ 48 0 ((0 : Int32)) →
  wpX7_laysView t1 (fun t3 =>
    ∃ f, wX7_conflicts_13  post f t3 ((0 : Int32)) ((0 : Int32))
  )
def wX7_print_60  (κ19 : RH → Int64 → Int32 → Prop) (post : Int64 → RH → Prop) : Nat → RH → Int64 → Int32 → Int32 → Prop
  | 0, _, _, _, _ => False
  | n + 1, a3, x1, x3, x4 =>
    vp_in x3 20 ∧
    if x4.toInt < (a3 40 x3.toNatClampNeg).toInt then (
      vp_in ((((12 : Int32)) * x3) + x4) 240 ∧
      vp_in ((((12 : Int32)) * x3) + x4) 240 ∧
      wX7_print_60  κ19 post n a3 ((((31 : Int64)) * ((((31 : Int64)) * x1) + ((a3 41 ((((12 : Int32)) * x3) + x4).toNatClampNeg).toInt64))) + ((a3 42 ((((12 : Int32)) * x3) + x4).toNatClampNeg).toInt64)) x3 (x4 + (1 : Int32))
    ) else (
      wpX7_behind a3 x3 (fun r10 =>
        κ19 a3 x1 r10
      )
    )
def wX7_print_19   (post : Int64 → RH → Prop) : Nat → RH → Int64 → Int32 → Prop
  | 0, _, _, _ => False
  | n + 1, a3, x1, x3 =>
    if x3.toInt = (-1) then (
      post x1 a3
    ) else (
      vp_in x3 20 ∧
      vp_in x3 20 ∧
      ∃ f, wX7_print_60  (wX7_print_19  post n) post f a3 ((((31 : Int64)) * ((((31 : Int64)) * ((((31 : Int64)) * x1) + (x3.toInt64))) + ((a3 38 x3.toNatClampNeg).toInt64))) + ((a3 40 x3.toNatClampNeg).toInt64)) x3 ((0 : Int32))
    )
def wpX7_print (ρ : RH)  (post : Int64 → RH → Prop) : Prop :=
  ∀ t1 : RH, t1 = u2 ρ 48 0 ((0 : Int32)) →
  wpX7_laysView t1 (fun t3 =>
    wpX7_behind t3 ((-1 : Int32)) (fun r4 =>
      ∃ f, wX7_print_19  post f t3 ((11 : Int64)) r4
    )
  )
