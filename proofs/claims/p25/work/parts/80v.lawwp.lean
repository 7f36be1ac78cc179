/-! What each method of the law asks of the state. Written by wip/gen25/genlaw.py and lrows.py -/
/-- a caught throw's number -/
def hx9 (E : String) (Q : Int32 → Prop) : Prop := (E = IOB ∧ Q (-1381)) ∨ (E = IAE ∧ Q (-1382)) ∨ (E = ISE ∧ Q (-1383))
/-- the dice -/
def dz (L : Nat) (xs : Nat → Int32) (k : Int32) : Int32 := (if k.toInt < (Int32.ofNat L).toInt then xs k.toNatClampNeg else (1564074407 : Int32) * (k + 421) + 833 * k * k + 283) &&& 2147483647
def wpL_dice (L : Nat) (xs : Nat → Int32) (k : Int32) (post : Int32 → Prop) : Prop := ¬ k.toInt < 0 ∧ post (dz L xs k)
theorem dz_in {L : Nat} {k : Int32} (hL : L ≤ 260) (hk : ¬ k.toInt < 0) (h : k.toInt < (Int32.ofNat L).toInt) : vp_in k L := by
  have e1 : (Int32.ofNat L).toInt = (L : Int) := nI_toInt (show L < 2 ^ 31 by omega)
  rw [e1] at h
  obtain ⟨j, hj, rfl⟩ := in_nI (N := L) (by omega) h
  exact vp_in_nI hj (by omega)
def wpL_does_0 (σ : SG) (ν : NU) (ρ : RH) (p2 : Int32) (p3 : Int32) (p4 : Int32) (p5 : Int32) (post : Int32 → SG → Prop) : Prop :=
  wpX6_pass σ ν p2 (fun r2 t3 =>
    post r2 t3
  ) (fun E9 t9 => hx9 E9 (fun k9 => post k9 t9))
def wpL_does_1 (σ : SG) (ν : NU) (ρ : RH) (p2 : Int32) (p3 : Int32) (p4 : Int32) (p5 : Int32) (post : Int32 → SG → Prop) : Prop :=
  wpX6_act σ ν (fun r3 t4 =>
    post r3 t4
  ) (fun E9 t9 => hx9 E9 (fun k9 => post k9 t9))
def wpL_does_2 (σ : SG) (ν : NU) (ρ : RH) (p2 : Int32) (p3 : Int32) (p4 : Int32) (p5 : Int32) (post : Int32 → SG → Prop) : Prop :=
  if p3.toInt = 1 then (
    wpX6_word σ ν p2 ((1 : Int32)) (fun r7 t8 =>
      post r7 t8
    ) (fun E9 t9 => hx9 E9 (fun k9 => post k9 t9))
  ) else (
    wpX6_word σ ν p2 ((0 : Int32)) (fun r5 t6 =>
      post r5 t6
    ) (fun E9 t9 => hx9 E9 (fun k9 => post k9 t9))
  )
def wpL_does_3 (σ : SG) (ν : NU) (ρ : RH) (p2 : Int32) (p3 : Int32) (p4 : Int32) (p5 : Int32) (post : Int32 → SG → NU → Prop) : Prop :=
  wpX6_enact σ ν p2 p3 p4 (fun r5 t6 vv7 =>
    post r5 t6 vv7
  ) (fun E9 => hx9 E9 (fun k9 => post k9 σ ν))
def wpL_does_4 (σ : SG) (ν : NU) (ρ : RH) (p2 : Int32) (p3 : Int32) (p4 : Int32) (p5 : Int32) (post : Int32 → SG → NU → Prop) : Prop :=
  wpX6_instruct σ ν p2 p3 p4 p5 (fun r6 t7 vv8 =>
    post r6 t7 vv8
  ) (fun E9 => hx9 E9 (fun k9 => post k9 σ ν))
def wpL_does_5 (σ : SG) (ν : NU) (ρ : RH) (p2 : Int32) (p3 : Int32) (p4 : Int32) (p5 : Int32) (post : Int32 → SG → NU → Prop) : Prop :=
  wpX6_look σ ν p2 p3 p4 (fun r7 t8 vv9 =>
    post r7 t8 vv9
  ) (fun E9 => hx9 E9 (fun k9 => post k9 σ ν))
def wpL_does_6 (σ : SG) (ν : NU) (ρ : RH) (p2 : Int32) (p3 : Int32) (p4 : Int32) (p5 : Int32) (post : Int32 → Prop) : Prop :=
  wpX6_provisionAt σ ν p2 (fun r8 =>
    post r8
  ) (fun E9 => hx9 E9 (fun k9 => post k9))
def wpL_does_7 (σ : SG) (ν : NU) (ρ : RH) (p2 : Int32) (p3 : Int32) (p4 : Int32) (p5 : Int32) (post : Int32 → Prop) : Prop :=
  wpX6_label σ ν p2 (fun r9 =>
    post r9
  ) (fun E9 => hx9 E9 (fun k9 => post k9))
def wpL_does_8 (σ : SG) (ν : NU) (ρ : RH) (p2 : Int32) (p3 : Int32) (p4 : Int32) (p5 : Int32) (post : Int32 → Prop) : Prop :=
  wpX6_parent σ ν p2 (fun r10 =>
    post r10
  ) (fun E9 => hx9 E9 (fun k9 => post k9))
def wpL_does_9 (σ : SG) (ν : NU) (ρ : RH) (p2 : Int32) (p3 : Int32) (p4 : Int32) (p5 : Int32) (post : Int32 → Prop) : Prop :=
  wpX6_words σ ν p2 (fun r11 =>
    post r11
  ) (fun E9 => hx9 E9 (fun k9 => post k9))
def wpL_does_10 (σ : SG) (ν : NU) (ρ : RH) (p2 : Int32) (p3 : Int32) (p4 : Int32) (p5 : Int32) (post : Int32 → Prop) : Prop :=
  wpX6_wordAt σ ν p2 p3 (fun r12 =>
    post r12
  ) (fun E9 => hx9 E9 (fun k9 => post k9))
def wpL_does_11 (σ : SG) (ν : NU) (ρ : RH) (p2 : Int32) (p3 : Int32) (p4 : Int32) (p5 : Int32) (post : Int32 → SG → Prop) : Prop :=
  wpX6_wordAnew σ ν p2 p3 (fun r13 t14 =>
    post r13 t14
  ) (fun E9 t9 => hx9 E9 (fun k9 => post k9 t9))
def wpL_does_12 (σ : SG) (ν : NU) (ρ : RH) (p2 : Int32) (p3 : Int32) (p4 : Int32) (p5 : Int32) (post : Int32 → Prop) : Prop :=
  wpX6_origin σ ν p2 p3 (fun r14 =>
    post r14
  ) (fun E9 => hx9 E9 (fun k9 => post k9))
def wpL_does_13 (σ : SG) (ν : NU) (ρ : RH) (p2 : Int32) (p3 : Int32) (p4 : Int32) (p5 : Int32) (post : Int32 → SG → NU → Prop) : Prop :=
  wpX6_refers σ ν p2 p3 (fun r15 t16 vv17 =>
    post r15 t16 vv17
  ) (fun E9 => hx9 E9 (fun k9 => post k9 σ ν))
def wpL_does_14 (σ : SG) (ν : NU) (ρ : RH) (p2 : Int32) (p3 : Int32) (p4 : Int32) (p5 : Int32) (post : Int32 → Prop) : Prop :=
  wpX6_state σ ν p2 (fun r16 =>
    post r16
  ) (fun E9 => hx9 E9 (fun k9 => post k9))
def wpL_does_15 (σ : SG) (ν : NU) (ρ : RH) (p2 : Int32) (p3 : Int32) (p4 : Int32) (p5 : Int32) (post : Int32 → Prop) : Prop :=
  wpX6_commences σ ν p2 (fun r16 =>
    post r16
  ) (fun E9 => hx9 E9 (fun k9 => post k9))
def wpL_does (σ : SG) (ν : NU) (ρ : RH) (p1 : Int32) (p2 : Int32) (p3 : Int32) (p4 : Int32) (p5 : Int32) (post : Int32 → SG → NU → Prop) : Prop :=
  if p1.toInt = 0 then (
    wpX6_pass σ ν p2 (fun r57 t58 =>
      post r57 t58 ν
    ) (fun E9 t9 => hx9 E9 (fun k9 => post k9 t9 ν))
  ) else (
    if p1.toInt = 1 then (
      wpX6_act σ ν (fun r55 t56 =>
        post r55 t56 ν
      ) (fun E9 t9 => hx9 E9 (fun k9 => post k9 t9 ν))
    ) else (
      if p1.toInt = 2 then (
        if p3.toInt = 1 then (
          wpX6_word σ ν p2 ((1 : Int32)) (fun r53 t54 =>
            post r53 t54 ν
          ) (fun E9 t9 => hx9 E9 (fun k9 => post k9 t9 ν))
        ) else (
          wpX6_word σ ν p2 ((0 : Int32)) (fun r51 t52 =>
            post r51 t52 ν
          ) (fun E9 t9 => hx9 E9 (fun k9 => post k9 t9 ν))
        )
      ) else (
        if p1.toInt = 3 then (
          wpX6_enact σ ν p2 p3 p4 (fun r44 t45 vv46 =>
            post r44 t45 vv46
          ) (fun E9 => hx9 E9 (fun k9 => post k9 σ ν))
        ) else (
          if p1.toInt = 4 then (
            wpX6_instruct σ ν p2 p3 p4 p5 (fun r38 t39 vv40 =>
              post r38 t39 vv40
            ) (fun E9 => hx9 E9 (fun k9 => post k9 σ ν))
          ) else (
            if p1.toInt = 5 then (
              wpX6_look σ ν p2 p3 p4 (fun r32 t33 vv34 =>
                post r32 t33 vv34
              ) (fun E9 => hx9 E9 (fun k9 => post k9 σ ν))
            ) else (
              if p1.toInt = 6 then (
                wpX6_provisionAt σ ν p2 (fun r31 =>
                  post r31 σ ν
                ) (fun E9 => hx9 E9 (fun k9 => post k9 σ ν))
              ) else (
                if p1.toInt = 7 then (
                  wpX6_label σ ν p2 (fun r30 =>
                    post r30 σ ν
                  ) (fun E9 => hx9 E9 (fun k9 => post k9 σ ν))
                ) else (
                  if p1.toInt = 8 then (
                    wpX6_parent σ ν p2 (fun r29 =>
                      post r29 σ ν
                    ) (fun E9 => hx9 E9 (fun k9 => post k9 σ ν))
                  ) else (
                    if p1.toInt = 9 then (
                      wpX6_words σ ν p2 (fun r28 =>
                        post r28 σ ν
                      ) (fun E9 => hx9 E9 (fun k9 => post k9 σ ν))
                    ) else (
                      if p1.toInt = 10 then (
                        wpX6_wordAt σ ν p2 p3 (fun r27 =>
                          post r27 σ ν
                        ) (fun E9 => hx9 E9 (fun k9 => post k9 σ ν))
                      ) else (
                        if p1.toInt = 11 then (
                          wpX6_wordAnew σ ν p2 p3 (fun r25 t26 =>
                            post r25 t26 ν
                          ) (fun E9 t9 => hx9 E9 (fun k9 => post k9 t9 ν))
                        ) else (
                          if p1.toInt = 12 then (
                            wpX6_origin σ ν p2 p3 (fun r24 =>
                              post r24 σ ν
                            ) (fun E9 => hx9 E9 (fun k9 => post k9 σ ν))
                          ) else (
                            if p1.toInt = 13 then (
                              wpX6_refers σ ν p2 p3 (fun r18 t19 vv20 =>
                                post r18 t19 vv20
                              ) (fun E9 => hx9 E9 (fun k9 => post k9 σ ν))
                            ) else (
                              if p1.toInt = 14 then (
                                wpX6_state σ ν p2 (fun r17 =>
                                  post r17 σ ν
                                ) (fun E9 => hx9 E9 (fun k9 => post k9 σ ν))
                              ) else (
                                wpX6_commences σ ν p2 (fun r16 =>
                                  post r16 σ ν
                                ) (fun E9 => hx9 E9 (fun k9 => post k9 σ ν))
                              )
                            )
                          )
                        )
                      )
                    )
                  )
                )
              )
            )
          )
        )
      )
    )
  )
def wpL_tells_0 (σ : SG) (ν : NU) (ρ : RH) (p2 : Int32) (p3 : Int32) (p4 : Int32) (p5 : Int32) (post : Int32 → SG → NU → Prop) (px : String → Prop) : Prop :=
  wpX6_terms σ ν p2 p3 p4 p5 (fun t2 vv3 =>
    post ((1 : Int32)) t2 vv3
  ) px
def wpL_tells_1 (σ : SG) (ν : NU) (ρ : RH) (p2 : Int32) (p3 : Int32) (p4 : Int32) (p5 : Int32) (post : Int32 → SG → NU → Prop) (px : String → Prop) : Prop :=
  wpX6_order σ ν p2 p3 (fun t3 vv4 =>
    post ((1 : Int32)) t3 vv4
  ) px
def wpL_tells_2 (σ : SG) (ν : NU) (ρ : RH) (p2 : Int32) (p3 : Int32) (p4 : Int32) (p5 : Int32) (post : Int32 → SG → NU → Prop) (px : String → Prop) : Prop :=
  wpX6_strike σ ν p2 p3 (fun t4 vv5 =>
    post ((1 : Int32)) t4 vv5
  ) px
def wpL_tells_3 (σ : SG) (ν : NU) (ρ : RH) (p2 : Int32) (p3 : Int32) (p4 : Int32) (p5 : Int32) (post : Int32 → SG → NU → Prop) (px : String → Prop) : Prop :=
  wpX6_suspend σ ν p2 p3 p4 (fun t4 vv5 =>
    post ((1 : Int32)) t4 vv5
  ) px
def wpL_silent_0 (σ : SG) (ν : NU) (ρ : RH) (p2 : Int32) (p3 : Int32) (p4 : Int32) (p5 : Int32) (post : Int32 → SG → NU → Prop) : Prop :=
  wpL_tells_0 σ ν ρ p2 p3 p4 p5 (fun r1 t2 vv3 =>
    if r1.toInt = 0 then (
      post ((1 : Int32)) t2 vv3
    ) else (
      post ((0 : Int32)) t2 vv3
    )
  ) (fun E9 => hx9 E9 (fun k9 => post k9 σ ν))
def wpL_silent_1 (σ : SG) (ν : NU) (ρ : RH) (p2 : Int32) (p3 : Int32) (p4 : Int32) (p5 : Int32) (post : Int32 → SG → NU → Prop) : Prop :=
  wpL_tells_1 σ ν ρ p2 p3 p4 p5 (fun r1 t2 vv3 =>
    if r1.toInt = 0 then (
      post ((1 : Int32)) t2 vv3
    ) else (
      post ((0 : Int32)) t2 vv3
    )
  ) (fun E9 => hx9 E9 (fun k9 => post k9 σ ν))
def wpL_silent_2 (σ : SG) (ν : NU) (ρ : RH) (p2 : Int32) (p3 : Int32) (p4 : Int32) (p5 : Int32) (post : Int32 → SG → NU → Prop) : Prop :=
  wpL_tells_2 σ ν ρ p2 p3 p4 p5 (fun r1 t2 vv3 =>
    if r1.toInt = 0 then (
      post ((1 : Int32)) t2 vv3
    ) else (
      post ((0 : Int32)) t2 vv3
    )
  ) (fun E9 => hx9 E9 (fun k9 => post k9 σ ν))
def wpL_silent_3 (σ : SG) (ν : NU) (ρ : RH) (p2 : Int32) (p3 : Int32) (p4 : Int32) (p5 : Int32) (post : Int32 → SG → NU → Prop) : Prop :=
  wpL_tells_3 σ ν ρ p2 p3 p4 p5 (fun r1 t2 vv3 =>
    if r1.toInt = 0 then (
      post ((1 : Int32)) t2 vv3
    ) else (
      post ((0 : Int32)) t2 vv3
    )
  ) (fun E9 => hx9 E9 (fun k9 => post k9 σ ν))
def wpL_key (σ : SG) (ν : NU) (ρ : RH) (p0 : Int32) (post : Int32 → Prop) : Prop :=
  if (p0 - p0 / ((1000 : Int32)) * ((1000 : Int32))).toInt < 27 then (
    post (((p0 / ((1000 : Int32))) * ((1000 : Int32))) + (((27 : Int32)) * (p0 - p0 / ((1000 : Int32)) * ((1000 : Int32)))))
  ) else (
    post (((p0 / ((1000 : Int32))) * ((1000 : Int32))) + (p0 - p0 / ((1000 : Int32)) * ((1000 : Int32))))
  )
def jL_begins_51 (p4 : Int32)  (post : Int32 → Prop) (σ : SG) (ν : NU) (ρ : RH) (x5 : Int32) (y0 : Int32) : Prop :=
  vp_in p4 40 ∧
  vp_in ((6 : Int32)) 14 ∧
  if (((ρ 2 p4.toNatClampNeg) >>> (((3 : Int32)) &&& 31)) &&& ((8191 : Int32))).toInt ≤ (ρ 0 ((6 : Int32)).toNatClampNeg).toInt then (
    vp_in x5 40 ∧
    if ((ρ 1 x5.toNatClampNeg) - (ρ 1 x5.toNatClampNeg) / ((4 : Int32)) * ((4 : Int32))).toInt = 0 then (
      vp_in x5 40 ∧
      post ((ρ 1 x5.toNatClampNeg) / ((4 : Int32)))
    ) else (
      if y0.toInt = 0 then (
        post ((-1 : Int32))
      ) else (
        vp_in x5 40 ∧
        post (((ρ 3 x5.toNatClampNeg) &&& ((8191 : Int32))) - ((1 : Int32)))
      )
    )
  ) else (
    post ((-1 : Int32))
  )
def wL_begins_4 (p4 : Int32)  (post : Int32 → Prop) : Nat → SG → NU → RH → Int32 → Prop
  | 0, _, _, _, _ => False
  | n + 1, σ, ν, ρ, x5 =>
    vp_in x5 40 ∧
    if ((ρ 1 x5.toNatClampNeg) - (ρ 1 x5.toNatClampNeg) / ((4 : Int32)) * ((4 : Int32))).toInt = 2 then (
      vp_in x5 40 ∧
      wL_begins_4 p4 post n σ ν ρ ((ρ 1 x5.toNatClampNeg) / ((4 : Int32)))
    ) else (
      vp_in x5 40 ∧
      if (ρ 3 x5.toNatClampNeg).toInt ≤ 0 then (
        jL_begins_51 p4 post σ ν ρ x5 ((0 : Int32))
      ) else (
        vp_in x5 40 ∧
        vp_in ((6 : Int32)) 14 ∧
        if ((ρ 3 x5.toNatClampNeg) >>> (((13 : Int32)) &&& 31)).toInt ≤ (ρ 0 ((6 : Int32)).toNatClampNeg).toInt then (
          jL_begins_51 p4 post σ ν ρ x5 ((1 : Int32))
        ) else (
          jL_begins_51 p4 post σ ν ρ x5 ((0 : Int32))
        )
      )
    )
def wpL_begins (σ : SG) (ν : NU) (ρ : RH) (p4 : Int32) (post : Int32 → Prop) : Prop :=
  ∃ f, wL_begins_4 p4 post f σ ν ρ p4
def wL_all_61   (post : Int64 → Prop) : Nat → SG → NU → RH → Int64 → Int32 → Prop
  | 0, _, _, _, _, _ => False
  | n + 1, σ, ν, ρ, x2, x4 =>
    vp_in ((3 : Int32)) 14 ∧
    if x4.toInt < (ρ 0 ((3 : Int32)).toNatClampNeg).toInt then (
      wpX6_label σ ν x4 (fun r7 =>
        wpX6_parent σ ν x4 (fun r8 =>
          wpX6_words σ ν x4 (fun r9 =>
            wL_all_61  post n σ ν ρ ((((((31 : Int64)) * x2) + (r7.toInt64)) + (((7 : Int64)) * (r8.toInt64))) + (((3 : Int64)) * (r9.toInt64))) (x4 + (1 : Int32))
          ) (fun _ => False)
        ) (fun _ => False)
      ) (fun _ => False)
    ) else (
      post x2
    )
def wL_all_18   (post : Int64 → Prop) : Nat → SG → NU → RH → Int64 → Int32 → Prop
  | 0, _, _, _, _, _ => False
  | n + 1, σ, ν, ρ, x2, x4 =>
    vp_in ((2 : Int32)) 14 ∧
    if x4.toInt < (ρ 0 ((2 : Int32)).toNatClampNeg).toInt then (
      wpX6_state σ ν x4 (fun r11 =>
        wpX6_commences σ ν x4 (fun r12 =>
          wL_all_18  post n σ ν ρ (((((31 : Int64)) * x2) + (r11.toInt64)) + (((7 : Int64)) * (r12.toInt64))) (x4 + (1 : Int32))
        ) (fun _ => False)
      ) (fun _ => False)
    ) else (
      ∃ f, wL_all_61  post f σ ν ρ x2 ((0 : Int32))
    )
def wpL_all (σ : SG) (ν : NU) (ρ : RH)  (post : Int64 → Prop) : Prop :=
  wpX6_print σ ν (fun r1 =>
    wpX6_conflicts σ ν (fun r2 =>
      ∃ f, wL_all_18  post f σ ν ρ (r1 + (((31 : Int64)) * (r2.toInt64))) ((0 : Int32))
    )
  )
def jL_isRefused_870 (p2 : Int32)  (post : Int32 → SG → NU → Prop) (a1 : SG) (a2 : NU) (ρ : RH) (x6 : Int64) (y0 : Int32) : Prop :=
  if y0.toInt = 0 then (
    post ((0 : Int32)) a1 a2
  ) else (
    wpL_all a1 a2 ρ (fun r15 =>
      if (lg_cmp r15 x6).toInt = 0 then (
        post ((1 : Int32)) a1 a2
      ) else (
        post ((0 : Int32)) a1 a2
      )
    )
  )
def jL_isRefused_855 (p2 : Int32)  (post : Int32 → SG → NU → Prop) (a1 : SG) (a2 : NU) (ρ : RH) (x6 : Int64) (y0 : Nat) (y4 : Int32) : Prop :=
  wpL_does_4 a1 a2 ρ ((4 : Int32)) ((0 : Int32)) y4 ((0 : Int32)) (fun r30 t31 vv32 =>
    if r30.toInt = (-1382) then (
      jL_isRefused_870 p2 post t31 vv32 ρ x6 ((1 : Int32))
    ) else (
      jL_isRefused_870 p2 post t31 vv32 ρ x6 ((0 : Int32))
    )
  )
def jL_isRefused_814 (p2 : Int32)  (post : Int32 → SG → NU → Prop) (a1 : SG) (a2 : NU) (ρ : RH) (x3 : Int32) (x4 : Int32) (x6 : Int64) : Prop :=
  vp_in ((3 : Int32)) 14 ∧
  if (ρ 0 ((3 : Int32)).toNatClampNeg).toInt = 0 then (
    jL_isRefused_870 p2 post a1 a2 ρ x6 ((1 : Int32))
  ) else (
    wpL_does_4 a1 a2 ρ ((5 : Int32)) ((0 : Int32)) x4 ((0 : Int32)) (fun r21 t22 vv23 =>
      if r21.toInt = (-1381) then (
        if x3.toInt = 0 then (
          jL_isRefused_855 p2 post t22 vv23 ρ x6 0 ((100 : Int32))
        ) else (
          jL_isRefused_855 p2 post t22 vv23 ρ x6 0 (((0 : Int32)) - (p2 - p2 / ((30 : Int32)) * ((30 : Int32))))
        )
      ) else (
        jL_isRefused_870 p2 post t22 vv23 ρ x6 ((0 : Int32))
      )
    )
  )
def jL_isRefused_802 (p2 : Int32)  (post : Int32 → SG → NU → Prop) (a1 : SG) (a2 : NU) (ρ : RH) (x3 : Int32) (x4 : Int32) (x6 : Int64) (y0 : Nat) (y2 : Int32) : Prop :=
  wpL_does_4 a1 a2 ρ y2 ((0 : Int32)) ((0 : Int32)) ((0 : Int32)) (fun r75 t76 vv77 =>
    if r75.toInt = (-1382) then (
      jL_isRefused_814 p2 post t76 vv77 ρ x3 x4 x6
    ) else (
      jL_isRefused_870 p2 post t76 vv77 ρ x6 ((0 : Int32))
    )
  )
def jL_isRefused_775 (p2 : Int32)  (post : Int32 → SG → NU → Prop) (a1 : SG) (a2 : NU) (ρ : RH) (x3 : Int32) (x4 : Int32) (x6 : Int64) (y0 : Nat) (y4 : Int32) : Prop :=
  wpL_silent_3 a1 a2 ρ ((0 : Int32)) ((5 : Int32)) y4 ((0 : Int32)) (fun r66 t67 vv68 =>
    if r66.toInt = (-1382) then (
      if x3.toInt = 0 then (
        jL_isRefused_802 p2 post t67 vv68 ρ x3 x4 x6 0 ((8 : Int32))
      ) else (
        jL_isRefused_802 p2 post t67 vv68 ρ x3 x4 x6 0 (((0 : Int32)) - (p2 - p2 / ((30 : Int32)) * ((30 : Int32))))
      )
    ) else (
      jL_isRefused_870 p2 post t67 vv68 ρ x6 ((0 : Int32))
    )
  )
def jL_isRefused_742 (p2 : Int32)  (post : Int32 → SG → NU → Prop) (a1 : SG) (a2 : NU) (ρ : RH) (x3 : Int32) (x4 : Int32) (x6 : Int64) (y0 : Nat) (y3 : Int32) : Prop :=
  wpL_silent_3 a1 a2 ρ ((0 : Int32)) y3 ((5001 : Int32)) ((0 : Int32)) (fun r57 t58 vv59 =>
    if r57.toInt = (-1382) then (
      if x3.toInt = 0 then (
        jL_isRefused_775 p2 post t58 vv59 ρ x3 x4 x6 0 ((5001 : Int32))
      ) else (
        jL_isRefused_775 p2 post t58 vv59 ρ x3 x4 x6 0 (((4 : Int32)) - (p2 - p2 / ((30 : Int32)) * ((30 : Int32))))
      )
    ) else (
      jL_isRefused_870 p2 post t58 vv59 ρ x6 ((0 : Int32))
    )
  )
def jL_isRefused_712 (p2 : Int32)  (post : Int32 → SG → NU → Prop) (a1 : SG) (a2 : NU) (ρ : RH) (x3 : Int32) (x4 : Int32) (x6 : Int64) (y0 : Nat) (y3 : Int32) : Prop :=
  wpL_silent_2 a1 a2 ρ ((0 : Int32)) y3 ((0 : Int32)) ((0 : Int32)) (fun r48 t49 vv50 =>
    if r48.toInt = (-1382) then (
      if x3.toInt = 0 then (
        jL_isRefused_742 p2 post t49 vv50 ρ x3 x4 x6 0 ((5001 : Int32))
      ) else (
        jL_isRefused_742 p2 post t49 vv50 ρ x3 x4 x6 0 (((-1 : Int32)) - (p2 - p2 / ((30 : Int32)) * ((30 : Int32))))
      )
    ) else (
      jL_isRefused_870 p2 post t49 vv50 ρ x6 ((0 : Int32))
    )
  )
def jL_isRefused_682 (p2 : Int32)  (post : Int32 → SG → NU → Prop) (a1 : SG) (a2 : NU) (ρ : RH) (x3 : Int32) (x4 : Int32) (x6 : Int64) (y0 : Nat) (y3 : Int32) : Prop :=
  wpL_silent_1 a1 a2 ρ ((0 : Int32)) y3 ((0 : Int32)) ((0 : Int32)) (fun r39 t40 vv41 =>
    if r39.toInt = (-1382) then (
      if x3.toInt = 0 then (
        jL_isRefused_712 p2 post t40 vv41 ρ x3 x4 x6 0 (((5001 : Int32)) + (p2 - p2 / ((30 : Int32)) * ((30 : Int32))))
      ) else (
        jL_isRefused_712 p2 post t40 vv41 ρ x3 x4 x6 0 ((-1 : Int32))
      )
    ) else (
      jL_isRefused_870 p2 post t40 vv41 ρ x6 ((0 : Int32))
    )
  )
def jL_isRefused_650 (p2 : Int32)  (post : Int32 → SG → NU → Prop) (a1 : SG) (a2 : NU) (ρ : RH) (x3 : Int32) (x4 : Int32) (x6 : Int64) (y0 : Int32) : Prop :=
  if y0.toInt = 0 then (
    jL_isRefused_870 p2 post a1 a2 ρ x6 ((0 : Int32))
  ) else (
    vp_in ((2 : Int32)) 14 ∧
    if (ρ 0 ((2 : Int32)).toNatClampNeg).toInt = 0 then (
      jL_isRefused_814 p2 post a1 a2 ρ x3 x4 x6
    ) else (
      if x3.toInt = 0 then (
        jL_isRefused_682 p2 post a1 a2 ρ x3 x4 x6 0 ((5001 : Int32))
      ) else (
        jL_isRefused_682 p2 post a1 a2 ρ x3 x4 x6 0 (((-1 : Int32)) - (p2 - p2 / ((30 : Int32)) * ((30 : Int32))))
      )
    )
  )
def jL_isRefused_588 (p2 : Int32)  (post : Int32 → SG → NU → Prop) (a1 : SG) (a2 : NU) (ρ : RH) (x3 : Int32) (x4 : Int32) (x5 : Int32) (x6 : Int64) (y0 : Nat) (y5 : Int32) : Prop :=
  wpL_silent_0 a1 a2 ρ ((0 : Int32)) ((0 : Int32)) ((7 : Int32)) y5 (fun r123 t124 vv125 =>
    if r123.toInt = (-1382) then (
      wpL_silent_1 t124 vv125 ρ x5 ((-1 : Int32)) ((0 : Int32)) ((0 : Int32)) (fun r131 t132 vv133 =>
        if r131.toInt = (-1381) then (
          wpL_silent_2 t132 vv133 ρ x5 ((-1 : Int32)) ((0 : Int32)) ((0 : Int32)) (fun r139 t140 vv141 =>
            if r139.toInt = (-1381) then (
              wpL_silent_3 t140 vv141 ρ x5 ((-1 : Int32)) ((0 : Int32)) ((0 : Int32)) (fun r147 t148 vv149 =>
                if r147.toInt = (-1381) then (
                  jL_isRefused_650 p2 post t148 vv149 ρ x3 x4 x6 ((1 : Int32))
                ) else (
                  jL_isRefused_650 p2 post t148 vv149 ρ x3 x4 x6 ((0 : Int32))
                )
              )
            ) else (
              jL_isRefused_650 p2 post t140 vv141 ρ x3 x4 x6 ((0 : Int32))
            )
          )
        ) else (
          jL_isRefused_650 p2 post t132 vv133 ρ x3 x4 x6 ((0 : Int32))
        )
      )
    ) else (
      jL_isRefused_650 p2 post t124 vv125 ρ x3 x4 x6 ((0 : Int32))
    )
  )
def jL_isRefused_555 (p2 : Int32)  (post : Int32 → SG → NU → Prop) (a1 : SG) (a2 : NU) (ρ : RH) (x3 : Int32) (x4 : Int32) (x5 : Int32) (x6 : Int64) (y0 : Nat) (y4 : Int32) : Prop :=
  wpL_silent_0 a1 a2 ρ ((0 : Int32)) ((0 : Int32)) y4 ((-1 : Int32)) (fun r114 t115 vv116 =>
    if r114.toInt = (-1382) then (
      if x3.toInt = 0 then (
        jL_isRefused_588 p2 post t115 vv116 ρ x3 x4 x5 x6 0 ((5001 : Int32))
      ) else (
        jL_isRefused_588 p2 post t115 vv116 ρ x3 x4 x5 x6 0 (((-2 : Int32)) - (p2 - p2 / ((30 : Int32)) * ((30 : Int32))))
      )
    ) else (
      jL_isRefused_650 p2 post t115 vv116 ρ x3 x4 x6 ((0 : Int32))
    )
  )
def jL_isRefused_524 (p2 : Int32)  (post : Int32 → SG → NU → Prop) (a1 : SG) (a2 : NU) (ρ : RH) (x3 : Int32) (x4 : Int32) (x5 : Int32) (x6 : Int64) (y0 : Nat) (y3 : Int32) : Prop :=
  wpL_silent_0 a1 a2 ρ ((0 : Int32)) y3 ((7 : Int32)) ((-1 : Int32)) (fun r105 t106 vv107 =>
    if r105.toInt = (-1382) then (
      if x3.toInt = 0 then (
        jL_isRefused_555 p2 post t106 vv107 ρ x3 x4 x5 x6 0 ((8 : Int32))
      ) else (
        jL_isRefused_555 p2 post t106 vv107 ρ x3 x4 x5 x6 0 (((0 : Int32)) - (p2 - p2 / ((30 : Int32)) * ((30 : Int32))))
      )
    ) else (
      jL_isRefused_650 p2 post t106 vv107 ρ x3 x4 x6 ((0 : Int32))
    )
  )
def jL_isRefused_492 (p2 : Int32)  (post : Int32 → SG → NU → Prop) (a1 : SG) (a2 : NU) (ρ : RH) (x3 : Int32) (x4 : Int32) (x5 : Int32) (x6 : Int64) (y0 : Nat) (y2 : Int32) : Prop :=
  wpL_silent_0 a1 a2 ρ y2 ((0 : Int32)) ((7 : Int32)) ((-1 : Int32)) (fun r96 t97 vv98 =>
    if r96.toInt = (-1382) then (
      if x3.toInt = 0 then (
        jL_isRefused_524 p2 post t97 vv98 ρ x3 x4 x5 x6 0 (((5001 : Int32)) + (p2 - p2 / ((30 : Int32)) * ((30 : Int32))))
      ) else (
        jL_isRefused_524 p2 post t97 vv98 ρ x3 x4 x5 x6 0 ((-1 : Int32))
      )
    ) else (
      jL_isRefused_650 p2 post t97 vv98 ρ x3 x4 x6 ((0 : Int32))
    )
  )
def jL_isRefused_421 (p2 : Int32)  (post : Int32 → SG → NU → Prop) (a1 : SG) (a2 : NU) (ρ : RH) (x3 : Int32) (x4 : Int32) (x5 : Int32) (x6 : Int64) (x8 : Int32) : Prop :=
  if x8.toInt = 0 then (
    jL_isRefused_650 p2 post a1 a2 ρ x3 x4 x6 ((0 : Int32))
  ) else (
    wpL_does_14 a1 a2 ρ x5 ((0 : Int32)) ((0 : Int32)) ((0 : Int32)) (fun r83 =>
      if r83.toInt = (-1381) then (
        wpL_does_15 a1 a2 ρ x5 ((0 : Int32)) ((0 : Int32)) ((0 : Int32)) (fun r85 =>
          if r85.toInt = (-1381) then (
            wpL_silent_0 a1 a2 ρ ((2 : Int32)) x5 ((0 : Int32)) ((0 : Int32)) (fun r87 t88 vv89 =>
              if r87.toInt = (-1381) then (
                if x3.toInt = 0 then (
                  jL_isRefused_492 p2 post t88 vv89 ρ x3 x4 x5 x6 0 ((3 : Int32))
                ) else (
                  jL_isRefused_492 p2 post t88 vv89 ρ x3 x4 x5 x6 0 (((-1 : Int32)) - (p2 - p2 / ((30 : Int32)) * ((30 : Int32))))
                )
              ) else (
                jL_isRefused_650 p2 post t88 vv89 ρ x3 x4 x6 ((0 : Int32))
              )
            )
          ) else (
            jL_isRefused_650 p2 post a1 a2 ρ x3 x4 x6 ((0 : Int32))
          )
        )
      ) else (
        jL_isRefused_650 p2 post a1 a2 ρ x3 x4 x6 ((0 : Int32))
      )
    )
  )
def wL_isRefused_379 (p2 : Int32)  (post : Int32 → SG → NU → Prop) : Nat → SG → NU → RH → Int32 → Int32 → Int32 → Int64 → Int32 → Int32 → Prop
  | 0, _, _, _, _, _, _, _, _, _ => False
  | n + 1, a1, a2, ρ, x3, x4, x5, x6, x8, x9 =>
    if x9.toInt < 14 then (
      if x8.toInt = 0 then (
        jL_isRefused_421 p2 post a1 a2 ρ x3 x4 x5 x6 x8
      ) else (
        wpL_does a1 a2 ρ x9 x4 ((0 : Int32)) ((0 : Int32)) ((0 : Int32)) (fun r156 t157 vv158 =>
          if r156.toInt = (-1381) then (
            wL_isRefused_379 p2 post n t157 vv158 ρ x3 x4 x5 x6 ((1 : Int32)) (x9 + (1 : Int32))
          ) else (
            wL_isRefused_379 p2 post n t157 vv158 ρ x3 x4 x5 x6 ((0 : Int32)) (x9 + (1 : Int32))
          )
        )
      )
    ) else (
      jL_isRefused_421 p2 post a1 a2 ρ x3 x4 x5 x6 x8
    )
def jL_isRefused_337 (p2 : Int32)  (post : Int32 → SG → NU → Prop) (a1 : SG) (a2 : NU) (ρ : RH) (x3 : Int32) (x4 : Int32) (x5 : Int32) (x6 : Int64) (y0 : Nat) (y4 : Int32) : Prop :=
  wpL_does_5 a1 a2 ρ ((0 : Int32)) ((0 : Int32)) y4 ((0 : Int32)) (fun r258 t259 vv260 =>
    if r258.toInt = (-1382) then (
      wpL_does_6 t259 vv260 ρ (((-1 : Int32)) - (p2 - p2 / ((30 : Int32)) * ((30 : Int32)))) ((0 : Int32)) ((0 : Int32)) ((0 : Int32)) (fun r268 =>
        if r268.toInt = (-1381) then (
          ∃ f, f ≤ 8 ∧ wL_isRefused_379 p2 post f t259 vv260 ρ x3 x4 x5 x6 ((1 : Int32)) ((7 : Int32))
        ) else (
          ∃ f, f ≤ 8 ∧ wL_isRefused_379 p2 post f t259 vv260 ρ x3 x4 x5 x6 ((0 : Int32)) ((7 : Int32))
        )
      )
    ) else (
      ∃ f, f ≤ 8 ∧ wL_isRefused_379 p2 post f t259 vv260 ρ x3 x4 x5 x6 ((0 : Int32)) ((7 : Int32))
    )
  )
def jL_isRefused_308 (p2 : Int32)  (post : Int32 → SG → NU → Prop) (a1 : SG) (a2 : NU) (ρ : RH) (x3 : Int32) (x4 : Int32) (x5 : Int32) (x6 : Int64) (y0 : Nat) (y3 : Int32) : Prop :=
  wpL_does_5 a1 a2 ρ ((0 : Int32)) y3 ((0 : Int32)) ((0 : Int32)) (fun r247 t248 vv249 =>
    if r247.toInt = (-1382) then (
      if x3.toInt = 0 then (
        jL_isRefused_337 p2 post t248 vv249 ρ x3 x4 x5 x6 0 ((3 : Int32))
      ) else (
        jL_isRefused_337 p2 post t248 vv249 ρ x3 x4 x5 x6 0 (((-1 : Int32)) - (p2 - p2 / ((30 : Int32)) * ((30 : Int32))))
      )
    ) else (
      ∃ f, f ≤ 8 ∧ wL_isRefused_379 p2 post f t248 vv249 ρ x3 x4 x5 x6 ((0 : Int32)) ((7 : Int32))
    )
  )
def jL_isRefused_275 (p2 : Int32)  (post : Int32 → SG → NU → Prop) (a1 : SG) (a2 : NU) (ρ : RH) (x3 : Int32) (x4 : Int32) (x5 : Int32) (x6 : Int64) (y0 : Nat) (y2 : Int32) : Prop :=
  wpL_does_5 a1 a2 ρ y2 ((0 : Int32)) ((0 : Int32)) ((0 : Int32)) (fun r235 t236 vv237 =>
    if r235.toInt = (-1382) then (
      if x3.toInt = 0 then (
        vp_in ((0 : Int32)) 14 ∧
        jL_isRefused_308 p2 post t236 vv237 ρ x3 x4 x5 x6 0 (((ρ 0 ((0 : Int32)).toNatClampNeg) + ((1 : Int32))) + (p2 - p2 / ((30 : Int32)) * ((30 : Int32))))
      ) else (
        jL_isRefused_308 p2 post t236 vv237 ρ x3 x4 x5 x6 0 ((-1 : Int32))
      )
    ) else (
      ∃ f, f ≤ 8 ∧ wL_isRefused_379 p2 post f t236 vv237 ρ x3 x4 x5 x6 ((0 : Int32)) ((7 : Int32))
    )
  )
def jL_isRefused_191 (p2 : Int32)  (post : Int32 → SG → NU → Prop) (a1 : SG) (a2 : NU) (ρ : RH) (x3 : Int32) (x4 : Int32) (x5 : Int32) (x6 : Int64) (y0 : Nat) (y4 : Int32) : Prop :=
  wpL_does_3 a1 a2 ρ ((-1 : Int32)) ((5 : Int32)) y4 ((0 : Int32)) (fun r194 t195 vv196 =>
    if r194.toInt = (-1382) then (
      wpL_does_3 t195 vv196 ρ ((-1 : Int32)) ((5 : Int32)) (((27 : Int32)) * (((1 : Int32)) + (p2 - p2 / ((26 : Int32)) * ((26 : Int32))))) ((0 : Int32)) (fun r204 t205 vv206 =>
        if r204.toInt = (-1382) then (
          wpL_does_4 t205 vv206 ρ ((1 : Int32)) x4 ((0 : Int32)) ((0 : Int32)) (fun r214 t215 vv216 =>
            if r214.toInt = (-1381) then (
              wpL_does_4 t215 vv216 ρ ((7 : Int32)) x5 ((0 : Int32)) ((0 : Int32)) (fun r224 t225 vv226 =>
                if r224.toInt = (-1381) then (
                  if x3.toInt = 0 then (
                    jL_isRefused_275 p2 post t225 vv226 ρ x3 x4 x5 x6 0 ((5001 : Int32))
                  ) else (
                    jL_isRefused_275 p2 post t225 vv226 ρ x3 x4 x5 x6 0 (((-1 : Int32)) - (p2 - p2 / ((30 : Int32)) * ((30 : Int32))))
                  )
                ) else (
                  ∃ f, f ≤ 8 ∧ wL_isRefused_379 p2 post f t225 vv226 ρ x3 x4 x5 x6 ((0 : Int32)) ((7 : Int32))
                )
              )
            ) else (
              ∃ f, f ≤ 8 ∧ wL_isRefused_379 p2 post f t215 vv216 ρ x3 x4 x5 x6 ((0 : Int32)) ((7 : Int32))
            )
          )
        ) else (
          ∃ f, f ≤ 8 ∧ wL_isRefused_379 p2 post f t205 vv206 ρ x3 x4 x5 x6 ((0 : Int32)) ((7 : Int32))
        )
      )
    ) else (
      ∃ f, f ≤ 8 ∧ wL_isRefused_379 p2 post f t195 vv196 ρ x3 x4 x5 x6 ((0 : Int32)) ((7 : Int32))
    )
  )
def jL_isRefused_160 (p2 : Int32)  (post : Int32 → SG → NU → Prop) (a1 : SG) (a2 : NU) (ρ : RH) (x3 : Int32) (x4 : Int32) (x5 : Int32) (x6 : Int64) (y0 : Nat) (y3 : Int32) : Prop :=
  wpL_does_3 a1 a2 ρ ((-1 : Int32)) y3 ((0 : Int32)) ((0 : Int32)) (fun r183 t184 vv185 =>
    if r183.toInt = (-1382) then (
      if x3.toInt = 0 then (
        jL_isRefused_191 p2 post t184 vv185 ρ x3 x4 x5 x6 0 (((729 : Int32)) + (p2 - p2 / ((30 : Int32)) * ((30 : Int32))))
      ) else (
        jL_isRefused_191 p2 post t184 vv185 ρ x3 x4 x5 x6 0 ((-1 : Int32))
      )
    ) else (
      ∃ f, f ≤ 8 ∧ wL_isRefused_379 p2 post f t184 vv185 ρ x3 x4 x5 x6 ((0 : Int32)) ((7 : Int32))
    )
  )
def jL_isRefused_114 (p2 : Int32)  (post : Int32 → SG → NU → Prop) (a1 : SG) (a2 : NU) (ρ : RH) (x3 : Int32) (x4 : Int32) (x5 : Int32) (x6 : Int64) (y0 : Nat) (y2 : Int32) : Prop :=
  wpL_does_2 a1 a2 ρ y2 ((0 : Int32)) ((0 : Int32)) ((0 : Int32)) (fun r167 t168 =>
    if r167.toInt = (-1382) then (
      wpL_does_3 t168 a2 ρ x4 ((0 : Int32)) ((0 : Int32)) ((0 : Int32)) (fun r172 t173 vv174 =>
        if r172.toInt = (-1381) then (
          if x3.toInt = 0 then (
            jL_isRefused_160 p2 post t173 vv174 ρ x3 x4 x5 x6 0 ((100 : Int32))
          ) else (
            jL_isRefused_160 p2 post t173 vv174 ρ x3 x4 x5 x6 0 (((0 : Int32)) - (p2 - p2 / ((30 : Int32)) * ((30 : Int32))))
          )
        ) else (
          ∃ f, f ≤ 8 ∧ wL_isRefused_379 p2 post f t173 vv174 ρ x3 x4 x5 x6 ((0 : Int32)) ((7 : Int32))
        )
      )
    ) else (
      ∃ f, f ≤ 8 ∧ wL_isRefused_379 p2 post f t168 a2 ρ x3 x4 x5 x6 ((0 : Int32)) ((7 : Int32))
    )
  )
def jL_isRefused_84 (p2 : Int32)  (post : Int32 → SG → NU → Prop) (a1 : SG) (a2 : NU) (ρ : RH) (x3 : Int32) (x4 : Int32) (x5 : Int32) (x6 : Int64) (y0 : Nat) (y2 : Int32) : Prop :=
  wpL_does_0 a1 a2 ρ y2 ((0 : Int32)) ((0 : Int32)) ((0 : Int32)) (fun r8 t9 =>
    if r8.toInt = (-1382) then (
      if x3.toInt = 0 then (
        jL_isRefused_114 p2 post t9 a2 ρ x3 x4 x5 x6 0 ((140 : Int32))
      ) else (
        jL_isRefused_114 p2 post t9 a2 ρ x3 x4 x5 x6 0 (((-1 : Int32)) - (p2 - p2 / ((30 : Int32)) * ((30 : Int32))))
      )
    ) else (
      ∃ f, f ≤ 8 ∧ wL_isRefused_379 p2 post f t9 a2 ρ x3 x4 x5 x6 ((0 : Int32)) ((7 : Int32))
    )
  )
def jL_isRefused_57 (p2 : Int32)  (post : Int32 → SG → NU → Prop) (a1 : SG) (a2 : NU) (ρ : RH) (x3 : Int32) (x4 : Int32) (y0 : Int32) : Prop :=
  wpL_all a1 a2 ρ (fun r6 =>
    if x3.toInt = 0 then (
      jL_isRefused_84 p2 post a1 a2 ρ x3 x4 y0 r6 0 ((501 : Int32))
    ) else (
      jL_isRefused_84 p2 post a1 a2 ρ x3 x4 y0 r6 0 (((0 : Int32)) - (p2 - p2 / ((30 : Int32)) * ((30 : Int32))))
    )
  )
def jL_isRefused_34 (p2 : Int32)  (post : Int32 → SG → NU → Prop) (a1 : SG) (a2 : NU) (ρ : RH) (x3 : Int32) (y0 : Int32) : Prop :=
  if x3.toInt = 0 then (
    vp_in ((2 : Int32)) 14 ∧
    jL_isRefused_57 p2 post a1 a2 ρ x3 y0 ((ρ 0 ((2 : Int32)).toNatClampNeg) + (p2 - p2 / ((30 : Int32)) * ((30 : Int32))))
  ) else (
    jL_isRefused_57 p2 post a1 a2 ρ x3 y0 (((-1 : Int32)) - (p2 - p2 / ((30 : Int32)) * ((30 : Int32))))
  )
def jL_isRefused_11 (p2 : Int32)  (post : Int32 → SG → NU → Prop) (a1 : SG) (a2 : NU) (ρ : RH) (y0 : Int32) : Prop :=
  if y0.toInt = 0 then (
    vp_in ((3 : Int32)) 14 ∧
    jL_isRefused_34 p2 post a1 a2 ρ y0 ((ρ 0 ((3 : Int32)).toNatClampNeg) + (p2 - p2 / ((30 : Int32)) * ((30 : Int32))))
  ) else (
    jL_isRefused_34 p2 post a1 a2 ρ y0 (((-2 : Int32)) - (p2 - p2 / ((30 : Int32)) * ((30 : Int32))))
  )
def wpL_isRefused (σ : SG) (ν : NU) (ρ : RH) (p2 : Int32) (post : Int32 → SG → NU → Prop) : Prop :=
  if (p2 - p2 / ((2 : Int32)) * ((2 : Int32))).toInt = 0 then (
    jL_isRefused_11 p2 post σ ν ρ ((1 : Int32))
  ) else (
    jL_isRefused_11 p2 post σ ν ρ ((0 : Int32))
  )
def jL_areSound_776 (p5 : Int32)  (post : Int32 → SG → NU → Prop) (a1 : SG) (a2 : NU) (ρ : RH) (x6 : Int32) : Prop :=
  if x6.toInt = 0 then (
    post ((0 : Int32)) a1 a2
  ) else (
    wpX6_conflicts a1 a2 (fun r8 =>
      if r8.toInt < 0 then (
        post ((0 : Int32)) a1 a2
      ) else (
        post ((1 : Int32)) a1 a2
      )
    )
  )
def jL_areSound_730 (p5 : Int32) (κ687 : SG → NU → RH → Int32 → Int32 → Int32 → Prop) (post : Int32 → SG → NU → Prop) (a1 : SG) (a2 : NU) (ρ : RH) (x7 : Int32) (x9 : Int32) (y0 : Int32) (y1 : Int32) : Prop :=
  if y0.toInt = y1.toInt then (
    wpX6_label a1 a2 x9 (fun r15 =>
      if r15.toInt = (-1) then (
        wpX6_parent a1 a2 x9 (fun r17 =>
          if r17.toInt = (-1) then (
            wpX6_words a1 a2 x9 (fun r19 =>
              if r19.toInt = (-1) then (
                κ687 a1 a2 ρ ((1 : Int32)) x7 (x9 + (1 : Int32))
              ) else (
                κ687 a1 a2 ρ ((0 : Int32)) x7 (x9 + (1 : Int32))
              )
            ) (fun _ => False)
          ) else (
            κ687 a1 a2 ρ ((0 : Int32)) x7 (x9 + (1 : Int32))
          )
        ) (fun _ => False)
      ) else (
        κ687 a1 a2 ρ ((1 : Int32)) x7 (x9 + (1 : Int32))
      )
    ) (fun _ => False)
  ) else (
    κ687 a1 a2 ρ ((0 : Int32)) x7 (x9 + (1 : Int32))
  )
def jL_areSound_715 (p5 : Int32) (κ687 : SG → NU → RH → Int32 → Int32 → Int32 → Prop) (post : Int32 → SG → NU → Prop) (a1 : SG) (a2 : NU) (ρ : RH) (x7 : Int32) (x9 : Int32) (y0 : Int32) : Prop :=
  if ((x7 >>> (x9 &&& 31)) &&& ((1 : Int32))).toInt = 0 then (
    jL_areSound_730 p5 κ687 post a1 a2 ρ x7 x9 y0 ((1 : Int32))
  ) else (
    jL_areSound_730 p5 κ687 post a1 a2 ρ x7 x9 y0 ((0 : Int32))
  )
def wL_areSound_687 (p5 : Int32)  (post : Int32 → SG → NU → Prop) : Nat → SG → NU → RH → Int32 → Int32 → Int32 → Prop
  | 0, _, _, _, _, _, _ => False
  | n + 1, a1, a2, ρ, x6, x7, x9 =>
    vp_in ((3 : Int32)) 14 ∧
    if x9.toInt < (ρ 0 ((3 : Int32)).toNatClampNeg).toInt then (
      if x6.toInt = 0 then (
        jL_areSound_776 p5 post a1 a2 ρ x6
      ) else (
        wpX6_label a1 a2 x9 (fun r11 =>
          if r11.toInt = (-1) then (
            jL_areSound_715 p5 (wL_areSound_687 p5 post n) post a1 a2 ρ x7 x9 ((1 : Int32))
          ) else (
            jL_areSound_715 p5 (wL_areSound_687 p5 post n) post a1 a2 ρ x7 x9 ((0 : Int32))
          )
        ) (fun _ => False)
      )
    ) else (
      jL_areSound_776 p5 post a1 a2 ρ x6
    )
def jL_areSound_641 (p5 : Int32) (κ152 : SG → NU → RH → Int32 → Int32 → Int32 → Int32 → Prop) (post : Int32 → SG → NU → Prop) (a1 : SG) (a2 : NU) (ρ : RH) (x6 : Int32) (x7 : Int32) (x9 : Int32) (x10 : Int32) : Prop :=
  κ152 a1 a2 ρ x6 (x7 ||| (((1 : Int32)) <<< (x10 &&& 31))) x10 (x9 + (1 : Int32))
def jL_areSound_611 (p5 : Int32) (κ152 : SG → NU → RH → Int32 → Int32 → Int32 → Int32 → Prop) (κ417 : SG → NU → RH → Int32 → Int32 → Int32 → Int32 → Int32 → Int32 → Prop) (post : Int32 → SG → NU → Prop) (a1 : SG) (a2 : NU) (ρ : RH) (x7 : Int32) (x9 : Int32) (x10 : Int32) (x12 : Int32) (x14 : Int32) (x15 : Int32) (x17 : Int32) : Prop :=
  vp_in ((3 : Int32)) 14 ∧
  if (x15 - ((100 : Int32))).toInt < (ρ 0 ((3 : Int32)).toNatClampNeg).toInt then (
    κ417 a1 a2 ρ ((0 : Int32)) x7 x9 x10 x12 (x14 + (2 : Int32))
  ) else (
    if x17.toInt = (-1) then (
      κ417 a1 a2 ρ ((1 : Int32)) x7 x9 x10 x12 (x14 + (2 : Int32))
    ) else (
      κ417 a1 a2 ρ ((0 : Int32)) x7 x9 x10 x12 (x14 + (2 : Int32))
    )
  )
def jL_areSound_565 (p5 : Int32) (κ152 : SG → NU → RH → Int32 → Int32 → Int32 → Int32 → Prop) (κ417 : SG → NU → RH → Int32 → Int32 → Int32 → Int32 → Int32 → Int32 → Prop) (post : Int32 → SG → NU → Prop) (a1 : SG) (a2 : NU) (ρ : RH) (x7 : Int32) (x9 : Int32) (x10 : Int32) (x12 : Int32) (x14 : Int32) (x15 : Int32) (x17 : Int32) (y0 : Int32) : Prop :=
  if y0.toInt = 0 then (
    κ417 a1 a2 ρ ((0 : Int32)) x7 x9 x10 x12 (x14 + (2 : Int32))
  ) else (
    if x15.toInt < 100 then (
      κ417 a1 a2 ρ ((1 : Int32)) x7 x9 x10 x12 (x14 + (2 : Int32))
    ) else (
      if x15.toInt ≤ 119 then (
        vp_in ((3 : Int32)) 14 ∧
        if (x15 - ((100 : Int32))).toInt < (ρ 0 ((3 : Int32)).toNatClampNeg).toInt then (
          wpX6_label a1 a2 (x15 - ((100 : Int32))) (fun r58 =>
            if x17.toInt = r58.toInt then (
              κ417 a1 a2 ρ ((1 : Int32)) x7 x9 x10 x12 (x14 + (2 : Int32))
            ) else (
              jL_areSound_611 p5 κ152 κ417 post a1 a2 ρ x7 x9 x10 x12 x14 x15 x17
            )
          ) (fun _ => False)
        ) else (
          jL_areSound_611 p5 κ152 κ417 post a1 a2 ρ x7 x9 x10 x12 x14 x15 x17
        )
      ) else (
        κ417 a1 a2 ρ ((1 : Int32)) x7 x9 x10 x12 (x14 + (2 : Int32))
      )
    )
  )
def jL_areSound_479 (p5 : Int32) (κ152 : SG → NU → RH → Int32 → Int32 → Int32 → Int32 → Prop) (κ417 : SG → NU → RH → Int32 → Int32 → Int32 → Int32 → Int32 → Int32 → Prop) (post : Int32 → SG → NU → Prop) (a1 : SG) (a2 : NU) (ρ : RH) (x7 : Int32) (x9 : Int32) (x10 : Int32) (x12 : Int32) (x14 : Int32) (x15 : Int32) (x16 : Int32) (y0 : Int32) : Prop :=
  if x15.toInt < 0 then (
    jL_areSound_565 p5 κ152 κ417 post a1 a2 ρ x7 x9 x10 x12 x14 x15 y0 ((0 : Int32))
  ) else (
    if x15.toInt < 140 then (
      wpX6_wordAnew a1 a2 x10 x14 (fun r61 t62 =>
        if r61.toInt = x15.toInt then (
          if x16.toInt < 0 then (
            jL_areSound_565 p5 κ152 κ417 post t62 a2 ρ x7 x9 x10 x12 x14 x15 y0 ((0 : Int32))
          ) else (
            vp_in ((2 : Int32)) 14 ∧
            if x16.toInt < (ρ 0 ((2 : Int32)).toNatClampNeg).toInt then (
              wpX6_state t62 a2 x16 (fun r67 =>
                if r67.toInt = 1 then (
                  if x15.toInt ≤ 99 then (
                    if y0.toInt = (-1) then (
                      jL_areSound_565 p5 κ152 κ417 post t62 a2 ρ x7 x9 x10 x12 x14 x15 y0 ((1 : Int32))
                    ) else (
                      jL_areSound_565 p5 κ152 κ417 post t62 a2 ρ x7 x9 x10 x12 x14 x15 y0 ((0 : Int32))
                    )
                  ) else (
                    if y0.toInt = (-1) then (
                      jL_areSound_565 p5 κ152 κ417 post t62 a2 ρ x7 x9 x10 x12 x14 x15 y0 ((1 : Int32))
                    ) else (
                      if y0.toInt ≤ 999 then (
                        jL_areSound_565 p5 κ152 κ417 post t62 a2 ρ x7 x9 x10 x12 x14 x15 y0 ((0 : Int32))
                      ) else (
                        jL_areSound_565 p5 κ152 κ417 post t62 a2 ρ x7 x9 x10 x12 x14 x15 y0 ((1 : Int32))
                      )
                    )
                  )
                ) else (
                  jL_areSound_565 p5 κ152 κ417 post t62 a2 ρ x7 x9 x10 x12 x14 x15 y0 ((0 : Int32))
                )
              ) (fun _ => False)
            ) else (
              jL_areSound_565 p5 κ152 κ417 post t62 a2 ρ x7 x9 x10 x12 x14 x15 y0 ((0 : Int32))
            )
          )
        ) else (
          jL_areSound_565 p5 κ152 κ417 post t62 a2 ρ x7 x9 x10 x12 x14 x15 y0 ((0 : Int32))
        )
      ) (fun _ _ => False)
    ) else (
      jL_areSound_565 p5 κ152 κ417 post a1 a2 ρ x7 x9 x10 x12 x14 x15 y0 ((0 : Int32))
    )
  )
def jL_areSound_467 (p5 : Int32) (κ152 : SG → NU → RH → Int32 → Int32 → Int32 → Int32 → Prop) (κ417 : SG → NU → RH → Int32 → Int32 → Int32 → Int32 → Int32 → Int32 → Prop) (post : Int32 → SG → NU → Prop) (a1 : SG) (a2 : NU) (ρ : RH) (x7 : Int32) (x9 : Int32) (x10 : Int32) (x12 : Int32) (x14 : Int32) (x15 : Int32) (x16 : Int32) : Prop :=
  wpX6_refers a1 a2 x10 x14 (fun r42 t43 vv44 =>
    jL_areSound_479 p5 κ152 κ417 post t43 vv44 ρ x7 x9 x10 x12 x14 x15 x16 r42
  ) (fun _ => False)
def wL_areSound_417 (p5 : Int32) (κ152 : SG → NU → RH → Int32 → Int32 → Int32 → Int32 → Prop) (post : Int32 → SG → NU → Prop) : Nat → SG → NU → RH → Int32 → Int32 → Int32 → Int32 → Int32 → Int32 → Prop
  | 0, _, _, _, _, _, _, _, _, _ => False
  | n + 1, a1, a2, ρ, x6, x7, x9, x10, x12, x14 =>
    if x14.toInt < x12.toInt then (
      if x6.toInt = 0 then (
        jL_areSound_641 p5 κ152 post a1 a2 ρ x6 x7 x9 x10
      ) else (
        wpX6_wordAt a1 a2 x10 x14 (fun r37 =>
          wpX6_origin a1 a2 x10 x14 (fun r38 =>
            vp_in ((3 : Int32)) 14 ∧
            (¬ ρ 0 ((3 : Int32)).toNatClampNeg = 0) ∧
            if x10.toInt = (p5 - p5 / (ρ 0 ((3 : Int32)).toNatClampNeg) * (ρ 0 ((3 : Int32)).toNatClampNeg)).toInt then (
              jL_areSound_467 p5 κ152 (wL_areSound_417 p5 κ152 post n) post a1 a2 ρ x7 x9 x10 x12 x14 r37 r38
            ) else (
              if r37.toInt < 120 then (
                jL_areSound_467 p5 κ152 (wL_areSound_417 p5 κ152 post n) post a1 a2 ρ x7 x9 x10 x12 x14 r37 r38
              ) else (
                jL_areSound_479 p5 κ152 (wL_areSound_417 p5 κ152 post n) post a1 a2 ρ x7 x9 x10 x12 x14 r37 r38 ((-1 : Int32))
              )
            )
          ) (fun _ => False)
        ) (fun _ => False)
      )
    ) else (
      jL_areSound_641 p5 κ152 post a1 a2 ρ x6 x7 x9 x10
    )
def jL_areSound_345 (p5 : Int32) (κ152 : SG → NU → RH → Int32 → Int32 → Int32 → Int32 → Prop) (post : Int32 → SG → NU → Prop) (a1 : SG) (a2 : NU) (ρ : RH) (x6 : Int32) (x7 : Int32) (x8 : Int32) (x9 : Int32) (x10 : Int32) (x11 : Int32) (x12 : Int32) (x13 : Int32) : Prop :=
  if x6.toInt = 0 then (
    ∃ f, f ≤ 7 ∧ wL_areSound_417 p5 κ152 post f a1 a2 ρ ((0 : Int32)) x7 x9 x10 x12 ((0 : Int32))
  ) else (
    if x8.toInt < 0 then (
      if x11.toInt = (-1) then (
        ∃ f, f ≤ 7 ∧ wL_areSound_417 p5 κ152 post f a1 a2 ρ ((1 : Int32)) x7 x9 x10 x12 ((0 : Int32))
      ) else (
        ∃ f, f ≤ 7 ∧ wL_areSound_417 p5 κ152 post f a1 a2 ρ ((0 : Int32)) x7 x9 x10 x12 ((0 : Int32))
      )
    ) else (
      if x13.toInt < 0 then (
        ∃ f, f ≤ 7 ∧ wL_areSound_417 p5 κ152 post f a1 a2 ρ ((0 : Int32)) x7 x9 x10 x12 ((0 : Int32))
      ) else (
        if x13.toInt = x11.toInt then (
          if x13.toInt = x8.toInt then (
            ∃ f, f ≤ 7 ∧ wL_areSound_417 p5 κ152 post f a1 a2 ρ ((1 : Int32)) x7 x9 x10 x12 ((0 : Int32))
          ) else (
            ∃ f, f ≤ 7 ∧ wL_areSound_417 p5 κ152 post f a1 a2 ρ ((0 : Int32)) x7 x9 x10 x12 ((0 : Int32))
          )
        ) else (
          wpX6_label a1 a2 x13 (fun r81 =>
            wpL_key a1 a2 ρ r81 (fun r82 =>
              wpX6_label a1 a2 x10 (fun r83 =>
                wpL_key a1 a2 ρ r83 (fun r84 =>
                  if r82.toInt < r84.toInt then (
                    ∃ f, f ≤ 7 ∧ wL_areSound_417 p5 κ152 post f a1 a2 ρ ((1 : Int32)) x7 x9 x10 x12 ((0 : Int32))
                  ) else (
                    ∃ f, f ≤ 7 ∧ wL_areSound_417 p5 κ152 post f a1 a2 ρ ((0 : Int32)) x7 x9 x10 x12 ((0 : Int32))
                  )
                )
              ) (fun _ => False)
            )
          ) (fun _ => False)
        )
      )
    )
  )
def wL_areSound_301 (p5 : Int32) (κ152 : SG → NU → RH → Int32 → Int32 → Int32 → Int32 → Prop) (post : Int32 → SG → NU → Prop) : Nat → SG → NU → RH → Int32 → Int32 → Int32 → Int32 → Int32 → Int32 → Int32 → Int32 → Int32 → Prop
  | 0, _, _, _, _, _, _, _, _, _, _, _, _ => False
  | n + 1, a1, a2, ρ, x6, x7, x8, x9, x10, x11, x12, x13, x14 =>
    if x14.toInt < 20 then (
      if x13.toInt < 0 then (
        jL_areSound_345 p5 κ152 post a1 a2 ρ x6 x7 x8 x9 x10 x11 x12 x13
      ) else (
        wpX6_parent a1 a2 x13 (fun r101 =>
          if r101.toInt = x11.toInt then (
            jL_areSound_345 p5 κ152 post a1 a2 ρ x6 x7 x8 x9 x10 x11 x12 x13
          ) else (
            if x13.toInt = x11.toInt then (
              jL_areSound_345 p5 κ152 post a1 a2 ρ x6 x7 x8 x9 x10 x11 x12 x13
            ) else (
              wpX6_parent a1 a2 x13 (fun r104 =>
                wL_areSound_301 p5 κ152 post n a1 a2 ρ x6 x7 x8 x9 x10 x11 x12 r104 (x14 + (1 : Int32))
              ) (fun _ => False)
            )
          )
        ) (fun _ => False)
      )
    ) else (
      jL_areSound_345 p5 κ152 post a1 a2 ρ x6 x7 x8 x9 x10 x11 x12 x13
    )
def jL_areSound_292 (p5 : Int32) (κ152 : SG → NU → RH → Int32 → Int32 → Int32 → Int32 → Prop) (post : Int32 → SG → NU → Prop) (a1 : SG) (a2 : NU) (ρ : RH) (x7 : Int32) (x8 : Int32) (x9 : Int32) (x10 : Int32) (x11 : Int32) (x12 : Int32) (y0 : Int32) : Prop :=
  ∃ f, wL_areSound_301 p5 κ152 post f a1 a2 ρ y0 x7 x8 x9 x10 x11 x12 x8 ((0 : Int32))
def jL_areSound_229 (p5 : Int32) (κ152 : SG → NU → RH → Int32 → Int32 → Int32 → Int32 → Prop) (post : Int32 → SG → NU → Prop) (a1 : SG) (a2 : NU) (ρ : RH) (x7 : Int32) (x8 : Int32) (x9 : Int32) (x10 : Int32) (x11 : Int32) (x12 : Int32) : Prop :=
  if x12.toInt < 0 then (
    jL_areSound_292 p5 κ152 post a1 a2 ρ x7 x8 x9 x10 x11 x12 ((0 : Int32))
  ) else (
    if x12.toInt ≤ 12 then (
      wpX6_label a1 a2 x10 (fun r110 =>
        if r110.toInt ≤ 999 then (
          jL_areSound_292 p5 κ152 post a1 a2 ρ x7 x8 x9 x10 x11 x12 ((0 : Int32))
        ) else (
          wpL_does_10 a1 a2 ρ x10 x12 ((0 : Int32)) ((0 : Int32)) (fun r112 =>
            if r112.toInt = (-1381) then (
              wpL_does_11 a1 a2 ρ x10 x12 ((0 : Int32)) ((0 : Int32)) (fun r114 t115 =>
                if r114.toInt = (-1) then (
                  jL_areSound_292 p5 κ152 post t115 a2 ρ x7 x8 x9 x10 x11 x12 ((1 : Int32))
                ) else (
                  jL_areSound_292 p5 κ152 post t115 a2 ρ x7 x8 x9 x10 x11 x12 ((0 : Int32))
                )
              )
            ) else (
              jL_areSound_292 p5 κ152 post a1 a2 ρ x7 x8 x9 x10 x11 x12 ((0 : Int32))
            )
          )
        )
      ) (fun _ => False)
    ) else (
      jL_areSound_292 p5 κ152 post a1 a2 ρ x7 x8 x9 x10 x11 x12 ((0 : Int32))
    )
  )
def wL_areSound_152 (p5 : Int32)  (post : Int32 → SG → NU → Prop) : Nat → SG → NU → RH → Int32 → Int32 → Int32 → Int32 → Prop
  | 0, _, _, _, _, _, _, _ => False
  | n + 1, a1, a2, ρ, x6, x7, x8, x9 =>
    vp_in ((3 : Int32)) 14 ∧
    if x9.toInt ≤ (ρ 0 ((3 : Int32)).toNatClampNeg).toInt then (
      if x6.toInt = 0 then (
        ∃ f, wL_areSound_687 p5 post f a1 a2 ρ x6 x7 ((0 : Int32))
      ) else (
        wpX6_provisionAt a1 a2 x9 (fun r24 =>
          if r24.toInt < 0 then (
            if r24.toInt = (-1) then (
              vp_in ((3 : Int32)) 14 ∧
              if x9.toInt ≤ (ρ 0 ((3 : Int32)).toNatClampNeg).toInt then (
                wL_areSound_152 p5 post n a1 a2 ρ ((1 : Int32)) x7 x8 (x9 + (1 : Int32))
              ) else (
                wL_areSound_152 p5 post n a1 a2 ρ ((0 : Int32)) x7 x8 (x9 + (1 : Int32))
              )
            ) else (
              wL_areSound_152 p5 post n a1 a2 ρ ((0 : Int32)) x7 x8 (x9 + (1 : Int32))
            )
          ) else (
            wpX6_parent a1 a2 r24 (fun r29 =>
              wpX6_words a1 a2 r24 (fun r30 =>
                vp_in ((3 : Int32)) 14 ∧
                if x9.toInt < (ρ 0 ((3 : Int32)).toNatClampNeg).toInt then (
                  if ((x7 >>> (r24 &&& 31)) &&& ((1 : Int32))).toInt = 0 then (
                    if r29.toInt = (-1) then (
                      jL_areSound_229 p5 (wL_areSound_152 p5 post n) post a1 a2 ρ x7 x8 x9 r24 r29 r30
                    ) else (
                      if ((x7 >>> (r29 &&& 31)) &&& ((1 : Int32))).toInt = 1 then (
                        jL_areSound_229 p5 (wL_areSound_152 p5 post n) post a1 a2 ρ x7 x8 x9 r24 r29 r30
                      ) else (
                        jL_areSound_292 p5 (wL_areSound_152 p5 post n) post a1 a2 ρ x7 x8 x9 r24 r29 r30 ((0 : Int32))
                      )
                    )
                  ) else (
                    jL_areSound_292 p5 (wL_areSound_152 p5 post n) post a1 a2 ρ x7 x8 x9 r24 r29 r30 ((0 : Int32))
                  )
                ) else (
                  jL_areSound_292 p5 (wL_areSound_152 p5 post n) post a1 a2 ρ x7 x8 x9 r24 r29 r30 ((0 : Int32))
                )
              ) (fun _ => False)
            ) (fun _ => False)
          )
        ) (fun _ => False)
      )
    ) else (
      ∃ f, wL_areSound_687 p5 post f a1 a2 ρ x6 x7 ((0 : Int32))
    )
def jL_areSound_143 (p5 : Int32)  (post : Int32 → SG → NU → Prop) (a1 : SG) (a2 : NU) (ρ : RH) (x6 : Int32) : Prop :=
  ∃ f, f ≤ 22 ∧ wL_areSound_152 p5 post f a1 a2 ρ x6 ((0 : Int32)) ((-1 : Int32)) ((0 : Int32))
def jL_areSound_96 (p5 : Int32) (κ6 : SG → NU → RH → Int32 → Int32 → Prop) (post : Int32 → SG → NU → Prop) (a1 : SG) (a2 : NU) (ρ : RH) (x7 : Int32) (x8 : Int32) (x9 : Int32) (y0 : Int32) : Prop :=
  wpX6_commences a1 a2 x7 (fun r125 =>
    if r125.toInt = x8.toInt then (
      if x9.toInt < 0 then (
        κ6 a1 a2 ρ ((0 : Int32)) (x7 + (1 : Int32))
      ) else (
        if x9.toInt ≤ 2 then (
          if y0.toInt = 0 then (
            if x9.toInt = 0 then (
              κ6 a1 a2 ρ ((1 : Int32)) (x7 + (1 : Int32))
            ) else (
              κ6 a1 a2 ρ ((0 : Int32)) (x7 + (1 : Int32))
            )
          ) else (
            κ6 a1 a2 ρ ((1 : Int32)) (x7 + (1 : Int32))
          )
        ) else (
          κ6 a1 a2 ρ ((0 : Int32)) (x7 + (1 : Int32))
        )
      )
    ) else (
      κ6 a1 a2 ρ ((0 : Int32)) (x7 + (1 : Int32))
    )
  ) (fun _ => False)
def wL_areSound_6 (p5 : Int32)  (post : Int32 → SG → NU → Prop) : Nat → SG → NU → RH → Int32 → Int32 → Prop
  | 0, _, _, _, _, _ => False
  | n + 1, a1, a2, ρ, x6, x7 =>
    vp_in ((2 : Int32)) 14 ∧
    if x7.toInt < (ρ 0 ((2 : Int32)).toNatClampNeg).toInt then (
      if x6.toInt = 0 then (
        jL_areSound_143 p5 post a1 a2 ρ x6
      ) else (
        wpL_begins a1 a2 ρ x7 (fun r121 =>
          wpX6_state a1 a2 x7 (fun r122 =>
            vp_in x7 40 ∧
            if r121.toInt < 0 then (
              jL_areSound_96 p5 (wL_areSound_6 p5 post n) post a1 a2 ρ x7 r121 r122 ((0 : Int32))
            ) else (
              vp_in ((5 : Int32)) 14 ∧
              if r121.toInt ≤ (ρ 0 ((5 : Int32)).toNatClampNeg).toInt then (
                vp_in x7 40 ∧
                vp_in ((7 : Int32)) 14 ∧
                if (((ρ 2 x7.toNatClampNeg) >>> ((ρ 0 ((7 : Int32)).toNatClampNeg) &&& 31)) &&& ((1 : Int32))).toInt = 1 then (
                  if (((ρ 2 x7.toNatClampNeg) >>> (((16 : Int32)) &&& 31)) - ((1 : Int32))).toInt < 0 then (
                    jL_areSound_96 p5 (wL_areSound_6 p5 post n) post a1 a2 ρ x7 r121 r122 ((1 : Int32))
                  ) else (
                    vp_in ((5 : Int32)) 14 ∧
                    if (((ρ 2 x7.toNatClampNeg) >>> (((16 : Int32)) &&& 31)) - ((1 : Int32))).toInt ≤ (ρ 0 ((5 : Int32)).toNatClampNeg).toInt then (
                      jL_areSound_96 p5 (wL_areSound_6 p5 post n) post a1 a2 ρ x7 r121 r122 ((0 : Int32))
                    ) else (
                      jL_areSound_96 p5 (wL_areSound_6 p5 post n) post a1 a2 ρ x7 r121 r122 ((1 : Int32))
                    )
                  )
                ) else (
                  jL_areSound_96 p5 (wL_areSound_6 p5 post n) post a1 a2 ρ x7 r121 r122 ((0 : Int32))
                )
              ) else (
                jL_areSound_96 p5 (wL_areSound_6 p5 post n) post a1 a2 ρ x7 r121 r122 ((0 : Int32))
              )
            )
          ) (fun _ => False)
        )
      )
    ) else (
      jL_areSound_143 p5 post a1 a2 ρ x6
    )
def wpL_areSound (σ : SG) (ν : NU) (ρ : RH) (p5 : Int32) (post : Int32 → SG → NU → Prop) : Prop :=
  ∃ f, wL_areSound_6 p5 post f σ ν ρ ((1 : Int32)) ((0 : Int32))
def jL_isLooked_60 (p2 : Int32) (p3 : Int32) (p4 : Int32)  (post : Int32 → SG → NU → RH → Prop) (a1 : SG) (a2 : NU) (a3 : RH) (x5 : Int32) (y0 : Int32) : Prop :=
  if y0.toInt = 0 then (
    post ((0 : Int32)) a1 a2 a3
  ) else (
    if x5.toInt = 0 then (
      post ((1 : Int32)) a1 a2 a3
    ) else (
      wpL_does_6 a1 a2 a3 (x5 - ((1 : Int32))) ((0 : Int32)) ((0 : Int32)) ((0 : Int32)) (fun r20 =>
        if r20.toInt < 0 then (
          post ((0 : Int32)) a1 a2 a3
        ) else (
          post ((1 : Int32)) a1 a2 a3
        )
      )
    )
  )
def wpL_isLooked (σ : SG) (ν : NU) (ρ : RH) (p2 : Int32) (p3 : Int32) (p4 : Int32) (post : Int32 → SG → NU → RH → Prop) : Prop :=
  vp_in ((5 : Int32)) 14 ∧
  ∀ t2 : RH, t2 = u2 ρ 0 ((5 : Int32)).toNatClampNeg p2 →
  vp_in ((6 : Int32)) 14 ∧
  ∀ t5 : RH, t5 = u2 t2 0 ((6 : Int32)).toNatClampNeg p3 →
  vp_in ((7 : Int32)) 14 ∧
  ∀ t8 : RH, t8 = u2 t5 0 ((7 : Int32)).toNatClampNeg p4 →
  wpL_does_5 σ ν t8 p2 p3 p4 ((0 : Int32)) (fun r10 t11 vv12 =>
    if r10.toInt < 0 then (
      jL_isLooked_60 p2 p3 p4 post t11 vv12 t8 r10 ((0 : Int32))
    ) else (
      vp_in ((3 : Int32)) 14 ∧
      if r10.toInt ≤ (t8 0 ((3 : Int32)).toNatClampNeg).toInt then (
        wpL_does_6 t11 vv12 t8 r10 ((0 : Int32)) ((0 : Int32)) ((0 : Int32)) (fun r24 =>
          if r24.toInt = (-1) then (
            jL_isLooked_60 p2 p3 p4 post t11 vv12 t8 r10 ((1 : Int32))
          ) else (
            jL_isLooked_60 p2 p3 p4 post t11 vv12 t8 r10 ((0 : Int32))
          )
        )
      ) else (
        jL_isLooked_60 p2 p3 p4 post t11 vv12 t8 r10 ((0 : Int32))
      )
    )
  )
def jL_law_1637 (L : Nat) (xs : Nat → Int32)  (post : Int32 → Prop) (a1 : SG) (a2 : NU) (a3 : RH) (x10 : Int32) : Prop :=
  if x10.toInt = 0 then (
    post ((0 : Int32))
  ) else (
    wpL_areSound a1 a2 a3 ((7 : Int32)) (fun r24 t25 vv26 =>
      if r24.toInt = 0 then (
        post ((0 : Int32))
      ) else (
        post ((1 : Int32))
      )
    )
  )
def jL_law_1625 (L : Nat) (xs : Nat → Int32)  (post : Int32 → Prop) (a1 : SG) (a2 : NU) (a3 : RH) (x11 : Int32) (x12 : Int32) (y0 : Int32) : Prop :=
  vp_in ((2 : Int32)) 14 ∧
  ∀ t57 : RH, t57 = u2 a3 0 ((2 : Int32)).toNatClampNeg x11 →
  vp_in ((3 : Int32)) 14 ∧
  ∀ t60 : RH, t60 = u2 t57 0 ((3 : Int32)).toNatClampNeg x12 →
  jL_law_1637 L xs post a1 a2 t60 y0
def jL_law_1537 (L : Nat) (xs : Nat → Int32)  (post : Int32 → Prop) (a1 : SG) (a2 : NU) (a3 : RH) (x6 : Int64) (x8 : Int32) (x9 : Int32) (x10 : Int32) : Prop :=
  if x10.toInt = 0 then (
    jL_law_1637 L xs post a1 a2 a3 x10
  ) else (
    if x9.toInt < 0 then (
      jL_law_1637 L xs post a1 a2 a3 x10
    ) else (
      vp_in ((2 : Int32)) 14 ∧
      vp_in ((3 : Int32)) 14 ∧
      wpL_isLooked a1 a2 a3 ((x9 / ((10000 : Int32))) - (x9 / ((10000 : Int32))) / ((100 : Int32)) * ((100 : Int32))) (x9 - x9 / ((10000 : Int32)) * ((10000 : Int32))) (x9 / ((1000000 : Int32))) (fun r38 t39 vv40 rr41 =>
        vp_in ((2 : Int32)) 14 ∧
        ∀ t50 : RH, t50 = u2 rr41 0 ((2 : Int32)).toNatClampNeg (x8 / ((10000 : Int32))) →
        vp_in ((3 : Int32)) 14 ∧
        ∀ t53 : RH, t53 = u2 t50 0 ((3 : Int32)).toNatClampNeg ((x8 / ((100 : Int32))) - (x8 / ((100 : Int32))) / ((100 : Int32)) * ((100 : Int32))) →
        if r38.toInt = 0 then (
          jL_law_1625 L xs post t39 vv40 t53 (a3 0 ((2 : Int32)).toNatClampNeg) (a3 0 ((3 : Int32)).toNatClampNeg) ((0 : Int32))
        ) else (
          wpL_all t39 vv40 t53 (fun r62 =>
            if (lg_cmp r62 x6).toInt = 0 then (
              jL_law_1625 L xs post t39 vv40 t53 (a3 0 ((2 : Int32)).toNatClampNeg) (a3 0 ((3 : Int32)).toNatClampNeg) ((1 : Int32))
            ) else (
              jL_law_1625 L xs post t39 vv40 t53 (a3 0 ((2 : Int32)).toNatClampNeg) (a3 0 ((3 : Int32)).toNatClampNeg) ((0 : Int32))
            )
          )
        )
      )
    )
  )
def jL_law_1504 (L : Nat) (xs : Nat → Int32) (κ115 : SG → NU → RH → Int64 → Int32 → Int32 → Int32 → Int32 → Prop) (post : Int32 → Prop) (a1 : SG) (a2 : NU) (a3 : RH) (x6 : Int64) (x8 : Int32) (x9 : Int32) (x11 : Int32) (x12 : Int32) : Prop :=
  if (x11 - x11 / ((40 : Int32)) * ((40 : Int32))).toInt ≤ 0 then (
    wpL_isRefused a1 a2 a3 (x12 / ((3 : Int32))) (fun r90 t91 vv92 =>
      if r90.toInt = 0 then (
        κ115 t91 vv92 a3 x6 x8 x9 ((0 : Int32)) (x11 + (1 : Int32))
      ) else (
        κ115 t91 vv92 a3 x6 x8 x9 ((1 : Int32)) (x11 + (1 : Int32))
      )
    )
  ) else (
    κ115 a1 a2 a3 x6 x8 x9 ((1 : Int32)) (x11 + (1 : Int32))
  )
def jL_law_1477 (L : Nat) (xs : Nat → Int32) (κ115 : SG → NU → RH → Int64 → Int32 → Int32 → Int32 → Int32 → Prop) (post : Int32 → Prop) (a1 : SG) (a2 : NU) (a3 : RH) (x6 : Int64) (x8 : Int32) (x9 : Int32) (x10 : Int32) (x11 : Int32) (x12 : Int32) (x14 : Int32) : Prop :=
  if x10.toInt = 0 then (
    κ115 a1 a2 a3 x6 x8 x9 ((0 : Int32)) (x11 + (1 : Int32))
  ) else (
    if (x11 - x11 / ((4 : Int32)) * ((4 : Int32))).toInt ≤ 0 then (
      wpL_areSound a1 a2 a3 x14 (fun r101 t102 vv103 =>
        if r101.toInt = 0 then (
          κ115 t102 vv103 a3 x6 x8 x9 ((0 : Int32)) (x11 + (1 : Int32))
        ) else (
          jL_law_1504 L xs κ115 post t102 vv103 a3 x6 x8 x9 x11 x12
        )
      )
    ) else (
      jL_law_1504 L xs κ115 post a1 a2 a3 x6 x8 x9 x11 x12
    )
  )
def jL_law_236 (L : Nat) (xs : Nat → Int32) (κ115 : SG → NU → RH → Int64 → Int32 → Int32 → Int32 → Int32 → Prop) (post : Int32 → Prop) (a1 : SG) (a2 : NU) (a3 : RH) (x6 : Int64) (x8 : Int32) (x9 : Int32) (x10 : Int32) (x11 : Int32) (x12 : Int32) (x14 : Int32) (x16 : Int32) (y0 : Nat) (y2 : Int32) : Prop :=
  vp_in ((4 : Int32)) 14 ∧
  ∀ t80 : RH, t80 = u2 a3 0 ((4 : Int32)).toNatClampNeg y2 →
  vp_in ((1 : Int32)) 14 ∧
  if x16.toInt < 0 then (
    vp_in ((1 : Int32)) 14 ∧
    ∀ t113 : RH, t113 = u2 t80 0 ((1 : Int32)).toNatClampNeg ((t80 0 ((1 : Int32)).toNatClampNeg) + ((0 : Int32))) →
    jL_law_1477 L xs κ115 post a1 a2 t113 x6 x8 x9 x10 x11 x12 x14
  ) else (
    vp_in ((1 : Int32)) 14 ∧
    ∀ t85 : RH, t85 = u2 t80 0 ((1 : Int32)).toNatClampNeg ((t80 0 ((1 : Int32)).toNatClampNeg) + ((1 : Int32))) →
    jL_law_1477 L xs κ115 post a1 a2 t85 x6 x8 x9 x10 x11 x12 x14
  )
def jL_law_218 (L : Nat) (xs : Nat → Int32) (κ115 : SG → NU → RH → Int64 → Int32 → Int32 → Int32 → Int32 → Prop) (post : Int32 → Prop) (a1 : SG) (a2 : NU) (a3 : RH) (x6 : Int64) (x8 : Int32) (x9 : Int32) (x11 : Int32) (x12 : Int32) (x14 : Int32) (x16 : Int32) (y0 : Int32) : Prop :=
  if x16.toInt < 0 then (
    vp_in ((4 : Int32)) 14 ∧
    jL_law_236 L xs κ115 post a1 a2 a3 x6 x8 x9 y0 x11 x12 x14 x16 0 (a3 0 ((4 : Int32)).toNatClampNeg)
  ) else (
    vp_in ((0 : Int32)) 14 ∧
    jL_law_236 L xs κ115 post a1 a2 a3 x6 x8 x9 y0 x11 x12 x14 x16 0 (a3 0 ((0 : Int32)).toNatClampNeg)
  )
def jL_law_210 (L : Nat) (xs : Nat → Int32) (κ115 : SG → NU → RH → Int64 → Int32 → Int32 → Int32 → Int32 → Prop) (post : Int32 → Prop) (a1 : SG) (a2 : NU) (a3 : RH) (x6 : Int64) (x8 : Int32) (x9 : Int32) (x11 : Int32) (x12 : Int32) (x14 : Int32) (x16 : Int32) (y0 : Int32) (y1 : Int32) : Prop :=
  if y0.toInt = y1.toInt then (
    jL_law_218 L xs κ115 post a1 a2 a3 x6 x8 x9 x11 x12 x14 x16 ((1 : Int32))
  ) else (
    jL_law_218 L xs κ115 post a1 a2 a3 x6 x8 x9 x11 x12 x14 x16 ((0 : Int32))
  )
def jL_law_180 (L : Nat) (xs : Nat → Int32) (κ115 : SG → NU → RH → Int64 → Int32 → Int32 → Int32 → Int32 → Prop) (post : Int32 → Prop) (a1 : SG) (a2 : NU) (a3 : RH) (x6 : Int64) (x8 : Int32) (x9 : Int32) (x11 : Int32) (x12 : Int32) (x14 : Int32) : Prop :=
  wpL_does_1 a1 a2 a3 ((0 : Int32)) ((0 : Int32)) ((0 : Int32)) ((0 : Int32)) (fun r71 t72 =>
    vp_in ((1 : Int32)) 14 ∧
    if (a3 0 ((1 : Int32)).toNatClampNeg).toInt = 10 then (
      jL_law_210 L xs κ115 post t72 a2 a3 x6 x8 x9 x11 x12 x14 r71 r71 ((-1383 : Int32))
    ) else (
      vp_in ((1 : Int32)) 14 ∧
      jL_law_210 L xs κ115 post t72 a2 a3 x6 x8 x9 x11 x12 x14 r71 r71 (a3 0 ((1 : Int32)).toNatClampNeg)
    )
  )
def jL_law_1386 (L : Nat) (xs : Nat → Int32) (κ115 : SG → NU → RH → Int64 → Int32 → Int32 → Int32 → Int32 → Prop) (post : Int32 → Prop) (a1 : SG) (a2 : NU) (a3 : RH) (x6 : Int64) (x8 : Int32) (x9 : Int32) (x11 : Int32) (x12 : Int32) (x14 : Int32) (y0 : Int32) : Prop :=
  wpL_isLooked a1 a2 a3 ((x14 / ((300 : Int32))) - (x14 / ((300 : Int32))) / ((100 : Int32)) * ((100 : Int32))) y0 ((x14 / ((30000 : Int32))) - (x14 / ((30000 : Int32))) / ((3 : Int32)) * ((3 : Int32))) (fun r127 t128 vv129 rr130 =>
    if r127.toInt = 0 then (
      jL_law_1477 L xs κ115 post t128 vv129 rr130 x6 x8 x9 r127 x11 x12 x14
    ) else (
      vp_in ((0 : Int32)) 14 ∧
      if y0.toInt < (rr130 0 ((0 : Int32)).toNatClampNeg).toInt then (
        if x9.toInt < 0 then (
          wpL_all t128 vv129 rr130 (fun r142 =>
            vp_in ((2 : Int32)) 14 ∧
            vp_in ((3 : Int32)) 14 ∧
            vp_in ((6 : Int32)) 14 ∧
            vp_in ((5 : Int32)) 14 ∧
            vp_in ((7 : Int32)) 14 ∧
            jL_law_1477 L xs κ115 post t128 vv129 rr130 r142 ((((10000 : Int32)) * (rr130 0 ((2 : Int32)).toNatClampNeg)) + (((100 : Int32)) * (rr130 0 ((3 : Int32)).toNatClampNeg))) (((rr130 0 ((6 : Int32)).toNatClampNeg) + (((10000 : Int32)) * (rr130 0 ((5 : Int32)).toNatClampNeg))) + (((1000000 : Int32)) * (rr130 0 ((7 : Int32)).toNatClampNeg))) r127 x11 x12 x14
          )
        ) else (
          jL_law_1477 L xs κ115 post t128 vv129 rr130 x6 x8 x9 r127 x11 x12 x14
        )
      ) else (
        jL_law_1477 L xs κ115 post t128 vv129 rr130 x6 x8 x9 r127 x11 x12 x14
      )
    )
  )
def jL_law_1310 (L : Nat) (xs : Nat → Int32) (κ115 : SG → NU → RH → Int64 → Int32 → Int32 → Int32 → Int32 → Prop) (post : Int32 → Prop) (a1 : SG) (a2 : NU) (a3 : RH) (x6 : Int64) (x8 : Int32) (x9 : Int32) (x11 : Int32) (x12 : Int32) (x13 : Int32) (x14 : Int32) : Prop :=
  if x13.toInt = 28 then (
    wpL_does_0 a1 a2 a3 (((1 : Int32)) + (x14 - x14 / ((5 : Int32)) * ((5 : Int32)))) ((0 : Int32)) ((0 : Int32)) ((0 : Int32)) (fun r149 t150 =>
      vp_in ((0 : Int32)) 14 ∧
      vp_in ((0 : Int32)) 14 ∧
      ∀ t153 : RH, t153 = u2 a3 0 ((0 : Int32)).toNatClampNeg ((a3 0 ((0 : Int32)).toNatClampNeg) + (((1 : Int32)) + (x14 - x14 / ((5 : Int32)) * ((5 : Int32))))) →
      vp_in ((0 : Int32)) 14 ∧
      if r149.toInt = (t153 0 ((0 : Int32)).toNatClampNeg).toInt then (
        jL_law_1477 L xs κ115 post t150 a2 t153 x6 x8 x9 ((1 : Int32)) x11 x12 x14
      ) else (
        jL_law_1477 L xs κ115 post t150 a2 t153 x6 x8 x9 ((0 : Int32)) x11 x12 x14
      )
    )
  ) else (
    if (x14 - x14 / ((3 : Int32)) * ((3 : Int32))).toInt ≤ 0 then (
      vp_in ((0 : Int32)) 14 ∧
      (¬ (a3 0 ((0 : Int32)).toNatClampNeg) + ((1 : Int32)) = 0) ∧
      jL_law_1386 L xs κ115 post a1 a2 a3 x6 x8 x9 x11 x12 x14 ((x14 / ((3 : Int32))) - (x14 / ((3 : Int32))) / ((a3 0 ((0 : Int32)).toNatClampNeg) + ((1 : Int32))) * ((a3 0 ((0 : Int32)).toNatClampNeg) + ((1 : Int32))))
    ) else (
      vp_in ((0 : Int32)) 14 ∧
      jL_law_1386 L xs κ115 post a1 a2 a3 x6 x8 x9 x11 x12 x14 (a3 0 ((0 : Int32)).toNatClampNeg)
    )
  )
def jL_law_1294 (L : Nat) (xs : Nat → Int32) (κ115 : SG → NU → RH → Int64 → Int32 → Int32 → Int32 → Int32 → Prop) (post : Int32 → Prop) (a1 : SG) (a2 : NU) (a3 : RH) (x6 : Int64) (x8 : Int32) (x9 : Int32) (x11 : Int32) (x12 : Int32) (x14 : Int32) (y0 : Int32) : Prop :=
  if y0.toInt = (-1383) then (
    jL_law_1477 L xs κ115 post a1 a2 a3 x6 x8 x9 ((1 : Int32)) x11 x12 x14
  ) else (
    jL_law_1477 L xs κ115 post a1 a2 a3 x6 x8 x9 ((0 : Int32)) x11 x12 x14
  )
def jL_law_1264 (L : Nat) (xs : Nat → Int32) (κ115 : SG → NU → RH → Int64 → Int32 → Int32 → Int32 → Int32 → Prop) (post : Int32 → Prop) (a1 : SG) (a2 : NU) (a3 : RH) (x6 : Int64) (x8 : Int32) (x9 : Int32) (x11 : Int32) (x12 : Int32) (x13 : Int32) (x14 : Int32) (x15 : Int32) : Prop :=
  if x13.toInt = 26 then (
    wpL_silent_2 a1 a2 a3 x15 ((1 : Int32)) ((0 : Int32)) ((0 : Int32)) (fun r183 t184 vv185 =>
      jL_law_1294 L xs κ115 post t184 vv185 a3 x6 x8 x9 x11 x12 x14 r183
    )
  ) else (
    wpL_silent_3 a1 a2 a3 x15 ((1 : Int32)) ((2 : Int32)) ((0 : Int32)) (fun r172 t173 vv174 =>
      jL_law_1294 L xs κ115 post t173 vv174 a3 x6 x8 x9 x11 x12 x14 r172
    )
  )
def jL_law_1249 (L : Nat) (xs : Nat → Int32) (κ115 : SG → NU → RH → Int64 → Int32 → Int32 → Int32 → Int32 → Prop) (post : Int32 → Prop) (a1 : SG) (a2 : NU) (a3 : RH) (x6 : Int64) (x8 : Int32) (x9 : Int32) (x11 : Int32) (x12 : Int32) (x13 : Int32) (x14 : Int32) (x15 : Int32) (y0 : Int32) : Prop :=
  if y0.toInt = 0 then (
    jL_law_1264 L xs κ115 post a1 a2 a3 x6 x8 x9 x11 x12 x13 x14 x15
  ) else (
    if y0.toInt = (-1383) then (
      jL_law_1264 L xs κ115 post a1 a2 a3 x6 x8 x9 x11 x12 x13 x14 x15
    ) else (
      jL_law_1477 L xs κ115 post a1 a2 a3 x6 x8 x9 ((0 : Int32)) x11 x12 x14
    )
  )
def jL_law_1175 (L : Nat) (xs : Nat → Int32) (κ115 : SG → NU → RH → Int64 → Int32 → Int32 → Int32 → Int32 → Prop) (post : Int32 → Prop) (a1 : SG) (a2 : NU) (a3 : RH) (x6 : Int64) (x8 : Int32) (x9 : Int32) (x11 : Int32) (x12 : Int32) (x13 : Int32) (x14 : Int32) (x15 : Int32) : Prop :=
  if x13.toInt < 28 then (
    vp_in ((2 : Int32)) 14 ∧
    if (a3 0 ((2 : Int32)).toNatClampNeg).toInt ≤ 0 then (
      jL_law_1310 L xs κ115 post a1 a2 a3 x6 x8 x9 x11 x12 x13 x14
    ) else (
      if x13.toInt = 26 then (
        wpL_silent_2 a1 a2 a3 x15 ((x14 / ((64 : Int32))) - (x14 / ((64 : Int32))) / ((90 : Int32)) * ((90 : Int32))) ((0 : Int32)) ((0 : Int32)) (fun r194 t195 vv196 =>
          jL_law_1249 L xs κ115 post t195 vv196 a3 x6 x8 x9 x11 x12 x13 x14 x15 r194
        )
      ) else (
        wpL_silent_3 a1 a2 a3 x15 ((x14 / ((64 : Int32))) - (x14 / ((64 : Int32))) / ((90 : Int32)) * ((90 : Int32))) (((x14 / ((64 : Int32))) - (x14 / ((64 : Int32))) / ((90 : Int32)) * ((90 : Int32))) + ((x14 / ((5760 : Int32))) - (x14 / ((5760 : Int32))) / ((20 : Int32)) * ((20 : Int32)))) ((0 : Int32)) (fun r160 t161 vv162 =>
          jL_law_1249 L xs κ115 post t161 vv162 a3 x6 x8 x9 x11 x12 x13 x14 x15 r160
        )
      )
    )
  ) else (
    jL_law_1310 L xs κ115 post a1 a2 a3 x6 x8 x9 x11 x12 x13 x14
  )
def jL_law_1141 (L : Nat) (xs : Nat → Int32) (κ115 : SG → NU → RH → Int64 → Int32 → Int32 → Int32 → Int32 → Prop) (post : Int32 → Prop) (a1 : SG) (a2 : NU) (a3 : RH) (x6 : Int64) (x8 : Int32) (x9 : Int32) (x11 : Int32) (x12 : Int32) (x14 : Int32) (x15 : Int32) (x16 : Int32) (x17 : Int32) (y0 : Int32) : Prop :=
  if x16.toInt = 0 then (
    vp_in x15 40 ∧
    vp_in x15 40 ∧
    ∀ t223 : RH, t223 = u2 a3 3 x15.toNatClampNeg (a3 3 x15.toNatClampNeg) →
    jL_law_1477 L xs κ115 post a1 a2 t223 x6 x8 x9 y0 x11 x12 x14
  ) else (
    vp_in ((0 : Int32)) 14 ∧
    vp_in x15 40 ∧
    ∀ t227 : RH, t227 = u2 a3 3 x15.toNatClampNeg ((x17 + ((1 : Int32))) ||| ((a3 0 ((0 : Int32)).toNatClampNeg) <<< (((13 : Int32)) &&& 31))) →
    jL_law_1477 L xs κ115 post a1 a2 t227 x6 x8 x9 y0 x11 x12 x14
  )
def jL_law_1133 (L : Nat) (xs : Nat → Int32) (κ115 : SG → NU → RH → Int64 → Int32 → Int32 → Int32 → Int32 → Prop) (post : Int32 → Prop) (a1 : SG) (a2 : NU) (a3 : RH) (x6 : Int64) (x8 : Int32) (x9 : Int32) (x11 : Int32) (x12 : Int32) (x14 : Int32) (x15 : Int32) (x16 : Int32) (x17 : Int32) (y0 : Int32) (y1 : Int32) : Prop :=
  if y0.toInt = y1.toInt then (
    jL_law_1141 L xs κ115 post a1 a2 a3 x6 x8 x9 x11 x12 x14 x15 x16 x17 ((1 : Int32))
  ) else (
    jL_law_1141 L xs κ115 post a1 a2 a3 x6 x8 x9 x11 x12 x14 x15 x16 x17 ((0 : Int32))
  )
def jL_law_1098 (L : Nat) (xs : Nat → Int32) (κ115 : SG → NU → RH → Int64 → Int32 → Int32 → Int32 → Int32 → Prop) (post : Int32 → Prop) (a1 : SG) (a2 : NU) (a3 : RH) (x6 : Int64) (x8 : Int32) (x9 : Int32) (x11 : Int32) (x12 : Int32) (x14 : Int32) (x15 : Int32) (y0 : Int32) : Prop :=
  wpL_silent_1 a1 a2 a3 x15 ((x14 / ((64 : Int32))) - (x14 / ((64 : Int32))) / ((90 : Int32)) * ((90 : Int32))) ((0 : Int32)) ((0 : Int32)) (fun r208 t209 vv210 =>
    if y0.toInt = 0 then (
      jL_law_1133 L xs κ115 post t209 vv210 a3 x6 x8 x9 x11 x12 x14 x15 y0 ((x14 / ((64 : Int32))) - (x14 / ((64 : Int32))) / ((90 : Int32)) * ((90 : Int32))) r208 ((-1383 : Int32))
    ) else (
      jL_law_1133 L xs κ115 post t209 vv210 a3 x6 x8 x9 x11 x12 x14 x15 y0 ((x14 / ((64 : Int32))) - (x14 / ((64 : Int32))) / ((90 : Int32)) * ((90 : Int32))) r208 ((0 : Int32))
    )
  )
def jL_law_1029 (L : Nat) (xs : Nat → Int32) (κ115 : SG → NU → RH → Int64 → Int32 → Int32 → Int32 → Int32 → Prop) (post : Int32 → Prop) (a1 : SG) (a2 : NU) (a3 : RH) (x6 : Int64) (x8 : Int32) (x9 : Int32) (x11 : Int32) (x12 : Int32) (x14 : Int32) (x16 : Int32) (y0 : Nat) (y2 : Int32) : Prop :=
  vp_in ((13 : Int32)) 14 ∧
  ∀ t245 : RH, t245 = u2 a3 0 ((13 : Int32)).toNatClampNeg y2 →
  vp_in ((11 : Int32)) 14 ∧
  vp_in ((12 : Int32)) 14 ∧
  vp_in ((13 : Int32)) 14 ∧
  wpL_silent_0 a1 a2 t245 x16 (t245 0 ((11 : Int32)).toNatClampNeg) (t245 0 ((12 : Int32)).toNatClampNeg) (t245 0 ((13 : Int32)).toNatClampNeg) (fun r250 t251 vv252 =>
    if r250.toInt = 0 then (
      jL_law_1477 L xs κ115 post t251 vv252 t245 x6 x8 x9 ((1 : Int32)) x11 x12 x14
    ) else (
      jL_law_1477 L xs κ115 post t251 vv252 t245 x6 x8 x9 ((0 : Int32)) x11 x12 x14
    )
  )
def jL_law_986 (L : Nat) (xs : Nat → Int32) (κ115 : SG → NU → RH → Int64 → Int32 → Int32 → Int32 → Int32 → Prop) (post : Int32 → Prop) (a1 : SG) (a2 : NU) (a3 : RH) (x6 : Int64) (x8 : Int32) (x9 : Int32) (x11 : Int32) (x12 : Int32) (x14 : Int32) (x16 : Int32) (y0 : Nat) (y2 : Int32) : Prop :=
  vp_in ((11 : Int32)) 14 ∧
  ∀ t238 : RH, t238 = u2 a3 0 ((11 : Int32)).toNatClampNeg y2 →
  vp_in ((12 : Int32)) 14 ∧
  ∀ t241 : RH, t241 = u2 t238 0 ((12 : Int32)).toNatClampNeg (((1 : Int32)) + ((x14 / ((480 : Int32))) - (x14 / ((480 : Int32))) / ((7 : Int32)) * ((7 : Int32)))) →
  if ((x14 / ((3360 : Int32))) - (x14 / ((3360 : Int32))) / ((4 : Int32)) * ((4 : Int32))).toInt ≤ 0 then (
    jL_law_1029 L xs κ115 post a1 a2 t241 x6 x8 x9 x11 x12 x14 x16 0 ((x14 / ((13440 : Int32))) - (x14 / ((13440 : Int32))) / ((90 : Int32)) * ((90 : Int32)))
  ) else (
    jL_law_1029 L xs κ115 post a1 a2 t241 x6 x8 x9 x11 x12 x14 x16 0 ((-1 : Int32))
  )
def jL_law_947 (L : Nat) (xs : Nat → Int32) (κ115 : SG → NU → RH → Int64 → Int32 → Int32 → Int32 → Int32 → Prop) (post : Int32 → Prop) (a1 : SG) (a2 : NU) (a3 : RH) (x6 : Int64) (x8 : Int32) (x9 : Int32) (x11 : Int32) (x12 : Int32) (x14 : Int32) (x15 : Int32) (y0 : Int32) : Prop :=
  vp_in ((10 : Int32)) 14 ∧
  ∀ t233 : RH, t233 = u2 a3 0 ((10 : Int32)).toNatClampNeg y0 →
  if y0.toInt = 2 then (
    jL_law_986 L xs κ115 post a1 a2 t233 x6 x8 x9 x11 x12 x14 y0 0 x15
  ) else (
    if y0.toInt = 0 then (
      jL_law_986 L xs κ115 post a1 a2 t233 x6 x8 x9 x11 x12 x14 y0 0 ((x14 / ((6 : Int32))) - (x14 / ((6 : Int32))) / ((80 : Int32)) * ((80 : Int32)))
    ) else (
      jL_law_986 L xs κ115 post a1 a2 t233 x6 x8 x9 x11 x12 x14 y0 0 ((0 : Int32))
    )
  )
def jL_law_896 (L : Nat) (xs : Nat → Int32) (κ115 : SG → NU → RH → Int64 → Int32 → Int32 → Int32 → Int32 → Prop) (post : Int32 → Prop) (a1 : SG) (a2 : NU) (a3 : RH) (x6 : Int64) (x8 : Int32) (x9 : Int32) (x11 : Int32) (x12 : Int32) (x14 : Int32) (x17 : Int32) (x18 : Int32) (y0 : Int32) : Prop :=
  vp_in x17 14 ∧
  if x18.toInt < 0 then (
    vp_in x17 14 ∧
    ∀ t279 : RH, t279 = u2 a3 0 x17.toNatClampNeg ((a3 0 x17.toNatClampNeg) + ((0 : Int32))) →
    jL_law_1477 L xs κ115 post a1 a2 t279 x6 x8 x9 y0 x11 x12 x14
  ) else (
    vp_in x17 14 ∧
    ∀ t276 : RH, t276 = u2 a3 0 x17.toNatClampNeg ((a3 0 x17.toNatClampNeg) + ((1 : Int32))) →
    jL_law_1477 L xs κ115 post a1 a2 t276 x6 x8 x9 y0 x11 x12 x14
  )
def jL_law_888 (L : Nat) (xs : Nat → Int32) (κ115 : SG → NU → RH → Int64 → Int32 → Int32 → Int32 → Int32 → Prop) (post : Int32 → Prop) (a1 : SG) (a2 : NU) (a3 : RH) (x6 : Int64) (x8 : Int32) (x9 : Int32) (x11 : Int32) (x12 : Int32) (x14 : Int32) (x17 : Int32) (x18 : Int32) (y0 : Int32) (y1 : Int32) : Prop :=
  if y0.toInt = y1.toInt then (
    jL_law_896 L xs κ115 post a1 a2 a3 x6 x8 x9 x11 x12 x14 x17 x18 ((1 : Int32))
  ) else (
    jL_law_896 L xs κ115 post a1 a2 a3 x6 x8 x9 x11 x12 x14 x17 x18 ((0 : Int32))
  )
def jL_law_859 (L : Nat) (xs : Nat → Int32) (κ115 : SG → NU → RH → Int64 → Int32 → Int32 → Int32 → Int32 → Prop) (post : Int32 → Prop) (a1 : SG) (a2 : NU) (a3 : RH) (x6 : Int64) (x8 : Int32) (x9 : Int32) (x11 : Int32) (x12 : Int32) (x14 : Int32) (x17 : Int32) (y0 : Nat) (y2 : Int32) (y3 : Int32) : Prop :=
  wpL_does_2 a1 a2 a3 y2 y3 ((0 : Int32)) ((0 : Int32)) (fun r267 t268 =>
    vp_in x17 14 ∧
    if (a3 0 x17.toNatClampNeg).toInt = 4 then (
      jL_law_888 L xs κ115 post t268 a2 a3 x6 x8 x9 x11 x12 x14 x17 r267 r267 ((-1383 : Int32))
    ) else (
      vp_in x17 14 ∧
      jL_law_888 L xs κ115 post t268 a2 a3 x6 x8 x9 x11 x12 x14 x17 r267 r267 ((a3 0 x17.toNatClampNeg) + ((1 : Int32)))
    )
  )
def jL_law_849 (L : Nat) (xs : Nat → Int32) (κ115 : SG → NU → RH → Int64 → Int32 → Int32 → Int32 → Int32 → Prop) (post : Int32 → Prop) (a1 : SG) (a2 : NU) (a3 : RH) (x6 : Int64) (x8 : Int32) (x9 : Int32) (x11 : Int32) (x12 : Int32) (x14 : Int32) (x16 : Int32) (x17 : Int32) (y0 : Nat) (y2 : Int32) : Prop :=
  if x16.toInt = 0 then (
    jL_law_859 L xs κ115 post a1 a2 a3 x6 x8 x9 x11 x12 x14 x17 0 y2 ((0 : Int32))
  ) else (
    jL_law_859 L xs κ115 post a1 a2 a3 x6 x8 x9 x11 x12 x14 x17 0 y2 ((1 : Int32))
  )
def jL_law_819 (L : Nat) (xs : Nat → Int32) (κ115 : SG → NU → RH → Int64 → Int32 → Int32 → Int32 → Int32 → Prop) (post : Int32 → Prop) (a1 : SG) (a2 : NU) (a3 : RH) (x6 : Int64) (x8 : Int32) (x9 : Int32) (x11 : Int32) (x12 : Int32) (x14 : Int32) (x16 : Int32) (y0 : Int32) : Prop :=
  if (x14 - x14 / ((5 : Int32)) * ((5 : Int32))).toInt ≤ 0 then (
    jL_law_849 L xs κ115 post a1 a2 a3 x6 x8 x9 x11 x12 x14 x16 y0 0 (((100 : Int32)) + ((x14 / ((5 : Int32))) - (x14 / ((5 : Int32))) / ((40 : Int32)) * ((40 : Int32))))
  ) else (
    jL_law_849 L xs κ115 post a1 a2 a3 x6 x8 x9 x11 x12 x14 x16 y0 0 ((x14 / ((5 : Int32))) - (x14 / ((5 : Int32))) / ((4 : Int32)) * ((4 : Int32)))
  )
def jL_law_805 (L : Nat) (xs : Nat → Int32) (κ115 : SG → NU → RH → Int64 → Int32 → Int32 → Int32 → Int32 → Prop) (post : Int32 → Prop) (a1 : SG) (a2 : NU) (a3 : RH) (x6 : Int64) (x8 : Int32) (x9 : Int32) (x11 : Int32) (x12 : Int32) (x14 : Int32) (y0 : Int32) : Prop :=
  if y0.toInt = 0 then (
    jL_law_819 L xs κ115 post a1 a2 a3 x6 x8 x9 x11 x12 x14 y0 ((8 : Int32))
  ) else (
    jL_law_819 L xs κ115 post a1 a2 a3 x6 x8 x9 x11 x12 x14 y0 ((9 : Int32))
  )
def jL_law_771 (L : Nat) (xs : Nat → Int32) (κ115 : SG → NU → RH → Int64 → Int32 → Int32 → Int32 → Int32 → Prop) (post : Int32 → Prop) (a1 : SG) (a2 : NU) (a3 : RH) (x6 : Int64) (x8 : Int32) (x9 : Int32) (x10 : Int32) (x11 : Int32) (x12 : Int32) (x14 : Int32) (y0 : Nat) (y2 : Int32) (y3 : Int32) : Prop :=
  vp_in ((3 : Int32)) 14 ∧
  ∀ t337 : RH, t337 = u2 a3 0 ((3 : Int32)).toNatClampNeg (y2 + y3) →
  vp_in ((8 : Int32)) 14 ∧
  ∀ t340 : RH, t340 = u2 t337 0 ((8 : Int32)).toNatClampNeg ((0 : Int32)) →
  vp_in ((9 : Int32)) 14 ∧
  ∀ t343 : RH, t343 = u2 t340 0 ((9 : Int32)).toNatClampNeg ((0 : Int32)) →
  jL_law_1477 L xs κ115 post a1 a2 t343 x6 x8 x9 x10 x11 x12 x14
def jL_law_701 (L : Nat) (xs : Nat → Int32) (κ115 : SG → NU → RH → Int64 → Int32 → Int32 → Int32 → Int32 → Prop) (post : Int32 → Prop) (a1 : SG) (a2 : NU) (a3 : RH) (x6 : Int64) (x8 : Int32) (x9 : Int32) (x11 : Int32) (x12 : Int32) (x14 : Int32) (x16 : Int32) (x20 : Int32) (y0 : Int32) : Prop :=
  if x20.toInt < 0 then (
    jL_law_1477 L xs κ115 post a1 a2 a3 x6 x8 x9 y0 x11 x12 x14
  ) else (
    vp_in ((2 : Int32)) 14 ∧
    vp_in ((10 : Int32)) 14 ∧
    vp_in ((11 : Int32)) 14 ∧
    vp_in (a3 0 ((2 : Int32)).toNatClampNeg) 40 ∧
    ∀ t321 : RH, t321 = u2 a3 1 (a3 0 ((2 : Int32)).toNatClampNeg).toNatClampNeg ((a3 0 ((10 : Int32)).toNatClampNeg) + (((4 : Int32)) * (a3 0 ((11 : Int32)).toNatClampNeg))) →
    vp_in ((2 : Int32)) 14 ∧
    vp_in ((12 : Int32)) 14 ∧
    vp_in ((0 : Int32)) 14 ∧
    vp_in ((13 : Int32)) 14 ∧
    vp_in (t321 0 ((2 : Int32)).toNatClampNeg) 40 ∧
    ∀ t328 : RH, t328 = u2 t321 2 (t321 0 ((2 : Int32)).toNatClampNeg).toNatClampNeg (((t321 0 ((12 : Int32)).toNatClampNeg) ||| ((t321 0 ((0 : Int32)).toNatClampNeg) <<< (((3 : Int32)) &&& 31))) ||| (((t321 0 ((13 : Int32)).toNatClampNeg) + ((1 : Int32))) <<< (((16 : Int32)) &&& 31))) →
    vp_in ((2 : Int32)) 14 ∧
    vp_in ((2 : Int32)) 14 ∧
    ∀ t332 : RH, t332 = u2 t328 0 ((2 : Int32)).toNatClampNeg ((t328 0 ((2 : Int32)).toNatClampNeg) + ((1 : Int32))) →
    vp_in ((3 : Int32)) 14 ∧
    if x16.toInt = 0 then (
      jL_law_771 L xs κ115 post a1 a2 t332 x6 x8 x9 y0 x11 x12 x14 0 (t332 0 ((3 : Int32)).toNatClampNeg) ((0 : Int32))
    ) else (
      jL_law_771 L xs κ115 post a1 a2 t332 x6 x8 x9 y0 x11 x12 x14 0 (t332 0 ((3 : Int32)).toNatClampNeg) ((1 : Int32))
    )
  )
def jL_law_693 (L : Nat) (xs : Nat → Int32) (κ115 : SG → NU → RH → Int64 → Int32 → Int32 → Int32 → Int32 → Prop) (post : Int32 → Prop) (a1 : SG) (a2 : NU) (a3 : RH) (x6 : Int64) (x8 : Int32) (x9 : Int32) (x11 : Int32) (x12 : Int32) (x14 : Int32) (x16 : Int32) (x20 : Int32) (y0 : Int32) (y1 : Int32) : Prop :=
  if y0.toInt = y1.toInt then (
    jL_law_701 L xs κ115 post a1 a2 a3 x6 x8 x9 x11 x12 x14 x16 x20 ((1 : Int32))
  ) else (
    jL_law_701 L xs κ115 post a1 a2 a3 x6 x8 x9 x11 x12 x14 x16 x20 ((0 : Int32))
  )
def jL_law_659 (L : Nat) (xs : Nat → Int32) (κ115 : SG → NU → RH → Int64 → Int32 → Int32 → Int32 → Int32 → Prop) (post : Int32 → Prop) (a1 : SG) (a2 : NU) (a3 : RH) (x6 : Int64) (x8 : Int32) (x9 : Int32) (x11 : Int32) (x12 : Int32) (x14 : Int32) (x16 : Int32) (x20 : Int32) (x21 : Int32) (y0 : Int32) : Prop :=
  if x21.toInt = 0 then (
    jL_law_693 L xs κ115 post a1 a2 a3 x6 x8 x9 x11 x12 x14 x16 x20 x20 ((-1383 : Int32))
  ) else (
    if y0.toInt = 0 then (
      jL_law_693 L xs κ115 post a1 a2 a3 x6 x8 x9 x11 x12 x14 x16 x20 x20 ((-1383 : Int32))
    ) else (
      if x16.toInt = 0 then (
        vp_in ((2 : Int32)) 14 ∧
        jL_law_693 L xs κ115 post a1 a2 a3 x6 x8 x9 x11 x12 x14 x16 x20 x20 (a3 0 ((2 : Int32)).toNatClampNeg)
      ) else (
        vp_in ((3 : Int32)) 14 ∧
        jL_law_693 L xs κ115 post a1 a2 a3 x6 x8 x9 x11 x12 x14 x16 x20 x20 (a3 0 ((3 : Int32)).toNatClampNeg)
      )
    )
  )
def jL_law_534 (L : Nat) (xs : Nat → Int32) (κ115 : SG → NU → RH → Int64 → Int32 → Int32 → Int32 → Int32 → Prop) (post : Int32 → Prop) (a1 : SG) (a2 : NU) (a3 : RH) (x6 : Int64) (x8 : Int32) (x9 : Int32) (x11 : Int32) (x12 : Int32) (x14 : Int32) (x16 : Int32) (x17 : Int32) (x20 : Int32) (y0 : Int32) : Prop :=
  if x16.toInt = 0 then (
    vp_in ((3 : Int32)) 14 ∧
    if (a3 0 ((3 : Int32)).toNatClampNeg).toInt ≤ 0 then (
      jL_law_659 L xs κ115 post a1 a2 a3 x6 x8 x9 x11 x12 x14 x16 x20 y0 ((0 : Int32))
    ) else (
      if x17.toInt = 1 then (
        vp_in ((9 : Int32)) 14 ∧
        if (a3 0 ((9 : Int32)).toNatClampNeg).toInt ≤ 0 then (
          jL_law_659 L xs κ115 post a1 a2 a3 x6 x8 x9 x11 x12 x14 x16 x20 y0 ((0 : Int32))
        ) else (
          jL_law_659 L xs κ115 post a1 a2 a3 x6 x8 x9 x11 x12 x14 x16 x20 y0 ((1 : Int32))
        )
      ) else (
        if x17.toInt = 2 then (
          vp_in ((8 : Int32)) 14 ∧
          if (a3 0 ((8 : Int32)).toNatClampNeg).toInt ≤ 0 then (
            jL_law_659 L xs κ115 post a1 a2 a3 x6 x8 x9 x11 x12 x14 x16 x20 y0 ((0 : Int32))
          ) else (
            jL_law_659 L xs κ115 post a1 a2 a3 x6 x8 x9 x11 x12 x14 x16 x20 y0 ((1 : Int32))
          )
        ) else (
          if x17.toInt = 3 then (
            vp_in ((8 : Int32)) 14 ∧
            if (a3 0 ((8 : Int32)).toNatClampNeg).toInt ≤ 0 then (
              jL_law_659 L xs κ115 post a1 a2 a3 x6 x8 x9 x11 x12 x14 x16 x20 y0 ((0 : Int32))
            ) else (
              vp_in ((9 : Int32)) 14 ∧
              if (a3 0 ((9 : Int32)).toNatClampNeg).toInt = 0 then (
                jL_law_659 L xs κ115 post a1 a2 a3 x6 x8 x9 x11 x12 x14 x16 x20 y0 ((1 : Int32))
              ) else (
                jL_law_659 L xs κ115 post a1 a2 a3 x6 x8 x9 x11 x12 x14 x16 x20 y0 ((0 : Int32))
              )
            )
          ) else (
            if x17.toInt = 7 then (
              vp_in ((8 : Int32)) 14 ∧
              if (a3 0 ((8 : Int32)).toNatClampNeg).toInt = 0 then (
                jL_law_659 L xs κ115 post a1 a2 a3 x6 x8 x9 x11 x12 x14 x16 x20 y0 ((1 : Int32))
              ) else (
                jL_law_659 L xs κ115 post a1 a2 a3 x6 x8 x9 x11 x12 x14 x16 x20 y0 ((0 : Int32))
              )
            ) else (
              vp_in ((8 : Int32)) 14 ∧
              vp_in ((9 : Int32)) 14 ∧
              if ((a3 0 ((8 : Int32)).toNatClampNeg) + (a3 0 ((9 : Int32)).toNatClampNeg)).toInt = 0 then (
                jL_law_659 L xs κ115 post a1 a2 a3 x6 x8 x9 x11 x12 x14 x16 x20 y0 ((1 : Int32))
              ) else (
                jL_law_659 L xs κ115 post a1 a2 a3 x6 x8 x9 x11 x12 x14 x16 x20 y0 ((0 : Int32))
              )
            )
          )
        )
      )
    )
  ) else (
    vp_in ((3 : Int32)) 14 ∧
    if (a3 0 ((3 : Int32)).toNatClampNeg).toInt < 20 then (
      vp_in ((8 : Int32)) 14 ∧
      if (a3 0 ((8 : Int32)).toNatClampNeg).toInt = 0 then (
        jL_law_659 L xs κ115 post a1 a2 a3 x6 x8 x9 x11 x12 x14 x16 x20 y0 ((1 : Int32))
      ) else (
        jL_law_659 L xs κ115 post a1 a2 a3 x6 x8 x9 x11 x12 x14 x16 x20 y0 ((0 : Int32))
      )
    ) else (
      jL_law_659 L xs κ115 post a1 a2 a3 x6 x8 x9 x11 x12 x14 x16 x20 y0 ((0 : Int32))
    )
  )
def jL_law_510 (L : Nat) (xs : Nat → Int32) (κ115 : SG → NU → RH → Int64 → Int32 → Int32 → Int32 → Int32 → Prop) (post : Int32 → Prop) (a1 : SG) (a2 : NU) (a3 : RH) (x6 : Int64) (x8 : Int32) (x9 : Int32) (x11 : Int32) (x12 : Int32) (x14 : Int32) (x16 : Int32) (x17 : Int32) (y0 : Int32) : Prop :=
  vp_in ((4 : Int32)) 14 ∧
  vp_in ((0 : Int32)) 14 ∧
  if (a3 0 ((4 : Int32)).toNatClampNeg).toInt = (a3 0 ((0 : Int32)).toNatClampNeg).toInt then (
    vp_in ((2 : Int32)) 14 ∧
    if (a3 0 ((2 : Int32)).toNatClampNeg).toInt < 40 then (
      jL_law_534 L xs κ115 post a1 a2 a3 x6 x8 x9 x11 x12 x14 x16 x17 y0 ((1 : Int32))
    ) else (
      jL_law_534 L xs κ115 post a1 a2 a3 x6 x8 x9 x11 x12 x14 x16 x17 y0 ((0 : Int32))
    )
  ) else (
    jL_law_534 L xs κ115 post a1 a2 a3 x6 x8 x9 x11 x12 x14 x16 x17 y0 ((0 : Int32))
  )
def jL_law_490 (L : Nat) (xs : Nat → Int32) (κ115 : SG → NU → RH → Int64 → Int32 → Int32 → Int32 → Int32 → Prop) (post : Int32 → Prop) (a1 : SG) (a2 : NU) (a3 : RH) (x6 : Int64) (x8 : Int32) (x9 : Int32) (x11 : Int32) (x12 : Int32) (x14 : Int32) (x16 : Int32) (x17 : Int32) (y0 : Nat) (y2 : Int32) (y3 : Int32) (y4 : Int32) : Prop :=
  if x17.toInt = 4 then (
    wpL_does_4 a1 a2 a3 y2 y3 y4 ((x14 / ((6 : Int32))) - (x14 / ((6 : Int32))) / ((3 : Int32)) * ((3 : Int32))) (fun r372 t373 vv374 =>
      jL_law_510 L xs κ115 post t373 vv374 a3 x6 x8 x9 x11 x12 x14 x16 x17 r372
    )
  ) else (
    wpL_does_4 a1 a2 a3 y2 y3 y4 ((0 : Int32)) (fun r298 t299 vv300 =>
      jL_law_510 L xs κ115 post t299 vv300 a3 x6 x8 x9 x11 x12 x14 x16 x17 r298
    )
  )
def jL_law_399 (L : Nat) (xs : Nat → Int32) (κ115 : SG → NU → RH → Int64 → Int32 → Int32 → Int32 → Int32 → Prop) (post : Int32 → Prop) (a1 : SG) (a2 : NU) (a3 : RH) (x6 : Int64) (x8 : Int32) (x9 : Int32) (x11 : Int32) (x12 : Int32) (x14 : Int32) (x16 : Int32) (x17 : Int32) (x18 : Int32) (y0 : Int32) : Prop :=
  if x16.toInt = 0 then (
    vp_in ((3 : Int32)) 14 ∧
    if (a3 0 ((3 : Int32)).toNatClampNeg).toInt = 0 then (
      jL_law_510 L xs κ115 post a1 a2 a3 x6 x8 x9 x11 x12 x14 x16 x17 ((-1383 : Int32))
    ) else (
      if x17.toInt = 4 then (
        jL_law_490 L xs κ115 post a1 a2 a3 x6 x8 x9 x11 x12 x14 x16 x17 0 x17 x18 (((1 : Int32)) + (x14 - x14 / ((6 : Int32)) * ((6 : Int32))))
      ) else (
        jL_law_490 L xs κ115 post a1 a2 a3 x6 x8 x9 x11 x12 x14 x16 x17 0 x17 x18 y0
      )
    )
  ) else (
    if ((x14 / ((6 : Int32))) - (x14 / ((6 : Int32))) / ((4 : Int32)) * ((4 : Int32))).toInt = 0 then (
      wpL_does_3 a1 a2 a3 y0 (((1 : Int32)) + (x14 - x14 / ((6 : Int32)) * ((6 : Int32)))) (((28 : Int32)) + ((x14 / ((24 : Int32))) - (x14 / ((24 : Int32))) / ((5 : Int32)) * ((5 : Int32)))) ((0 : Int32)) (fun r393 t394 vv395 =>
        jL_law_510 L xs κ115 post t394 vv395 a3 x6 x8 x9 x11 x12 x14 x16 x17 r393
      )
    ) else (
      wpL_does_3 a1 a2 a3 y0 (((1 : Int32)) + (x14 - x14 / ((6 : Int32)) * ((6 : Int32)))) ((x14 / ((24 : Int32))) - (x14 / ((24 : Int32))) / ((3 : Int32)) * ((3 : Int32))) ((0 : Int32)) (fun r383 t384 vv385 =>
        jL_law_510 L xs κ115 post t384 vv385 a3 x6 x8 x9 x11 x12 x14 x16 x17 r383
      )
    )
  )
def jL_law_372 (L : Nat) (xs : Nat → Int32) (κ115 : SG → NU → RH → Int64 → Int32 → Int32 → Int32 → Int32 → Prop) (post : Int32 → Prop) (a1 : SG) (a2 : NU) (a3 : RH) (x6 : Int64) (x8 : Int32) (x9 : Int32) (x11 : Int32) (x12 : Int32) (x14 : Int32) (x16 : Int32) (x17 : Int32) (y0 : Int32) : Prop :=
  vp_in ((3 : Int32)) 14 ∧
  if (a3 0 ((3 : Int32)).toNatClampNeg).toInt = 0 then (
    jL_law_399 L xs κ115 post a1 a2 a3 x6 x8 x9 x11 x12 x14 x16 x17 y0 ((-1 : Int32))
  ) else (
    if (x14 - x14 / ((3 : Int32)) * ((3 : Int32))).toInt ≤ 0 then (
      vp_in ((3 : Int32)) 14 ∧
      (¬ a3 0 ((3 : Int32)).toNatClampNeg = 0) ∧
      jL_law_399 L xs κ115 post a1 a2 a3 x6 x8 x9 x11 x12 x14 x16 x17 y0 ((x14 / ((5 : Int32))) - (x14 / ((5 : Int32))) / (a3 0 ((3 : Int32)).toNatClampNeg) * (a3 0 ((3 : Int32)).toNatClampNeg))
    ) else (
      jL_law_399 L xs κ115 post a1 a2 a3 x6 x8 x9 x11 x12 x14 x16 x17 y0 ((-1 : Int32))
    )
  )
def jL_law_339 (L : Nat) (xs : Nat → Int32) (κ115 : SG → NU → RH → Int64 → Int32 → Int32 → Int32 → Int32 → Prop) (post : Int32 → Prop) (a1 : SG) (a2 : NU) (a3 : RH) (x6 : Int64) (x8 : Int32) (x9 : Int32) (x11 : Int32) (x12 : Int32) (x14 : Int32) (x15 : Int32) (x16 : Int32) (y0 : Int32) : Prop :=
  if y0.toInt = 7 then (
    jL_law_372 L xs κ115 post a1 a2 a3 x6 x8 x9 x11 x12 x14 x16 y0 x15
  ) else (
    vp_in ((3 : Int32)) 14 ∧
    if (a3 0 ((3 : Int32)).toNatClampNeg).toInt = 0 then (
      jL_law_372 L xs κ115 post a1 a2 a3 x6 x8 x9 x11 x12 x14 x16 y0 ((0 : Int32))
    ) else (
      vp_in ((3 : Int32)) 14 ∧
      (¬ a3 0 ((3 : Int32)).toNatClampNeg = 0) ∧
      jL_law_372 L xs κ115 post a1 a2 a3 x6 x8 x9 x11 x12 x14 x16 y0 ((x14 / ((64 : Int32))) - (x14 / ((64 : Int32))) / (a3 0 ((3 : Int32)).toNatClampNeg) * (a3 0 ((3 : Int32)).toNatClampNeg))
    )
  )
def jL_law_275 (L : Nat) (xs : Nat → Int32) (κ115 : SG → NU → RH → Int64 → Int32 → Int32 → Int32 → Int32 → Prop) (post : Int32 → Prop) (a1 : SG) (a2 : NU) (a3 : RH) (x6 : Int64) (x8 : Int32) (x9 : Int32) (x11 : Int32) (x12 : Int32) (x13 : Int32) (x14 : Int32) (x15 : Int32) (y0 : Int32) : Prop :=
  if x13.toInt < 9 then (
    jL_law_339 L xs κ115 post a1 a2 a3 x6 x8 x9 x11 x12 x14 x15 y0 ((1 : Int32))
  ) else (
    if x13.toInt = 9 then (
      jL_law_339 L xs κ115 post a1 a2 a3 x6 x8 x9 x11 x12 x14 x15 y0 ((2 : Int32))
    ) else (
      if x13.toInt = 10 then (
        jL_law_339 L xs κ115 post a1 a2 a3 x6 x8 x9 x11 x12 x14 x15 y0 (((3 : Int32)) + ((x14 / ((7 : Int32))) - (x14 / ((7 : Int32))) / ((2 : Int32)) * ((2 : Int32))))
      ) else (
        if x13.toInt = 11 then (
          jL_law_339 L xs κ115 post a1 a2 a3 x6 x8 x9 x11 x12 x14 x15 y0 (((5 : Int32)) + ((x14 / ((7 : Int32))) - (x14 / ((7 : Int32))) / ((2 : Int32)) * ((2 : Int32))))
        ) else (
          jL_law_339 L xs κ115 post a1 a2 a3 x6 x8 x9 x11 x12 x14 x15 y0 ((7 : Int32))
        )
      )
    )
  )
def jL_law_166 (L : Nat) (xs : Nat → Int32) (κ115 : SG → NU → RH → Int64 → Int32 → Int32 → Int32 → Int32 → Prop) (post : Int32 → Prop) (a1 : SG) (a2 : NU) (a3 : RH) (x6 : Int64) (x8 : Int32) (x9 : Int32) (x11 : Int32) (x12 : Int32) (x13 : Int32) (x14 : Int32) (y0 : Int32) : Prop :=
  if x13.toInt < 2 then (
    jL_law_180 L xs κ115 post a1 a2 a3 x6 x8 x9 x11 x12 x14
  ) else (
    vp_in ((1 : Int32)) 14 ∧
    if (a3 0 ((1 : Int32)).toNatClampNeg).toInt = 0 then (
      jL_law_180 L xs κ115 post a1 a2 a3 x6 x8 x9 x11 x12 x14
    ) else (
      if x13.toInt < 13 then (
        if x13.toInt < 6 then (
          jL_law_275 L xs κ115 post a1 a2 a3 x6 x8 x9 x11 x12 x13 x14 y0 ((1 : Int32))
        ) else (
          jL_law_275 L xs κ115 post a1 a2 a3 x6 x8 x9 x11 x12 x13 x14 y0 ((0 : Int32))
        )
      ) else (
        if x13.toInt < 20 then (
          if x13.toInt < 18 then (
            jL_law_805 L xs κ115 post a1 a2 a3 x6 x8 x9 x11 x12 x14 ((1 : Int32))
          ) else (
            jL_law_805 L xs κ115 post a1 a2 a3 x6 x8 x9 x11 x12 x14 ((0 : Int32))
          )
        ) else (
          if x13.toInt < 23 then (
            if (x14 - x14 / ((3 : Int32)) * ((3 : Int32))).toInt = 2 then (
              vp_in ((2 : Int32)) 14 ∧
              if (a3 0 ((2 : Int32)).toNatClampNeg).toInt ≤ 0 then (
                jL_law_947 L xs κ115 post a1 a2 a3 x6 x8 x9 x11 x12 x14 y0 (x14 - x14 / ((2 : Int32)) * ((2 : Int32)))
              ) else (
                jL_law_947 L xs κ115 post a1 a2 a3 x6 x8 x9 x11 x12 x14 y0 ((2 : Int32))
              )
            ) else (
              jL_law_947 L xs κ115 post a1 a2 a3 x6 x8 x9 x11 x12 x14 y0 (x14 - x14 / ((2 : Int32)) * ((2 : Int32)))
            )
          ) else (
            if x13.toInt < 26 then (
              vp_in ((2 : Int32)) 14 ∧
              if (a3 0 ((2 : Int32)).toNatClampNeg).toInt ≤ 0 then (
                jL_law_1175 L xs κ115 post a1 a2 a3 x6 x8 x9 x11 x12 x13 x14 y0
              ) else (
                vp_in y0 40 ∧
                if ((a3 1 y0.toNatClampNeg) - (a3 1 y0.toNatClampNeg) / ((4 : Int32)) * ((4 : Int32))).toInt = 1 then (
                  vp_in y0 40 ∧
                  if (a3 3 y0.toNatClampNeg).toInt = 0 then (
                    jL_law_1098 L xs κ115 post a1 a2 a3 x6 x8 x9 x11 x12 x14 y0 ((1 : Int32))
                  ) else (
                    jL_law_1098 L xs κ115 post a1 a2 a3 x6 x8 x9 x11 x12 x14 y0 ((0 : Int32))
                  )
                ) else (
                  jL_law_1098 L xs κ115 post a1 a2 a3 x6 x8 x9 x11 x12 x14 y0 ((0 : Int32))
                )
              )
            ) else (
              jL_law_1175 L xs κ115 post a1 a2 a3 x6 x8 x9 x11 x12 x13 x14 y0
            )
          )
        )
      )
    )
  )
def wL_law_115 (L : Nat) (xs : Nat → Int32)  (post : Int32 → Prop) : Nat → SG → NU → RH → Int64 → Int32 → Int32 → Int32 → Int32 → Prop
  | 0, _, _, _, _, _, _, _, _ => False
  | n + 1, a1, a2, a3, x6, x8, x9, x10, x11 =>
    if x11.toInt < 130 then (
      if x10.toInt = 0 then (
        jL_law_1537 L xs post a1 a2 a3 x6 x8 x9 x10
      ) else (
        wpL_dice L xs x11 (fun r65 =>
          vp_in ((2 : Int32)) 14 ∧
          if (a3 0 ((2 : Int32)).toNatClampNeg).toInt = 0 then (
            jL_law_166 L xs (wL_law_115 L xs post n) post a1 a2 a3 x6 x8 x9 x11 r65 (r65 - r65 / ((32 : Int32)) * ((32 : Int32))) (r65 / ((32 : Int32))) ((0 : Int32))
          ) else (
            vp_in ((2 : Int32)) 14 ∧
            (¬ a3 0 ((2 : Int32)).toNatClampNeg = 0) ∧
            jL_law_166 L xs (wL_law_115 L xs post n) post a1 a2 a3 x6 x8 x9 x11 r65 (r65 - r65 / ((32 : Int32)) * ((32 : Int32))) (r65 / ((32 : Int32))) ((r65 / ((32 : Int32))) - (r65 / ((32 : Int32))) / (a3 0 ((2 : Int32)).toNatClampNeg) * (a3 0 ((2 : Int32)).toNatClampNeg))
          )
        )
      )
    ) else (
      jL_law_1537 L xs post a1 a2 a3 x6 x8 x9 x10
    )
def wpL_law (L : Nat) (xs : Nat → Int32) (σ : SG) (ν : NU) (ρ : RH) (post : Int32 → Prop) : Prop :=
  vp_in ((4 : Int32)) 14 ∧
  ∀ t2 : RH, t2 = u2 ρ 0 ((4 : Int32)).toNatClampNeg ((-1 : Int32)) →
  vp_in ((12 : Int32)) 14 ∧
  ∀ t5 : RH, t5 = u2 t2 0 ((12 : Int32)).toNatClampNeg ((7 : Int32)) →
  vp_in ((13 : Int32)) 14 ∧
  ∀ t8 : RH, t8 = u2 t5 0 ((13 : Int32)).toNatClampNeg ((-1 : Int32)) →
  wpL_isRefused σ ν t8 ((0 : Int32)) (fun r10 t11 vv12 =>
    if r10.toInt = 0 then (
      ∃ f, f ≤ 131 ∧ wL_law_115 L xs post f t11 vv12 t8 ((0 : Int64)) ((0 : Int32)) ((-1 : Int32)) ((0 : Int32)) ((0 : Int32))
    ) else (
      wpL_isRefused t11 vv12 t8 ((1 : Int32)) (fun r408 t409 vv410 =>
        if r408.toInt = 0 then (
          ∃ f, f ≤ 131 ∧ wL_law_115 L xs post f t409 vv410 t8 ((0 : Int64)) ((0 : Int32)) ((-1 : Int32)) ((0 : Int32)) ((0 : Int32))
        ) else (
          wpX6_print t409 vv410 (fun r421 =>
            if (lg_cmp r421 ((11 : Int64))).toInt = 0 then (
              wpX6_conflicts t409 vv410 (fun r425 =>
                if r425.toInt = 0 then (
                  wpL_does_3 t409 vv410 t8 ((-1 : Int32)) ((1 : Int32)) ((0 : Int32)) ((0 : Int32)) (fun r429 t430 vv431 =>
                    if r429.toInt = (-1383) then (
                      ∃ f, f ≤ 131 ∧ wL_law_115 L xs post f t430 vv431 t8 ((0 : Int64)) ((0 : Int32)) ((-1 : Int32)) ((1 : Int32)) ((0 : Int32))
                    ) else (
                      ∃ f, f ≤ 131 ∧ wL_law_115 L xs post f t430 vv431 t8 ((0 : Int64)) ((0 : Int32)) ((-1 : Int32)) ((0 : Int32)) ((0 : Int32))
                    )
                  )
                ) else (
                  ∃ f, f ≤ 131 ∧ wL_law_115 L xs post f t409 vv410 t8 ((0 : Int64)) ((0 : Int32)) ((-1 : Int32)) ((0 : Int32)) ((0 : Int32))
                )
              )
            ) else (
              ∃ f, f ≤ 131 ∧ wL_law_115 L xs post f t409 vv410 t8 ((0 : Int64)) ((0 : Int32)) ((-1 : Int32)) ((0 : Int32)) ((0 : Int32))
            )
          )
        )
      )
    )
  )
