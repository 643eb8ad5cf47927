/-! METHODS: the class's tokens -/
/-- F, but the tape's token, number, from, to -/
def tpF (F : q_FT) (tok num fr to : Int32) : q_FT := fun b j => if b = 13 ∧ j = 3 then tok else if b = 13 ∧ j = 4 then num else if b = 13 ∧ j = 5 then fr else if b = 13 ∧ j = 6 then to else F b j
theorem tpF_3 {F : q_FT} {tok num fr to : Int32} : tpF F tok num fr to 13 3 = tok := by simp [tpF]
theorem tpF_4 {F : q_FT} {tok num fr to : Int32} : tpF F tok num fr to 13 4 = num := by simp [tpF]
theorem tpF_5 {F : q_FT} {tok num fr to : Int32} : tpF F tok num fr to 13 5 = fr := by simp [tpF]
theorem tpF_6 {F : q_FT} {tok num fr to : Int32} : tpF F tok num fr to 13 6 = to := by simp [tpF]
theorem tpF_1 {F : q_FT} {tok num fr to : Int32} : tpF F tok num fr to 13 1 = F 13 1 := by simp [tpF]
theorem tpF_ne {F : q_FT} {tok num fr to : Int32} {b j : Nat} (h : ¬ b = 13) : tpF F tok num fr to b j = F b j := by simp [tpF, h]
theorem tpF_u3 {F : q_FT} {tok num fr to x : Int32} : u2 (tpF F tok num fr to) 13 3 x = tpF F x num fr to := by
  funext b j
  by_cases h : b = 13
  · subst h
    by_cases h3 : j = 3
    · subst h3
      simp [tpF, u2]
    · by_cases h4 : j = 4
      · subst h4
        simp [tpF, u2]
      · by_cases h5 : j = 5
        · subst h5
          simp [tpF, u2]
        · by_cases h6 : j = 6
          · subst h6
            simp [tpF, u2]
          · simp [tpF, u2, h3, h4, h5, h6]
  · simp [tpF, u2, h]
theorem tpF_u4 {F : q_FT} {tok num fr to x : Int32} : u2 (tpF F tok num fr to) 13 4 x = tpF F tok x fr to := by
  funext b j
  by_cases h : b = 13
  · subst h
    by_cases h3 : j = 3
    · subst h3
      simp [tpF, u2]
    · by_cases h4 : j = 4
      · subst h4
        simp [tpF, u2]
      · by_cases h5 : j = 5
        · subst h5
          simp [tpF, u2]
        · by_cases h6 : j = 6
          · subst h6
            simp [tpF, u2]
          · simp [tpF, u2, h3, h4, h5, h6]
  · simp [tpF, u2, h]
theorem tpF_u5 {F : q_FT} {tok num fr to x : Int32} : u2 (tpF F tok num fr to) 13 5 x = tpF F tok num x to := by
  funext b j
  by_cases h : b = 13
  · subst h
    by_cases h3 : j = 3
    · subst h3
      simp [tpF, u2]
    · by_cases h4 : j = 4
      · subst h4
        simp [tpF, u2]
      · by_cases h5 : j = 5
        · subst h5
          simp [tpF, u2]
        · by_cases h6 : j = 6
          · subst h6
            simp [tpF, u2]
          · simp [tpF, u2, h3, h4, h5, h6]
  · simp [tpF, u2, h]
theorem tpF_u6 {F : q_FT} {tok num fr to x : Int32} : u2 (tpF F tok num fr to) 13 6 x = tpF F tok num fr x := by
  funext b j
  by_cases h : b = 13
  · subst h
    by_cases h3 : j = 3
    · subst h3
      simp [tpF, u2]
    · by_cases h4 : j = 4
      · subst h4
        simp [tpF, u2]
      · by_cases h5 : j = 5
        · subst h5
          simp [tpF, u2]
        · by_cases h6 : j = 6
          · subst h6
            simp [tpF, u2]
          · simp [tpF, u2, h3, h4, h5, h6]
  · simp [tpF, u2, h]
abbrev isL (b : Int32) : Prop := 97 ≤ b ∧ b ≤ 122
abbrev isD (b : Int32) : Prop := 48 ≤ b ∧ b ≤ 57
/-- the first place from t on, of r, that p does not hold of -/
def runTo (p : Nat → Prop) [DecidablePred p] : Nat → Nat → Nat
  | 0, t => t
  | r + 1, t => if p t then runTo p r (t + 1) else t
/-- the number that the figures from t on tell, behind what was read -/
def numOf (b : Nat → Int32) : Nat → Nat → Int32 → Int32
  | 0, _, v => v
  | r + 1, t, v => if isD (b t) then numOf b r (t + 1) (10 * v + b t - 48) else v
section SV
variable {S d : Nat} {P : Option Value → q_H → Nat → Nat → Prop} {SL : Nat} {xs : Nat → Int32} {F B : q_FT} {C : q_CT}
theorem s_isLetter {N : Nat} {h : q_H} {b : Int32} : E N S d 66 0 [some (.int b)] [] h P ↔ P (some (.int (q_b (isL b)))) h N S := by
  simp only [e_66_0, e_66_1, e_66_3, e_66_6, e_66_7, e_66_9, e_66_12, e_66_13, e_66_16, e_66_17, nz0, nz1]
  by_cases h1 : 97 ≤ b <;> by_cases h2 : b ≤ 122 <;> simp [q_b, isL, isD, h1, h2, Int32.not_lt.mpr, Int32.not_le.mp, Int32.not_le.mpr, Int32.not_lt.mp]
theorem s_isFigure {N : Nat} {h : q_H} {b : Int32} : E N S d 67 0 [some (.int b)] [] h P ↔ P (some (.int (q_b (isD b)))) h N S := by
  simp only [e_67_0, e_67_1, e_67_3, e_67_6, e_67_7, e_67_9, e_67_12, e_67_13, e_67_16, e_67_17, nz0, nz1]
  by_cases h1 : 48 ≤ b <;> by_cases h2 : b ≤ 57 <;> simp [q_b, isL, isD, h1, h2, Int32.not_lt.mpr, Int32.not_le.mp, Int32.not_le.mpr, Int32.not_lt.mp]
theorem s_failWith {f : Int32} : E 199 S d 60 0 [some (.ref (13 : Nat)), some (.int f)] [] (hp SL xs F B C) P ↔ P (some (.int 0)) (hp SL xs (u2 (u2 F 13 7 f) 13 8 (F 13 5)) B C) 199 S := by
  have f5 : ∀ y, u2 F 13 7 y 13 5 = F 13 5 := fun y => by
    unfold u2
    rw [if_neg (by omega)]
  simp only [e_60_0, e_60_1, e_60_2, e_60_5, e_60_6, e_60_7, e_60_10, e_60_13, e_60_14, kd_187, kd_188, kd_189, kd_190, kd_191, kd_192, kd_193, kd_194, kd_195, kd_196, kd_197, kd_198, ln_188, ln_189, ln_190, ln_191, ln_192, ln_193, ln_194, ln_195, ln_196, ln_197, ln_198, nz0, nz1, nzb, cmp0, cmpP, nl_n, nl_i, nl_r, nl_l, nl_nl, Nat.reduceAdd, Nat.reduceMul, Int32.reduceAdd, Int32.reduceSub, Int32.reduceMul, Int32.reduceLE, Int32.reduceLT, q_K_i, q_K_v, q_b0, q_bn, q_b1, z0, z1, q_bz, true_and, and_true, if_true, if_false, not_true_eq_false, not_false_eq_true, true_or, or_true, qsE_0, qsE_1, qsE_2, qsE_3, qsE_4, qsE_5, qsE_6, qsE_7, qsE_8, qsi_1, qsr_1, qsi_2, qsr_2, qsi_3, qsr_3, qsi_4, qsr_4, qsi_5, qsr_5, qsi_6, qsr_6, qsi_7, qsr_7, qsi_8, qsr_8, qsl_2, qsl_3, qsl_4, qsl_5, qsl_6, qsl_7, qsl_8, tc_0, tc_1, tc_2, tc_3, tc_4, tc_5, tc_6, tc_7, tc_8, tc_9, tc_10, tc_11, tc_12, tc_13, tc_14, tc_15, tc_16, tc_17, tc_18, tc_19, tc_20, tc_21, tc_22, tc_23, tc_24, tc_25, tc_26, tc_27, tc_28, tc_29, tc_30, tc_31, tc_32, tc_33, tc_34, tc_35, tc_36, tc_37, tc_38, tc_39, tc_40, tc_41, tc_42, tc_43, tc_44, tc_45, tc_46, tc_47, tc_48, tc_49, tc_50, tc_51, tc_52, tc_53, tc_54, tc_55, tc_56, tc_57, tc_58, tc_59, tc_60, tc_61, vq_0_48, vq_1_48, vq_2_48, vq_3_48, vq_4_48, vq_5_48, vq_6_48, vq_7_48, vq_8_48, vq_9_48, vq_10_48, vq_11_48, vq_12_48, vq_13_48, vq_14_48, vq_15_48, vq_16_48, vq_17_48, vq_18_48, vq_19_48, vq_20_48, vq_21_48, vq_22_48, vq_23_48, vq_24_48, vq_25_48, vq_26_48, vq_27_48, vq_28_48, vq_29_48, vq_30_48, vq_31_48, vq_32_48, vq_33_48, vq_34_48, vq_35_48, vq_36_48, vq_37_48, vq_38_48, vq_39_48, vq_40_48, vq_41_48, vq_42_48, vq_43_48, vq_44_48, vq_45_48, vq_46_48, vq_47_48, kd_0, kd_1, kd_2, kd_3, kd_4, kd_13, kd_14, kd_15, kd_16, kd_17, kd_18, kd_19, kd_20, kd_21, kd_22, kd_23, kd_24, kd_25, kd_26, kd_27, kd_28, kd_29, kd_30, kd_31, kd_32, kd_33, kd_34, kd_35, kd_36, kd_37, kd_38, kd_159, kd_182, kd_183, kd_184, kd_185, kd_186, ln_2, ln_3, ln_4, ln_14, ln_16, ln_17, ln_18, ln_19, ln_20, ln_22, ln_23, ln_24, ln_25, ln_27, ln_28, ln_29, ln_30, ln_31, ln_33, ln_34, ln_35, ln_36, ln_38, ln_159, ln_183, ln_184, ln_186, f5]
theorem s_clear : E 199 S d 54 0 [some (.ref (13 : Nat))] [] (hp SL xs F B C) P ↔ P none (hp SL xs (u2 (u2 (u2 (u2 F 15 0 1) 15 1 0) 15 6 0) 15 7 0) B C) 199 S := by
  simp only [e_54_0, e_54_1, e_54_4, e_54_5, e_54_8, e_54_9, e_54_12, e_54_13, e_54_16, e_54_17, e_54_20, e_54_21, e_54_24, e_54_25, e_54_28, e_54_29, e_54_32, kd_187, kd_188, kd_189, kd_190, kd_191, kd_192, kd_193, kd_194, kd_195, kd_196, kd_197, kd_198, ln_188, ln_189, ln_190, ln_191, ln_192, ln_193, ln_194, ln_195, ln_196, ln_197, ln_198, nz0, nz1, nzb, cmp0, cmpP, nl_n, nl_i, nl_r, nl_l, nl_nl, Nat.reduceAdd, Nat.reduceMul, Int32.reduceAdd, Int32.reduceSub, Int32.reduceMul, Int32.reduceLE, Int32.reduceLT, q_K_i, q_K_v, q_b0, q_bn, q_b1, z0, z1, q_bz, true_and, and_true, if_true, if_false, not_true_eq_false, not_false_eq_true, true_or, or_true, qsE_0, qsE_1, qsE_2, qsE_3, qsE_4, qsE_5, qsE_6, qsE_7, qsE_8, qsi_1, qsr_1, qsi_2, qsr_2, qsi_3, qsr_3, qsi_4, qsr_4, qsi_5, qsr_5, qsi_6, qsr_6, qsi_7, qsr_7, qsi_8, qsr_8, qsl_2, qsl_3, qsl_4, qsl_5, qsl_6, qsl_7, qsl_8, tc_0, tc_1, tc_2, tc_3, tc_4, tc_5, tc_6, tc_7, tc_8, tc_9, tc_10, tc_11, tc_12, tc_13, tc_14, tc_15, tc_16, tc_17, tc_18, tc_19, tc_20, tc_21, tc_22, tc_23, tc_24, tc_25, tc_26, tc_27, tc_28, tc_29, tc_30, tc_31, tc_32, tc_33, tc_34, tc_35, tc_36, tc_37, tc_38, tc_39, tc_40, tc_41, tc_42, tc_43, tc_44, tc_45, tc_46, tc_47, tc_48, tc_49, tc_50, tc_51, tc_52, tc_53, tc_54, tc_55, tc_56, tc_57, tc_58, tc_59, tc_60, tc_61, vq_0_48, vq_1_48, vq_2_48, vq_3_48, vq_4_48, vq_5_48, vq_6_48, vq_7_48, vq_8_48, vq_9_48, vq_10_48, vq_11_48, vq_12_48, vq_13_48, vq_14_48, vq_15_48, vq_16_48, vq_17_48, vq_18_48, vq_19_48, vq_20_48, vq_21_48, vq_22_48, vq_23_48, vq_24_48, vq_25_48, vq_26_48, vq_27_48, vq_28_48, vq_29_48, vq_30_48, vq_31_48, vq_32_48, vq_33_48, vq_34_48, vq_35_48, vq_36_48, vq_37_48, vq_38_48, vq_39_48, vq_40_48, vq_41_48, vq_42_48, vq_43_48, vq_44_48, vq_45_48, vq_46_48, vq_47_48, kd_0, kd_1, kd_2, kd_3, kd_4, kd_13, kd_14, kd_15, kd_16, kd_17, kd_18, kd_19, kd_20, kd_21, kd_22, kd_23, kd_24, kd_25, kd_26, kd_27, kd_28, kd_29, kd_30, kd_31, kd_32, kd_33, kd_34, kd_35, kd_36, kd_37, kd_38, kd_159, kd_182, kd_183, kd_184, kd_185, kd_186, ln_2, ln_3, ln_4, ln_14, ln_16, ln_17, ln_18, ln_19, ln_20, ln_22, ln_23, ln_24, ln_25, ln_27, ln_28, ln_29, ln_30, ln_31, ln_33, ln_34, ln_35, ln_36, ln_38, ln_159, ln_183, ln_184, ln_186]
theorem l_name {num fr : Int32} {n : Nat} (hn : F 13 1 = nI n) (h4 : n ≤ 400) : ∀ (r t : Nat), t + r = n → (E 199 S (d + 1) 64 5 [some (.ref (13 : Nat))] [] (hp SL xs (tpF F 1 num fr (nI t)) B C) P ↔ P none (hp SL xs (tpF F 1 num fr (nI (runTo (fun k => isL (B 14 k)) r t))) B C) 199 S)
  | 0, t, ht => by
    have e : t = n := by omega
    subst e
    have h3 : nI t ≤ nI t := Int32.le_refl _
    rw [e_64_5]
    simp only [e_64_0, e_64_1, e_64_2, e_64_6, e_64_9, e_64_10, e_64_13, e_64_16, e_64_17, e_64_20, e_64_21, e_64_24, e_64_25, e_64_28, e_64_31, e_64_32, e_64_32r, e_64_33, e_64_36, e_64_37, e_64_38, e_64_41, e_64_44, kd_187, kd_188, kd_189, kd_190, kd_191, kd_192, kd_193, kd_194, kd_195, kd_196, kd_197, kd_198, ln_188, ln_189, ln_190, ln_191, ln_192, ln_193, ln_194, ln_195, ln_196, ln_197, ln_198, nz0, nz1, nzb, cmp0, cmpP, nl_n, nl_i, nl_r, nl_l, nl_nl, Nat.reduceAdd, Nat.reduceMul, Int32.reduceAdd, Int32.reduceSub, Int32.reduceMul, Int32.reduceLE, Int32.reduceLT, q_K_i, q_K_v, q_b0, q_bn, q_b1, z0, z1, q_bz, true_and, and_true, if_true, if_false, not_true_eq_false, not_false_eq_true, true_or, or_true, qsE_0, qsE_1, qsE_2, qsE_3, qsE_4, qsE_5, qsE_6, qsE_7, qsE_8, qsi_1, qsr_1, qsi_2, qsr_2, qsi_3, qsr_3, qsi_4, qsr_4, qsi_5, qsr_5, qsi_6, qsr_6, qsi_7, qsr_7, qsi_8, qsr_8, qsl_2, qsl_3, qsl_4, qsl_5, qsl_6, qsl_7, qsl_8, tc_0, tc_1, tc_2, tc_3, tc_4, tc_5, tc_6, tc_7, tc_8, tc_9, tc_10, tc_11, tc_12, tc_13, tc_14, tc_15, tc_16, tc_17, tc_18, tc_19, tc_20, tc_21, tc_22, tc_23, tc_24, tc_25, tc_26, tc_27, tc_28, tc_29, tc_30, tc_31, tc_32, tc_33, tc_34, tc_35, tc_36, tc_37, tc_38, tc_39, tc_40, tc_41, tc_42, tc_43, tc_44, tc_45, tc_46, tc_47, tc_48, tc_49, tc_50, tc_51, tc_52, tc_53, tc_54, tc_55, tc_56, tc_57, tc_58, tc_59, tc_60, tc_61, vq_0_48, vq_1_48, vq_2_48, vq_3_48, vq_4_48, vq_5_48, vq_6_48, vq_7_48, vq_8_48, vq_9_48, vq_10_48, vq_11_48, vq_12_48, vq_13_48, vq_14_48, vq_15_48, vq_16_48, vq_17_48, vq_18_48, vq_19_48, vq_20_48, vq_21_48, vq_22_48, vq_23_48, vq_24_48, vq_25_48, vq_26_48, vq_27_48, vq_28_48, vq_29_48, vq_30_48, vq_31_48, vq_32_48, vq_33_48, vq_34_48, vq_35_48, vq_36_48, vq_37_48, vq_38_48, vq_39_48, vq_40_48, vq_41_48, vq_42_48, vq_43_48, vq_44_48, vq_45_48, vq_46_48, vq_47_48, kd_0, kd_1, kd_2, kd_3, kd_4, kd_13, kd_14, kd_15, kd_16, kd_17, kd_18, kd_19, kd_20, kd_21, kd_22, kd_23, kd_24, kd_25, kd_26, kd_27, kd_28, kd_29, kd_30, kd_31, kd_32, kd_33, kd_34, kd_35, kd_36, kd_37, kd_38, kd_159, kd_182, kd_183, kd_184, kd_185, kd_186, ln_2, ln_3, ln_4, ln_14, ln_16, ln_17, ln_18, ln_19, ln_20, ln_22, ln_23, ln_24, ln_25, ln_27, ln_28, ln_29, ln_30, ln_31, ln_33, ln_34, ln_35, ln_36, ln_38, ln_159, ln_183, ln_184, ln_186, tpF_1, tpF_6, hn, h3, runTo]
  | r + 1, t, ht => by
    have h3 : ¬ nI n ≤ nI t := nI_ge (by omega) (by omega)
    have h1 : vp_in (nI t) 400 := vp_in_nI (by omega) (by omega)
    have h2 : (nI t).toNatClampNeg = t := nI_clamp (by omega)
    have ih := l_name (num := num) (fr := fr) hn h4 r (t + 1) (by omega)
    rw [e_64_5]
    by_cases c : isL (B 14 t)
    · rw [show runTo (fun k => isL (B 14 k)) (r + 1) t = runTo (fun k => isL (B 14 k)) r (t + 1) from if_pos c]
      simp only [e_64_0, e_64_1, e_64_2, e_64_6, e_64_9, e_64_10, e_64_13, e_64_16, e_64_17, e_64_20, e_64_21, e_64_24, e_64_25, e_64_28, e_64_31, e_64_32, e_64_32r, e_64_33, e_64_36, e_64_37, e_64_38, e_64_41, e_64_44, kd_187, kd_188, kd_189, kd_190, kd_191, kd_192, kd_193, kd_194, kd_195, kd_196, kd_197, kd_198, ln_188, ln_189, ln_190, ln_191, ln_192, ln_193, ln_194, ln_195, ln_196, ln_197, ln_198, nz0, nz1, nzb, cmp0, cmpP, nl_n, nl_i, nl_r, nl_l, nl_nl, Nat.reduceAdd, Nat.reduceMul, Int32.reduceAdd, Int32.reduceSub, Int32.reduceMul, Int32.reduceLE, Int32.reduceLT, q_K_i, q_K_v, q_b0, q_bn, q_b1, z0, z1, q_bz, true_and, and_true, if_true, if_false, not_true_eq_false, not_false_eq_true, true_or, or_true, qsE_0, qsE_1, qsE_2, qsE_3, qsE_4, qsE_5, qsE_6, qsE_7, qsE_8, qsi_1, qsr_1, qsi_2, qsr_2, qsi_3, qsr_3, qsi_4, qsr_4, qsi_5, qsr_5, qsi_6, qsr_6, qsi_7, qsr_7, qsi_8, qsr_8, qsl_2, qsl_3, qsl_4, qsl_5, qsl_6, qsl_7, qsl_8, tc_0, tc_1, tc_2, tc_3, tc_4, tc_5, tc_6, tc_7, tc_8, tc_9, tc_10, tc_11, tc_12, tc_13, tc_14, tc_15, tc_16, tc_17, tc_18, tc_19, tc_20, tc_21, tc_22, tc_23, tc_24, tc_25, tc_26, tc_27, tc_28, tc_29, tc_30, tc_31, tc_32, tc_33, tc_34, tc_35, tc_36, tc_37, tc_38, tc_39, tc_40, tc_41, tc_42, tc_43, tc_44, tc_45, tc_46, tc_47, tc_48, tc_49, tc_50, tc_51, tc_52, tc_53, tc_54, tc_55, tc_56, tc_57, tc_58, tc_59, tc_60, tc_61, vq_0_48, vq_1_48, vq_2_48, vq_3_48, vq_4_48, vq_5_48, vq_6_48, vq_7_48, vq_8_48, vq_9_48, vq_10_48, vq_11_48, vq_12_48, vq_13_48, vq_14_48, vq_15_48, vq_16_48, vq_17_48, vq_18_48, vq_19_48, vq_20_48, vq_21_48, vq_22_48, vq_23_48, vq_24_48, vq_25_48, vq_26_48, vq_27_48, vq_28_48, vq_29_48, vq_30_48, vq_31_48, vq_32_48, vq_33_48, vq_34_48, vq_35_48, vq_36_48, vq_37_48, vq_38_48, vq_39_48, vq_40_48, vq_41_48, vq_42_48, vq_43_48, vq_44_48, vq_45_48, vq_46_48, vq_47_48, kd_0, kd_1, kd_2, kd_3, kd_4, kd_13, kd_14, kd_15, kd_16, kd_17, kd_18, kd_19, kd_20, kd_21, kd_22, kd_23, kd_24, kd_25, kd_26, kd_27, kd_28, kd_29, kd_30, kd_31, kd_32, kd_33, kd_34, kd_35, kd_36, kd_37, kd_38, kd_159, kd_182, kd_183, kd_184, kd_185, kd_186, ln_2, ln_3, ln_4, ln_14, ln_16, ln_17, ln_18, ln_19, ln_20, ln_22, ln_23, ln_24, ln_25, ln_27, ln_28, ln_29, ln_30, ln_31, ln_33, ln_34, ln_35, ln_36, ln_38, ln_159, ln_183, ln_184, ln_186, tpF_1, tpF_6, tpF_u6, hn, h1, h2, h3, s_isLetter, nI_1]
      rw [if_neg (not_not_intro c)]
      exact ih
    · rw [show runTo (fun k => isL (B 14 k)) (r + 1) t = t from if_neg c]
      simp only [e_64_0, e_64_1, e_64_2, e_64_6, e_64_9, e_64_10, e_64_13, e_64_16, e_64_17, e_64_20, e_64_21, e_64_24, e_64_25, e_64_28, e_64_31, e_64_32, e_64_32r, e_64_33, e_64_36, e_64_37, e_64_38, e_64_41, e_64_44, kd_187, kd_188, kd_189, kd_190, kd_191, kd_192, kd_193, kd_194, kd_195, kd_196, kd_197, kd_198, ln_188, ln_189, ln_190, ln_191, ln_192, ln_193, ln_194, ln_195, ln_196, ln_197, ln_198, nz0, nz1, nzb, cmp0, cmpP, nl_n, nl_i, nl_r, nl_l, nl_nl, Nat.reduceAdd, Nat.reduceMul, Int32.reduceAdd, Int32.reduceSub, Int32.reduceMul, Int32.reduceLE, Int32.reduceLT, q_K_i, q_K_v, q_b0, q_bn, q_b1, z0, z1, q_bz, true_and, and_true, if_true, if_false, not_true_eq_false, not_false_eq_true, true_or, or_true, qsE_0, qsE_1, qsE_2, qsE_3, qsE_4, qsE_5, qsE_6, qsE_7, qsE_8, qsi_1, qsr_1, qsi_2, qsr_2, qsi_3, qsr_3, qsi_4, qsr_4, qsi_5, qsr_5, qsi_6, qsr_6, qsi_7, qsr_7, qsi_8, qsr_8, qsl_2, qsl_3, qsl_4, qsl_5, qsl_6, qsl_7, qsl_8, tc_0, tc_1, tc_2, tc_3, tc_4, tc_5, tc_6, tc_7, tc_8, tc_9, tc_10, tc_11, tc_12, tc_13, tc_14, tc_15, tc_16, tc_17, tc_18, tc_19, tc_20, tc_21, tc_22, tc_23, tc_24, tc_25, tc_26, tc_27, tc_28, tc_29, tc_30, tc_31, tc_32, tc_33, tc_34, tc_35, tc_36, tc_37, tc_38, tc_39, tc_40, tc_41, tc_42, tc_43, tc_44, tc_45, tc_46, tc_47, tc_48, tc_49, tc_50, tc_51, tc_52, tc_53, tc_54, tc_55, tc_56, tc_57, tc_58, tc_59, tc_60, tc_61, vq_0_48, vq_1_48, vq_2_48, vq_3_48, vq_4_48, vq_5_48, vq_6_48, vq_7_48, vq_8_48, vq_9_48, vq_10_48, vq_11_48, vq_12_48, vq_13_48, vq_14_48, vq_15_48, vq_16_48, vq_17_48, vq_18_48, vq_19_48, vq_20_48, vq_21_48, vq_22_48, vq_23_48, vq_24_48, vq_25_48, vq_26_48, vq_27_48, vq_28_48, vq_29_48, vq_30_48, vq_31_48, vq_32_48, vq_33_48, vq_34_48, vq_35_48, vq_36_48, vq_37_48, vq_38_48, vq_39_48, vq_40_48, vq_41_48, vq_42_48, vq_43_48, vq_44_48, vq_45_48, vq_46_48, vq_47_48, kd_0, kd_1, kd_2, kd_3, kd_4, kd_13, kd_14, kd_15, kd_16, kd_17, kd_18, kd_19, kd_20, kd_21, kd_22, kd_23, kd_24, kd_25, kd_26, kd_27, kd_28, kd_29, kd_30, kd_31, kd_32, kd_33, kd_34, kd_35, kd_36, kd_37, kd_38, kd_159, kd_182, kd_183, kd_184, kd_185, kd_186, ln_2, ln_3, ln_4, ln_14, ln_16, ln_17, ln_18, ln_19, ln_20, ln_22, ln_23, ln_24, ln_25, ln_27, ln_28, ln_29, ln_30, ln_31, ln_33, ln_34, ln_35, ln_36, ln_38, ln_159, ln_183, ln_184, ln_186, tpF_1, tpF_6, hn, h1, h2, h3, s_isLetter]
      rw [if_pos c]
theorem s_name {tok num fr : Int32} {n t : Nat} (hn : F 13 1 = nI n) (h4 : n ≤ 400) (ht : t ≤ n) : E 199 S (d + 1) 64 0 [some (.ref (13 : Nat))] [] (hp SL xs (tpF F tok num fr (nI t)) B C) P ↔ P none (hp SL xs (tpF F 1 num fr (nI (runTo (fun k => isL (B 14 k)) (n - t) t))) B C) 199 S := by
  simp only [e_64_0, e_64_1, e_64_2, e_64_6, e_64_9, e_64_10, e_64_13, e_64_16, e_64_17, e_64_20, e_64_21, e_64_24, e_64_25, e_64_28, e_64_31, e_64_32, e_64_32r, e_64_33, e_64_36, e_64_37, e_64_38, e_64_41, e_64_44, kd_187, kd_188, kd_189, kd_190, kd_191, kd_192, kd_193, kd_194, kd_195, kd_196, kd_197, kd_198, ln_188, ln_189, ln_190, ln_191, ln_192, ln_193, ln_194, ln_195, ln_196, ln_197, ln_198, nz0, nz1, nzb, cmp0, cmpP, nl_n, nl_i, nl_r, nl_l, nl_nl, Nat.reduceAdd, Nat.reduceMul, Int32.reduceAdd, Int32.reduceSub, Int32.reduceMul, Int32.reduceLE, Int32.reduceLT, q_K_i, q_K_v, q_b0, q_bn, q_b1, z0, z1, q_bz, true_and, and_true, if_true, if_false, not_true_eq_false, not_false_eq_true, true_or, or_true, qsE_0, qsE_1, qsE_2, qsE_3, qsE_4, qsE_5, qsE_6, qsE_7, qsE_8, qsi_1, qsr_1, qsi_2, qsr_2, qsi_3, qsr_3, qsi_4, qsr_4, qsi_5, qsr_5, qsi_6, qsr_6, qsi_7, qsr_7, qsi_8, qsr_8, qsl_2, qsl_3, qsl_4, qsl_5, qsl_6, qsl_7, qsl_8, tc_0, tc_1, tc_2, tc_3, tc_4, tc_5, tc_6, tc_7, tc_8, tc_9, tc_10, tc_11, tc_12, tc_13, tc_14, tc_15, tc_16, tc_17, tc_18, tc_19, tc_20, tc_21, tc_22, tc_23, tc_24, tc_25, tc_26, tc_27, tc_28, tc_29, tc_30, tc_31, tc_32, tc_33, tc_34, tc_35, tc_36, tc_37, tc_38, tc_39, tc_40, tc_41, tc_42, tc_43, tc_44, tc_45, tc_46, tc_47, tc_48, tc_49, tc_50, tc_51, tc_52, tc_53, tc_54, tc_55, tc_56, tc_57, tc_58, tc_59, tc_60, tc_61, vq_0_48, vq_1_48, vq_2_48, vq_3_48, vq_4_48, vq_5_48, vq_6_48, vq_7_48, vq_8_48, vq_9_48, vq_10_48, vq_11_48, vq_12_48, vq_13_48, vq_14_48, vq_15_48, vq_16_48, vq_17_48, vq_18_48, vq_19_48, vq_20_48, vq_21_48, vq_22_48, vq_23_48, vq_24_48, vq_25_48, vq_26_48, vq_27_48, vq_28_48, vq_29_48, vq_30_48, vq_31_48, vq_32_48, vq_33_48, vq_34_48, vq_35_48, vq_36_48, vq_37_48, vq_38_48, vq_39_48, vq_40_48, vq_41_48, vq_42_48, vq_43_48, vq_44_48, vq_45_48, vq_46_48, vq_47_48, kd_0, kd_1, kd_2, kd_3, kd_4, kd_13, kd_14, kd_15, kd_16, kd_17, kd_18, kd_19, kd_20, kd_21, kd_22, kd_23, kd_24, kd_25, kd_26, kd_27, kd_28, kd_29, kd_30, kd_31, kd_32, kd_33, kd_34, kd_35, kd_36, kd_37, kd_38, kd_159, kd_182, kd_183, kd_184, kd_185, kd_186, ln_2, ln_3, ln_4, ln_14, ln_16, ln_17, ln_18, ln_19, ln_20, ln_22, ln_23, ln_24, ln_25, ln_27, ln_28, ln_29, ln_30, ln_31, ln_33, ln_34, ln_35, ln_36, ln_38, ln_159, ln_183, ln_184, ln_186, tpF_u3, l_name hn h4 (n - t) t (by omega)]
end SV
