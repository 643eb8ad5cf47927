/-! METHODS: the model's tokens -/
/-- F, but the model's cursor, start, token, number -/
def mpF (F : q_FT) (cu st tok num : Int32) : q_FT := fun b j => if b = 187 ∧ j = 11 then cu else if b = 187 ∧ j = 12 then st else if b = 187 ∧ j = 13 then tok else if b = 187 ∧ j = 14 then num else F b j
theorem mpF_11 {F : q_FT} {cu st tok num : Int32} : mpF F cu st tok num 187 11 = cu := by simp [mpF]
theorem mpF_12 {F : q_FT} {cu st tok num : Int32} : mpF F cu st tok num 187 12 = st := by simp [mpF]
theorem mpF_13 {F : q_FT} {cu st tok num : Int32} : mpF F cu st tok num 187 13 = tok := by simp [mpF]
theorem mpF_14 {F : q_FT} {cu st tok num : Int32} : mpF F cu st tok num 187 14 = num := by simp [mpF]
theorem mpF_10 {F : q_FT} {cu st tok num : Int32} : mpF F cu st tok num 187 10 = F 187 10 := by simp [mpF]
theorem mpF_16 {F : q_FT} {cu st tok num : Int32} : mpF F cu st tok num 187 16 = F 187 16 := by simp [mpF]
theorem mpF_u {F : q_FT} {cu st tok num x : Int32} {k : Nat} : u2 (mpF F cu st tok num) 187 k x = mpF (u2 F 187 k x) (if k = 11 then x else cu) (if k = 12 then x else st) (if k = 13 then x else tok) (if k = 14 then x else num) := by
  funext b j
  by_cases h : b = 187
  · subst h
    by_cases h3 : j = k
    · subst h3
      by_cases h4 : j = 11
      · subst h4
        simp [mpF, u2]
      · by_cases h5 : j = 12
        · subst h5
          simp [mpF, u2]
        · by_cases h6 : j = 13
          · subst h6
            simp [mpF, u2]
          · by_cases h7 : j = 14
            · subst h7
              simp [mpF, u2]
            · simp [mpF, u2, h4, h5, h6, h7]
    · by_cases h4 : j = 11
      · subst h4
        simp [mpF, u2, h3, Ne.symm h3]
      · by_cases h5 : j = 12
        · subst h5
          simp [mpF, u2, h3, Ne.symm h3]
        · by_cases h6 : j = 13
          · subst h6
            simp [mpF, u2, h3, Ne.symm h3]
          · by_cases h7 : j = 14
            · subst h7
              simp [mpF, u2, h3, Ne.symm h3]
            · simp [mpF, u2, h3, h4, h5, h6, h7]
  · simp [mpF, u2, h]
theorem mpF_u11 {F : q_FT} {cu st tok num x : Int32} : u2 (mpF F cu st tok num) 187 11 x = mpF F x st tok num := by
  funext b j
  by_cases h : b = 187
  · subst h
    by_cases h4 : j = 11
    · subst h4
      simp [mpF, u2]
    · by_cases h5 : j = 12
      · subst h5
        simp [mpF, u2]
      · by_cases h6 : j = 13
        · subst h6
          simp [mpF, u2]
        · by_cases h7 : j = 14
          · subst h7
            simp [mpF, u2]
          · simp [mpF, u2, h4, h5, h6, h7]
  · simp [mpF, u2, h]
theorem mpF_u12 {F : q_FT} {cu st tok num x : Int32} : u2 (mpF F cu st tok num) 187 12 x = mpF F cu x tok num := by
  funext b j
  by_cases h : b = 187
  · subst h
    by_cases h4 : j = 11
    · subst h4
      simp [mpF, u2]
    · by_cases h5 : j = 12
      · subst h5
        simp [mpF, u2]
      · by_cases h6 : j = 13
        · subst h6
          simp [mpF, u2]
        · by_cases h7 : j = 14
          · subst h7
            simp [mpF, u2]
          · simp [mpF, u2, h4, h5, h6, h7]
  · simp [mpF, u2, h]
theorem mpF_u13 {F : q_FT} {cu st tok num x : Int32} : u2 (mpF F cu st tok num) 187 13 x = mpF F cu st x num := by
  funext b j
  by_cases h : b = 187
  · subst h
    by_cases h4 : j = 11
    · subst h4
      simp [mpF, u2]
    · by_cases h5 : j = 12
      · subst h5
        simp [mpF, u2]
      · by_cases h6 : j = 13
        · subst h6
          simp [mpF, u2]
        · by_cases h7 : j = 14
          · subst h7
            simp [mpF, u2]
          · simp [mpF, u2, h4, h5, h6, h7]
  · simp [mpF, u2, h]
theorem mpF_u14 {F : q_FT} {cu st tok num x : Int32} : u2 (mpF F cu st tok num) 187 14 x = mpF F cu st tok x := by
  funext b j
  by_cases h : b = 187
  · subst h
    by_cases h4 : j = 11
    · subst h4
      simp [mpF, u2]
    · by_cases h5 : j = 12
      · subst h5
        simp [mpF, u2]
      · by_cases h6 : j = 13
        · subst h6
          simp [mpF, u2]
        · by_cases h7 : j = 14
          · subst h7
            simp [mpF, u2]
          · simp [mpF, u2, h4, h5, h6, h7]
  · simp [mpF, u2, h]
def mnumOf (b : Nat → Int32) (st : Int32) : Nat → Nat → Int32 → Int32
  | 0, _, v => v
  | r + 1, t, v => if isD (b t) then mnumOf b st r (t + 1) (if 3 ≤ nI t - st then v else 10 * v + b t - 48) else v
section SX
variable {S d : Nat} {P : Option Value → q_H → Nat → Nat → Prop} {SL : Nat} {xs : Nat → Int32} {F B : q_FT} {C : q_CT}
theorem s_bAt {k n : Nat} (hn : F 187 10 = nI n) (h4 : n ≤ 400) (hk : k ≤ 400) : E 199 S d 118 0 [some (.ref (187 : Nat)), some (.int (nI k))] [] (hp SL xs F B C) P ↔ P (some (.int (if k < n then B 195 k else -1))) (hp SL xs F B C) 199 S := by
  have a2 : (nI k).toNatClampNeg = k := nI_clamp (by omega)
  have hq : nI k < F 187 10 → vp_in (nI k) 400 := fun z => by
    refine vp_in_nI ?_ (by omega)
    rw [hn, Int32.lt_iff_toInt_lt, nI_toInt (by omega), nI_toInt (by omega)] at z
    omega
  rw [s_byteAt hq, hn, a2]
  by_cases c : k < n
  · rw [if_pos c, if_pos (nI_lt c (by omega))]
  · rw [if_neg c, if_neg (Int32.not_lt.mpr (nI_le (by omega) (by omega)))]
theorem l_mskip {st tok num : Int32} {y : Option Value} {n : Nat} (hn : F 187 10 = nI n) (h4 : n ≤ 400) : ∀ (r t : Nat), t + r = n → (E 199 S (d + 1) 119 0 [some (.ref (187 : Nat)), y] [] (hp SL xs (mpF F (nI t) st tok num) B C) P ↔ E 199 S (d + 1) 119 39 [some (.ref (187 : Nat)), y] [] (hp SL xs (mpF F (nI (runTo (fun k => isW (B 195 k)) r t)) st tok num) B C) P)
  | 0, t, ht => by
    have e : t = n := by omega
    subst e
    have hb : mpF F (nI t) st tok num 187 10 = nI t := mpF_10.trans hn
    have m1 : ¬ (-1 : Int32) = 32 := by decide
    have m2 : ¬ (-1 : Int32) = 10 := by decide
    rw [e_119_0]
    simp only [e_119_1, e_119_2, e_119_5, e_119_8, e_119_10, e_119_13, e_119_14, e_119_15, e_119_18, e_119_21, e_119_23, e_119_26, e_119_27, e_119_27r, e_119_28, e_119_31, e_119_32, e_119_33, e_119_36, e_119_40, e_119_41, e_119_44, e_119_47, e_119_48, e_119_49, e_119_52, e_119_55, e_119_56, e_119_57, e_119_60, e_119_61, e_119_62, e_119_65, e_119_68, e_119_69, e_119_71, e_119_73, e_119_76, e_119_79, e_119_80, e_119_81, e_119_84, e_119_85, e_119_86, e_119_89, e_119_90, e_119_91, e_119_94, e_119_97, e_119_99, e_119_101, e_119_104, e_119_107, e_119_108, e_119_109, e_119_112, e_119_113, e_119_116, e_119_117, e_119_119, e_119_122, e_119_123, e_119_126, e_119_128, e_119_129, e_119_130, e_119_131, e_119_134, e_119_137, e_119_138, e_119_139, e_119_142, e_119_143, e_119_146, e_119_147, e_119_147r, e_119_148, e_119_151, e_119_152, e_119_153, e_119_156, e_119_159, e_119_160, e_119_162, e_119_164, e_119_167, e_119_170, e_119_171, e_119_172, e_119_175, e_119_176, e_119_177, e_119_180, e_119_183, e_119_185, e_119_187, e_119_190, e_119_193, e_119_194, e_119_195, e_119_198, e_119_199, e_119_202, e_119_203, e_119_204, e_119_207, e_119_209, e_119_210, e_119_213, e_119_214, e_119_215, e_119_216, e_119_219, e_119_222, e_119_223, e_119_225, e_119_226, e_119_229, e_119_230, e_119_233, e_119_236, e_119_237, e_119_237r, e_119_238, e_119_241, e_119_242, e_119_243, e_119_246, e_119_249, e_119_250, e_119_251, e_119_254, e_119_255, e_119_258, e_119_259, e_119_260, e_119_263, e_119_264, e_119_267, e_119_268, e_119_271, e_119_274, e_119_275, e_119_276, e_119_278, e_119_281, e_119_282, e_119_285, e_119_286, e_119_289, e_119_290, e_119_290r, e_119_291, e_119_294, e_119_295, e_119_296, e_119_299, kd_187, kd_188, kd_189, kd_190, kd_191, kd_192, kd_193, kd_194, kd_195, kd_196, kd_197, kd_198, ln_188, ln_189, ln_190, ln_191, ln_192, ln_193, ln_194, ln_195, ln_196, ln_197, ln_198, nz0, nz1, nzb, cmp0, cmpP, nl_n, nl_i, nl_r, nl_l, nl_nl, Nat.reduceAdd, Nat.reduceMul, Int32.reduceAdd, Int32.reduceSub, Int32.reduceMul, Int32.reduceLE, Int32.reduceLT, q_K_i, q_K_v, q_b0, q_bn, q_b1, z0, z1, q_bz, true_and, and_true, if_true, if_false, not_true_eq_false, not_false_eq_true, true_or, or_true, qsE_0, qsE_1, qsE_2, qsE_3, qsE_4, qsE_5, qsE_6, qsE_7, qsE_8, qsi_1, qsr_1, qsi_2, qsr_2, qsi_3, qsr_3, qsi_4, qsr_4, qsi_5, qsr_5, qsi_6, qsr_6, qsi_7, qsr_7, qsi_8, qsr_8, qsl_2, qsl_3, qsl_4, qsl_5, qsl_6, qsl_7, qsl_8, tc_0, tc_1, tc_2, tc_3, tc_4, tc_5, tc_6, tc_7, tc_8, tc_9, tc_10, tc_11, tc_12, tc_13, tc_14, tc_15, tc_16, tc_17, tc_18, tc_19, tc_20, tc_21, tc_22, tc_23, tc_24, tc_25, tc_26, tc_27, tc_28, tc_29, tc_30, tc_31, tc_32, tc_33, tc_34, tc_35, tc_36, tc_37, tc_38, tc_39, tc_40, tc_41, tc_42, tc_43, tc_44, tc_45, tc_46, tc_47, tc_48, tc_49, tc_50, tc_51, tc_52, tc_53, tc_54, tc_55, tc_56, tc_57, tc_58, tc_59, tc_60, tc_61, vq_0_48, vq_1_48, vq_2_48, vq_3_48, vq_4_48, vq_5_48, vq_6_48, vq_7_48, vq_8_48, vq_9_48, vq_10_48, vq_11_48, vq_12_48, vq_13_48, vq_14_48, vq_15_48, vq_16_48, vq_17_48, vq_18_48, vq_19_48, vq_20_48, vq_21_48, vq_22_48, vq_23_48, vq_24_48, vq_25_48, vq_26_48, vq_27_48, vq_28_48, vq_29_48, vq_30_48, vq_31_48, vq_32_48, vq_33_48, vq_34_48, vq_35_48, vq_36_48, vq_37_48, vq_38_48, vq_39_48, vq_40_48, vq_41_48, vq_42_48, vq_43_48, vq_44_48, vq_45_48, vq_46_48, vq_47_48, mpF_11, s_bAt hb h4 (show t ≤ 400 by omega), Nat.lt_irrefl, m1, m2, runTo]
  | r + 1, t, ht => by
    have hb : mpF F (nI t) st tok num 187 10 = nI n := mpF_10.trans hn
    have ih := l_mskip (st := st) (tok := tok) (num := num) (y := y) hn h4 r (t + 1) (by omega)
    have htn : t < n := by omega
    rw [e_119_0]
    by_cases c1 : B 195 t = 32
    · rw [show runTo (fun k => isW (B 195 k)) (r + 1) t = runTo (fun k => isW (B 195 k)) r (t + 1) from if_pos (Or.inl c1)]
      simp only [e_119_1, e_119_2, e_119_5, e_119_8, e_119_10, e_119_13, e_119_14, e_119_15, e_119_18, e_119_21, e_119_23, e_119_26, e_119_27, e_119_27r, e_119_28, e_119_31, e_119_32, e_119_33, e_119_36, e_119_40, e_119_41, e_119_44, e_119_47, e_119_48, e_119_49, e_119_52, e_119_55, e_119_56, e_119_57, e_119_60, e_119_61, e_119_62, e_119_65, e_119_68, e_119_69, e_119_71, e_119_73, e_119_76, e_119_79, e_119_80, e_119_81, e_119_84, e_119_85, e_119_86, e_119_89, e_119_90, e_119_91, e_119_94, e_119_97, e_119_99, e_119_101, e_119_104, e_119_107, e_119_108, e_119_109, e_119_112, e_119_113, e_119_116, e_119_117, e_119_119, e_119_122, e_119_123, e_119_126, e_119_128, e_119_129, e_119_130, e_119_131, e_119_134, e_119_137, e_119_138, e_119_139, e_119_142, e_119_143, e_119_146, e_119_147, e_119_147r, e_119_148, e_119_151, e_119_152, e_119_153, e_119_156, e_119_159, e_119_160, e_119_162, e_119_164, e_119_167, e_119_170, e_119_171, e_119_172, e_119_175, e_119_176, e_119_177, e_119_180, e_119_183, e_119_185, e_119_187, e_119_190, e_119_193, e_119_194, e_119_195, e_119_198, e_119_199, e_119_202, e_119_203, e_119_204, e_119_207, e_119_209, e_119_210, e_119_213, e_119_214, e_119_215, e_119_216, e_119_219, e_119_222, e_119_223, e_119_225, e_119_226, e_119_229, e_119_230, e_119_233, e_119_236, e_119_237, e_119_237r, e_119_238, e_119_241, e_119_242, e_119_243, e_119_246, e_119_249, e_119_250, e_119_251, e_119_254, e_119_255, e_119_258, e_119_259, e_119_260, e_119_263, e_119_264, e_119_267, e_119_268, e_119_271, e_119_274, e_119_275, e_119_276, e_119_278, e_119_281, e_119_282, e_119_285, e_119_286, e_119_289, e_119_290, e_119_290r, e_119_291, e_119_294, e_119_295, e_119_296, e_119_299, kd_187, kd_188, kd_189, kd_190, kd_191, kd_192, kd_193, kd_194, kd_195, kd_196, kd_197, kd_198, ln_188, ln_189, ln_190, ln_191, ln_192, ln_193, ln_194, ln_195, ln_196, ln_197, ln_198, nz0, nz1, nzb, cmp0, cmpP, nl_n, nl_i, nl_r, nl_l, nl_nl, Nat.reduceAdd, Nat.reduceMul, Int32.reduceAdd, Int32.reduceSub, Int32.reduceMul, Int32.reduceLE, Int32.reduceLT, q_K_i, q_K_v, q_b0, q_bn, q_b1, z0, z1, q_bz, true_and, and_true, if_true, if_false, not_true_eq_false, not_false_eq_true, true_or, or_true, qsE_0, qsE_1, qsE_2, qsE_3, qsE_4, qsE_5, qsE_6, qsE_7, qsE_8, qsi_1, qsr_1, qsi_2, qsr_2, qsi_3, qsr_3, qsi_4, qsr_4, qsi_5, qsr_5, qsi_6, qsr_6, qsi_7, qsr_7, qsi_8, qsr_8, qsl_2, qsl_3, qsl_4, qsl_5, qsl_6, qsl_7, qsl_8, tc_0, tc_1, tc_2, tc_3, tc_4, tc_5, tc_6, tc_7, tc_8, tc_9, tc_10, tc_11, tc_12, tc_13, tc_14, tc_15, tc_16, tc_17, tc_18, tc_19, tc_20, tc_21, tc_22, tc_23, tc_24, tc_25, tc_26, tc_27, tc_28, tc_29, tc_30, tc_31, tc_32, tc_33, tc_34, tc_35, tc_36, tc_37, tc_38, tc_39, tc_40, tc_41, tc_42, tc_43, tc_44, tc_45, tc_46, tc_47, tc_48, tc_49, tc_50, tc_51, tc_52, tc_53, tc_54, tc_55, tc_56, tc_57, tc_58, tc_59, tc_60, tc_61, vq_0_48, vq_1_48, vq_2_48, vq_3_48, vq_4_48, vq_5_48, vq_6_48, vq_7_48, vq_8_48, vq_9_48, vq_10_48, vq_11_48, vq_12_48, vq_13_48, vq_14_48, vq_15_48, vq_16_48, vq_17_48, vq_18_48, vq_19_48, vq_20_48, vq_21_48, vq_22_48, vq_23_48, vq_24_48, vq_25_48, vq_26_48, vq_27_48, vq_28_48, vq_29_48, vq_30_48, vq_31_48, vq_32_48, vq_33_48, vq_34_48, vq_35_48, vq_36_48, vq_37_48, vq_38_48, vq_39_48, vq_40_48, vq_41_48, vq_42_48, vq_43_48, vq_44_48, vq_45_48, vq_46_48, vq_47_48, mpF_11, mpF_u11, s_bAt hb h4 (show t ≤ 400 by omega), htn, c1, nI_1]
      exact ih
    · by_cases c2 : B 195 t = 10
      · rw [show runTo (fun k => isW (B 195 k)) (r + 1) t = runTo (fun k => isW (B 195 k)) r (t + 1) from if_pos (Or.inr c2)]
        have d1 : ¬ (10 : Int32) = 32 := by decide
        simp only [e_119_1, e_119_2, e_119_5, e_119_8, e_119_10, e_119_13, e_119_14, e_119_15, e_119_18, e_119_21, e_119_23, e_119_26, e_119_27, e_119_27r, e_119_28, e_119_31, e_119_32, e_119_33, e_119_36, e_119_40, e_119_41, e_119_44, e_119_47, e_119_48, e_119_49, e_119_52, e_119_55, e_119_56, e_119_57, e_119_60, e_119_61, e_119_62, e_119_65, e_119_68, e_119_69, e_119_71, e_119_73, e_119_76, e_119_79, e_119_80, e_119_81, e_119_84, e_119_85, e_119_86, e_119_89, e_119_90, e_119_91, e_119_94, e_119_97, e_119_99, e_119_101, e_119_104, e_119_107, e_119_108, e_119_109, e_119_112, e_119_113, e_119_116, e_119_117, e_119_119, e_119_122, e_119_123, e_119_126, e_119_128, e_119_129, e_119_130, e_119_131, e_119_134, e_119_137, e_119_138, e_119_139, e_119_142, e_119_143, e_119_146, e_119_147, e_119_147r, e_119_148, e_119_151, e_119_152, e_119_153, e_119_156, e_119_159, e_119_160, e_119_162, e_119_164, e_119_167, e_119_170, e_119_171, e_119_172, e_119_175, e_119_176, e_119_177, e_119_180, e_119_183, e_119_185, e_119_187, e_119_190, e_119_193, e_119_194, e_119_195, e_119_198, e_119_199, e_119_202, e_119_203, e_119_204, e_119_207, e_119_209, e_119_210, e_119_213, e_119_214, e_119_215, e_119_216, e_119_219, e_119_222, e_119_223, e_119_225, e_119_226, e_119_229, e_119_230, e_119_233, e_119_236, e_119_237, e_119_237r, e_119_238, e_119_241, e_119_242, e_119_243, e_119_246, e_119_249, e_119_250, e_119_251, e_119_254, e_119_255, e_119_258, e_119_259, e_119_260, e_119_263, e_119_264, e_119_267, e_119_268, e_119_271, e_119_274, e_119_275, e_119_276, e_119_278, e_119_281, e_119_282, e_119_285, e_119_286, e_119_289, e_119_290, e_119_290r, e_119_291, e_119_294, e_119_295, e_119_296, e_119_299, kd_187, kd_188, kd_189, kd_190, kd_191, kd_192, kd_193, kd_194, kd_195, kd_196, kd_197, kd_198, ln_188, ln_189, ln_190, ln_191, ln_192, ln_193, ln_194, ln_195, ln_196, ln_197, ln_198, nz0, nz1, nzb, cmp0, cmpP, nl_n, nl_i, nl_r, nl_l, nl_nl, Nat.reduceAdd, Nat.reduceMul, Int32.reduceAdd, Int32.reduceSub, Int32.reduceMul, Int32.reduceLE, Int32.reduceLT, q_K_i, q_K_v, q_b0, q_bn, q_b1, z0, z1, q_bz, true_and, and_true, if_true, if_false, not_true_eq_false, not_false_eq_true, true_or, or_true, qsE_0, qsE_1, qsE_2, qsE_3, qsE_4, qsE_5, qsE_6, qsE_7, qsE_8, qsi_1, qsr_1, qsi_2, qsr_2, qsi_3, qsr_3, qsi_4, qsr_4, qsi_5, qsr_5, qsi_6, qsr_6, qsi_7, qsr_7, qsi_8, qsr_8, qsl_2, qsl_3, qsl_4, qsl_5, qsl_6, qsl_7, qsl_8, tc_0, tc_1, tc_2, tc_3, tc_4, tc_5, tc_6, tc_7, tc_8, tc_9, tc_10, tc_11, tc_12, tc_13, tc_14, tc_15, tc_16, tc_17, tc_18, tc_19, tc_20, tc_21, tc_22, tc_23, tc_24, tc_25, tc_26, tc_27, tc_28, tc_29, tc_30, tc_31, tc_32, tc_33, tc_34, tc_35, tc_36, tc_37, tc_38, tc_39, tc_40, tc_41, tc_42, tc_43, tc_44, tc_45, tc_46, tc_47, tc_48, tc_49, tc_50, tc_51, tc_52, tc_53, tc_54, tc_55, tc_56, tc_57, tc_58, tc_59, tc_60, tc_61, vq_0_48, vq_1_48, vq_2_48, vq_3_48, vq_4_48, vq_5_48, vq_6_48, vq_7_48, vq_8_48, vq_9_48, vq_10_48, vq_11_48, vq_12_48, vq_13_48, vq_14_48, vq_15_48, vq_16_48, vq_17_48, vq_18_48, vq_19_48, vq_20_48, vq_21_48, vq_22_48, vq_23_48, vq_24_48, vq_25_48, vq_26_48, vq_27_48, vq_28_48, vq_29_48, vq_30_48, vq_31_48, vq_32_48, vq_33_48, vq_34_48, vq_35_48, vq_36_48, vq_37_48, vq_38_48, vq_39_48, vq_40_48, vq_41_48, vq_42_48, vq_43_48, vq_44_48, vq_45_48, vq_46_48, vq_47_48, mpF_11, mpF_u11, s_bAt hb h4 (show t ≤ 400 by omega), htn, c2, d1, nI_1]
        exact ih
      · rw [show runTo (fun k => isW (B 195 k)) (r + 1) t = t from if_neg (fun z => z.elim c1 c2)]
        simp only [e_119_1, e_119_2, e_119_5, e_119_8, e_119_10, e_119_13, e_119_14, e_119_15, e_119_18, e_119_21, e_119_23, e_119_26, e_119_27, e_119_27r, e_119_28, e_119_31, e_119_32, e_119_33, e_119_36, e_119_40, e_119_41, e_119_44, e_119_47, e_119_48, e_119_49, e_119_52, e_119_55, e_119_56, e_119_57, e_119_60, e_119_61, e_119_62, e_119_65, e_119_68, e_119_69, e_119_71, e_119_73, e_119_76, e_119_79, e_119_80, e_119_81, e_119_84, e_119_85, e_119_86, e_119_89, e_119_90, e_119_91, e_119_94, e_119_97, e_119_99, e_119_101, e_119_104, e_119_107, e_119_108, e_119_109, e_119_112, e_119_113, e_119_116, e_119_117, e_119_119, e_119_122, e_119_123, e_119_126, e_119_128, e_119_129, e_119_130, e_119_131, e_119_134, e_119_137, e_119_138, e_119_139, e_119_142, e_119_143, e_119_146, e_119_147, e_119_147r, e_119_148, e_119_151, e_119_152, e_119_153, e_119_156, e_119_159, e_119_160, e_119_162, e_119_164, e_119_167, e_119_170, e_119_171, e_119_172, e_119_175, e_119_176, e_119_177, e_119_180, e_119_183, e_119_185, e_119_187, e_119_190, e_119_193, e_119_194, e_119_195, e_119_198, e_119_199, e_119_202, e_119_203, e_119_204, e_119_207, e_119_209, e_119_210, e_119_213, e_119_214, e_119_215, e_119_216, e_119_219, e_119_222, e_119_223, e_119_225, e_119_226, e_119_229, e_119_230, e_119_233, e_119_236, e_119_237, e_119_237r, e_119_238, e_119_241, e_119_242, e_119_243, e_119_246, e_119_249, e_119_250, e_119_251, e_119_254, e_119_255, e_119_258, e_119_259, e_119_260, e_119_263, e_119_264, e_119_267, e_119_268, e_119_271, e_119_274, e_119_275, e_119_276, e_119_278, e_119_281, e_119_282, e_119_285, e_119_286, e_119_289, e_119_290, e_119_290r, e_119_291, e_119_294, e_119_295, e_119_296, e_119_299, kd_187, kd_188, kd_189, kd_190, kd_191, kd_192, kd_193, kd_194, kd_195, kd_196, kd_197, kd_198, ln_188, ln_189, ln_190, ln_191, ln_192, ln_193, ln_194, ln_195, ln_196, ln_197, ln_198, nz0, nz1, nzb, cmp0, cmpP, nl_n, nl_i, nl_r, nl_l, nl_nl, Nat.reduceAdd, Nat.reduceMul, Int32.reduceAdd, Int32.reduceSub, Int32.reduceMul, Int32.reduceLE, Int32.reduceLT, q_K_i, q_K_v, q_b0, q_bn, q_b1, z0, z1, q_bz, true_and, and_true, if_true, if_false, not_true_eq_false, not_false_eq_true, true_or, or_true, qsE_0, qsE_1, qsE_2, qsE_3, qsE_4, qsE_5, qsE_6, qsE_7, qsE_8, qsi_1, qsr_1, qsi_2, qsr_2, qsi_3, qsr_3, qsi_4, qsr_4, qsi_5, qsr_5, qsi_6, qsr_6, qsi_7, qsr_7, qsi_8, qsr_8, qsl_2, qsl_3, qsl_4, qsl_5, qsl_6, qsl_7, qsl_8, tc_0, tc_1, tc_2, tc_3, tc_4, tc_5, tc_6, tc_7, tc_8, tc_9, tc_10, tc_11, tc_12, tc_13, tc_14, tc_15, tc_16, tc_17, tc_18, tc_19, tc_20, tc_21, tc_22, tc_23, tc_24, tc_25, tc_26, tc_27, tc_28, tc_29, tc_30, tc_31, tc_32, tc_33, tc_34, tc_35, tc_36, tc_37, tc_38, tc_39, tc_40, tc_41, tc_42, tc_43, tc_44, tc_45, tc_46, tc_47, tc_48, tc_49, tc_50, tc_51, tc_52, tc_53, tc_54, tc_55, tc_56, tc_57, tc_58, tc_59, tc_60, tc_61, vq_0_48, vq_1_48, vq_2_48, vq_3_48, vq_4_48, vq_5_48, vq_6_48, vq_7_48, vq_8_48, vq_9_48, vq_10_48, vq_11_48, vq_12_48, vq_13_48, vq_14_48, vq_15_48, vq_16_48, vq_17_48, vq_18_48, vq_19_48, vq_20_48, vq_21_48, vq_22_48, vq_23_48, vq_24_48, vq_25_48, vq_26_48, vq_27_48, vq_28_48, vq_29_48, vq_30_48, vq_31_48, vq_32_48, vq_33_48, vq_34_48, vq_35_48, vq_36_48, vq_37_48, vq_38_48, vq_39_48, vq_40_48, vq_41_48, vq_42_48, vq_43_48, vq_44_48, vq_45_48, vq_46_48, vq_47_48, mpF_11, s_bAt hb h4 (show t ≤ 400 by omega), htn, c1, c2]
theorem l_mnum {st tok : Int32} {y : Option Value} {n : Nat} (hn : F 187 10 = nI n) (h4 : n ≤ 400) : ∀ (r t : Nat), t + r = n → ∀ v : Int32, (E 199 S (d + 1) 119 175 [some (.ref (187 : Nat)), y] [] (hp SL xs (mpF F (nI t) st tok v) B C) P ↔ E 199 S (d + 1) 119 249 [some (.ref (187 : Nat)), y] [] (hp SL xs (mpF F (nI (runTo (fun k => isD (B 195 k)) r t)) st tok (mnumOf (B 195) st r t v)) B C) P)
  | 0, t, ht, v => by
    have e : t = n := by omega
    subst e
    have hb : mpF F (nI t) st tok v 187 10 = nI t := mpF_10.trans hn
    have m1 : ¬ ((48 : Int32) ≤ -1 ∧ (-1 : Int32) ≤ 57) := by decide
    rw [e_119_175]
    simp only [e_119_0, e_119_1, e_119_2, e_119_5, e_119_8, e_119_10, e_119_13, e_119_14, e_119_15, e_119_18, e_119_21, e_119_23, e_119_26, e_119_27, e_119_27r, e_119_28, e_119_31, e_119_32, e_119_33, e_119_36, e_119_39, e_119_40, e_119_41, e_119_44, e_119_47, e_119_48, e_119_49, e_119_52, e_119_55, e_119_56, e_119_57, e_119_60, e_119_61, e_119_62, e_119_65, e_119_68, e_119_69, e_119_71, e_119_73, e_119_76, e_119_79, e_119_80, e_119_81, e_119_84, e_119_85, e_119_86, e_119_89, e_119_90, e_119_91, e_119_94, e_119_97, e_119_99, e_119_101, e_119_104, e_119_107, e_119_108, e_119_109, e_119_112, e_119_113, e_119_116, e_119_117, e_119_119, e_119_122, e_119_123, e_119_126, e_119_128, e_119_129, e_119_130, e_119_131, e_119_134, e_119_137, e_119_138, e_119_139, e_119_142, e_119_143, e_119_146, e_119_147, e_119_147r, e_119_148, e_119_151, e_119_152, e_119_153, e_119_156, e_119_159, e_119_160, e_119_162, e_119_164, e_119_167, e_119_170, e_119_171, e_119_172, e_119_176, e_119_177, e_119_180, e_119_183, e_119_185, e_119_187, e_119_190, e_119_193, e_119_194, e_119_195, e_119_198, e_119_199, e_119_202, e_119_203, e_119_204, e_119_207, e_119_209, e_119_210, e_119_213, e_119_214, e_119_215, e_119_216, e_119_219, e_119_222, e_119_223, e_119_225, e_119_226, e_119_229, e_119_230, e_119_233, e_119_236, e_119_237, e_119_237r, e_119_238, e_119_241, e_119_242, e_119_243, e_119_246, e_119_250, e_119_251, e_119_254, e_119_255, e_119_258, e_119_259, e_119_260, e_119_263, e_119_264, e_119_267, e_119_268, e_119_271, e_119_274, e_119_275, e_119_276, e_119_278, e_119_281, e_119_282, e_119_285, e_119_286, e_119_289, e_119_290, e_119_290r, e_119_291, e_119_294, e_119_295, e_119_296, e_119_299, kd_187, kd_188, kd_189, kd_190, kd_191, kd_192, kd_193, kd_194, kd_195, kd_196, kd_197, kd_198, ln_188, ln_189, ln_190, ln_191, ln_192, ln_193, ln_194, ln_195, ln_196, ln_197, ln_198, nz0, nz1, nzb, cmp0, cmpP, nl_n, nl_i, nl_r, nl_l, nl_nl, Nat.reduceAdd, Nat.reduceMul, Int32.reduceAdd, Int32.reduceSub, Int32.reduceMul, Int32.reduceLE, Int32.reduceLT, q_K_i, q_K_v, q_b0, q_bn, q_b1, z0, z1, q_bz, true_and, and_true, if_true, if_false, not_true_eq_false, not_false_eq_true, true_or, or_true, qsE_0, qsE_1, qsE_2, qsE_3, qsE_4, qsE_5, qsE_6, qsE_7, qsE_8, qsi_1, qsr_1, qsi_2, qsr_2, qsi_3, qsr_3, qsi_4, qsr_4, qsi_5, qsr_5, qsi_6, qsr_6, qsi_7, qsr_7, qsi_8, qsr_8, qsl_2, qsl_3, qsl_4, qsl_5, qsl_6, qsl_7, qsl_8, tc_0, tc_1, tc_2, tc_3, tc_4, tc_5, tc_6, tc_7, tc_8, tc_9, tc_10, tc_11, tc_12, tc_13, tc_14, tc_15, tc_16, tc_17, tc_18, tc_19, tc_20, tc_21, tc_22, tc_23, tc_24, tc_25, tc_26, tc_27, tc_28, tc_29, tc_30, tc_31, tc_32, tc_33, tc_34, tc_35, tc_36, tc_37, tc_38, tc_39, tc_40, tc_41, tc_42, tc_43, tc_44, tc_45, tc_46, tc_47, tc_48, tc_49, tc_50, tc_51, tc_52, tc_53, tc_54, tc_55, tc_56, tc_57, tc_58, tc_59, tc_60, tc_61, vq_0_48, vq_1_48, vq_2_48, vq_3_48, vq_4_48, vq_5_48, vq_6_48, vq_7_48, vq_8_48, vq_9_48, vq_10_48, vq_11_48, vq_12_48, vq_13_48, vq_14_48, vq_15_48, vq_16_48, vq_17_48, vq_18_48, vq_19_48, vq_20_48, vq_21_48, vq_22_48, vq_23_48, vq_24_48, vq_25_48, vq_26_48, vq_27_48, vq_28_48, vq_29_48, vq_30_48, vq_31_48, vq_32_48, vq_33_48, vq_34_48, vq_35_48, vq_36_48, vq_37_48, vq_38_48, vq_39_48, vq_40_48, vq_41_48, vq_42_48, vq_43_48, vq_44_48, vq_45_48, vq_46_48, vq_47_48, mpF_11, s_bAt hb h4 (show t ≤ 400 by omega), Nat.lt_irrefl, s_in, m1, runTo, mnumOf]
    try simp
  | r + 1, t, ht, v => by
    have hb : mpF F (nI t) st tok v 187 10 = nI n := mpF_10.trans hn
    have htn : t < n := by omega
    rw [e_119_175]
    by_cases c : isD (B 195 t)
    · rw [show runTo (fun k => isD (B 195 k)) (r + 1) t = runTo (fun k => isD (B 195 k)) r (t + 1) from if_pos c, show mnumOf (B 195) st (r + 1) t v = mnumOf (B 195) st r (t + 1) (if 3 ≤ nI t - st then v else 10 * v + B 195 t - 48) from if_pos c]
      by_cases c3 : 3 ≤ nI t - st
      · have ih := l_mnum (st := st) (tok := tok) (y := y) hn h4 r (t + 1) (by omega) v
        rw [if_pos c3]
        simp only [e_119_0, e_119_1, e_119_2, e_119_5, e_119_8, e_119_10, e_119_13, e_119_14, e_119_15, e_119_18, e_119_21, e_119_23, e_119_26, e_119_27, e_119_27r, e_119_28, e_119_31, e_119_32, e_119_33, e_119_36, e_119_39, e_119_40, e_119_41, e_119_44, e_119_47, e_119_48, e_119_49, e_119_52, e_119_55, e_119_56, e_119_57, e_119_60, e_119_61, e_119_62, e_119_65, e_119_68, e_119_69, e_119_71, e_119_73, e_119_76, e_119_79, e_119_80, e_119_81, e_119_84, e_119_85, e_119_86, e_119_89, e_119_90, e_119_91, e_119_94, e_119_97, e_119_99, e_119_101, e_119_104, e_119_107, e_119_108, e_119_109, e_119_112, e_119_113, e_119_116, e_119_117, e_119_119, e_119_122, e_119_123, e_119_126, e_119_128, e_119_129, e_119_130, e_119_131, e_119_134, e_119_137, e_119_138, e_119_139, e_119_142, e_119_143, e_119_146, e_119_147, e_119_147r, e_119_148, e_119_151, e_119_152, e_119_153, e_119_156, e_119_159, e_119_160, e_119_162, e_119_164, e_119_167, e_119_170, e_119_171, e_119_172, e_119_176, e_119_177, e_119_180, e_119_183, e_119_185, e_119_187, e_119_190, e_119_193, e_119_194, e_119_195, e_119_198, e_119_199, e_119_202, e_119_203, e_119_204, e_119_207, e_119_209, e_119_210, e_119_213, e_119_214, e_119_215, e_119_216, e_119_219, e_119_222, e_119_223, e_119_225, e_119_226, e_119_229, e_119_230, e_119_233, e_119_236, e_119_237, e_119_237r, e_119_238, e_119_241, e_119_242, e_119_243, e_119_246, e_119_250, e_119_251, e_119_254, e_119_255, e_119_258, e_119_259, e_119_260, e_119_263, e_119_264, e_119_267, e_119_268, e_119_271, e_119_274, e_119_275, e_119_276, e_119_278, e_119_281, e_119_282, e_119_285, e_119_286, e_119_289, e_119_290, e_119_290r, e_119_291, e_119_294, e_119_295, e_119_296, e_119_299, kd_187, kd_188, kd_189, kd_190, kd_191, kd_192, kd_193, kd_194, kd_195, kd_196, kd_197, kd_198, ln_188, ln_189, ln_190, ln_191, ln_192, ln_193, ln_194, ln_195, ln_196, ln_197, ln_198, nz0, nz1, nzb, cmp0, cmpP, nl_n, nl_i, nl_r, nl_l, nl_nl, Nat.reduceAdd, Nat.reduceMul, Int32.reduceAdd, Int32.reduceSub, Int32.reduceMul, Int32.reduceLE, Int32.reduceLT, q_K_i, q_K_v, q_b0, q_bn, q_b1, z0, z1, q_bz, true_and, and_true, if_true, if_false, not_true_eq_false, not_false_eq_true, true_or, or_true, qsE_0, qsE_1, qsE_2, qsE_3, qsE_4, qsE_5, qsE_6, qsE_7, qsE_8, qsi_1, qsr_1, qsi_2, qsr_2, qsi_3, qsr_3, qsi_4, qsr_4, qsi_5, qsr_5, qsi_6, qsr_6, qsi_7, qsr_7, qsi_8, qsr_8, qsl_2, qsl_3, qsl_4, qsl_5, qsl_6, qsl_7, qsl_8, tc_0, tc_1, tc_2, tc_3, tc_4, tc_5, tc_6, tc_7, tc_8, tc_9, tc_10, tc_11, tc_12, tc_13, tc_14, tc_15, tc_16, tc_17, tc_18, tc_19, tc_20, tc_21, tc_22, tc_23, tc_24, tc_25, tc_26, tc_27, tc_28, tc_29, tc_30, tc_31, tc_32, tc_33, tc_34, tc_35, tc_36, tc_37, tc_38, tc_39, tc_40, tc_41, tc_42, tc_43, tc_44, tc_45, tc_46, tc_47, tc_48, tc_49, tc_50, tc_51, tc_52, tc_53, tc_54, tc_55, tc_56, tc_57, tc_58, tc_59, tc_60, tc_61, vq_0_48, vq_1_48, vq_2_48, vq_3_48, vq_4_48, vq_5_48, vq_6_48, vq_7_48, vq_8_48, vq_9_48, vq_10_48, vq_11_48, vq_12_48, vq_13_48, vq_14_48, vq_15_48, vq_16_48, vq_17_48, vq_18_48, vq_19_48, vq_20_48, vq_21_48, vq_22_48, vq_23_48, vq_24_48, vq_25_48, vq_26_48, vq_27_48, vq_28_48, vq_29_48, vq_30_48, vq_31_48, vq_32_48, vq_33_48, vq_34_48, vq_35_48, vq_36_48, vq_37_48, vq_38_48, vq_39_48, vq_40_48, vq_41_48, vq_42_48, vq_43_48, vq_44_48, vq_45_48, vq_46_48, vq_47_48, mpF_11, mpF_12, mpF_14, mpF_u11, mpF_u14, s_bAt hb h4 (show t ≤ 400 by omega), htn, s_in, c3, nI_1]
        rw [if_neg (not_not_intro c)]
        exact ih
      · have ih := l_mnum (st := st) (tok := tok) (y := y) hn h4 r (t + 1) (by omega) (10 * v + B 195 t - 48)
        rw [if_neg c3]
        simp only [e_119_0, e_119_1, e_119_2, e_119_5, e_119_8, e_119_10, e_119_13, e_119_14, e_119_15, e_119_18, e_119_21, e_119_23, e_119_26, e_119_27, e_119_27r, e_119_28, e_119_31, e_119_32, e_119_33, e_119_36, e_119_39, e_119_40, e_119_41, e_119_44, e_119_47, e_119_48, e_119_49, e_119_52, e_119_55, e_119_56, e_119_57, e_119_60, e_119_61, e_119_62, e_119_65, e_119_68, e_119_69, e_119_71, e_119_73, e_119_76, e_119_79, e_119_80, e_119_81, e_119_84, e_119_85, e_119_86, e_119_89, e_119_90, e_119_91, e_119_94, e_119_97, e_119_99, e_119_101, e_119_104, e_119_107, e_119_108, e_119_109, e_119_112, e_119_113, e_119_116, e_119_117, e_119_119, e_119_122, e_119_123, e_119_126, e_119_128, e_119_129, e_119_130, e_119_131, e_119_134, e_119_137, e_119_138, e_119_139, e_119_142, e_119_143, e_119_146, e_119_147, e_119_147r, e_119_148, e_119_151, e_119_152, e_119_153, e_119_156, e_119_159, e_119_160, e_119_162, e_119_164, e_119_167, e_119_170, e_119_171, e_119_172, e_119_176, e_119_177, e_119_180, e_119_183, e_119_185, e_119_187, e_119_190, e_119_193, e_119_194, e_119_195, e_119_198, e_119_199, e_119_202, e_119_203, e_119_204, e_119_207, e_119_209, e_119_210, e_119_213, e_119_214, e_119_215, e_119_216, e_119_219, e_119_222, e_119_223, e_119_225, e_119_226, e_119_229, e_119_230, e_119_233, e_119_236, e_119_237, e_119_237r, e_119_238, e_119_241, e_119_242, e_119_243, e_119_246, e_119_250, e_119_251, e_119_254, e_119_255, e_119_258, e_119_259, e_119_260, e_119_263, e_119_264, e_119_267, e_119_268, e_119_271, e_119_274, e_119_275, e_119_276, e_119_278, e_119_281, e_119_282, e_119_285, e_119_286, e_119_289, e_119_290, e_119_290r, e_119_291, e_119_294, e_119_295, e_119_296, e_119_299, kd_187, kd_188, kd_189, kd_190, kd_191, kd_192, kd_193, kd_194, kd_195, kd_196, kd_197, kd_198, ln_188, ln_189, ln_190, ln_191, ln_192, ln_193, ln_194, ln_195, ln_196, ln_197, ln_198, nz0, nz1, nzb, cmp0, cmpP, nl_n, nl_i, nl_r, nl_l, nl_nl, Nat.reduceAdd, Nat.reduceMul, Int32.reduceAdd, Int32.reduceSub, Int32.reduceMul, Int32.reduceLE, Int32.reduceLT, q_K_i, q_K_v, q_b0, q_bn, q_b1, z0, z1, q_bz, true_and, and_true, if_true, if_false, not_true_eq_false, not_false_eq_true, true_or, or_true, qsE_0, qsE_1, qsE_2, qsE_3, qsE_4, qsE_5, qsE_6, qsE_7, qsE_8, qsi_1, qsr_1, qsi_2, qsr_2, qsi_3, qsr_3, qsi_4, qsr_4, qsi_5, qsr_5, qsi_6, qsr_6, qsi_7, qsr_7, qsi_8, qsr_8, qsl_2, qsl_3, qsl_4, qsl_5, qsl_6, qsl_7, qsl_8, tc_0, tc_1, tc_2, tc_3, tc_4, tc_5, tc_6, tc_7, tc_8, tc_9, tc_10, tc_11, tc_12, tc_13, tc_14, tc_15, tc_16, tc_17, tc_18, tc_19, tc_20, tc_21, tc_22, tc_23, tc_24, tc_25, tc_26, tc_27, tc_28, tc_29, tc_30, tc_31, tc_32, tc_33, tc_34, tc_35, tc_36, tc_37, tc_38, tc_39, tc_40, tc_41, tc_42, tc_43, tc_44, tc_45, tc_46, tc_47, tc_48, tc_49, tc_50, tc_51, tc_52, tc_53, tc_54, tc_55, tc_56, tc_57, tc_58, tc_59, tc_60, tc_61, vq_0_48, vq_1_48, vq_2_48, vq_3_48, vq_4_48, vq_5_48, vq_6_48, vq_7_48, vq_8_48, vq_9_48, vq_10_48, vq_11_48, vq_12_48, vq_13_48, vq_14_48, vq_15_48, vq_16_48, vq_17_48, vq_18_48, vq_19_48, vq_20_48, vq_21_48, vq_22_48, vq_23_48, vq_24_48, vq_25_48, vq_26_48, vq_27_48, vq_28_48, vq_29_48, vq_30_48, vq_31_48, vq_32_48, vq_33_48, vq_34_48, vq_35_48, vq_36_48, vq_37_48, vq_38_48, vq_39_48, vq_40_48, vq_41_48, vq_42_48, vq_43_48, vq_44_48, vq_45_48, vq_46_48, vq_47_48, mpF_11, mpF_12, mpF_14, mpF_u11, mpF_u14, s_bAt hb h4 (show t ≤ 400 by omega), htn, s_in, c3, nI_1]
        rw [if_neg (not_not_intro c)]
        exact ih
    · rw [show runTo (fun k => isD (B 195 k)) (r + 1) t = t from if_neg c, show mnumOf (B 195) st (r + 1) t v = v from if_neg c]
      simp only [e_119_0, e_119_1, e_119_2, e_119_5, e_119_8, e_119_10, e_119_13, e_119_14, e_119_15, e_119_18, e_119_21, e_119_23, e_119_26, e_119_27, e_119_27r, e_119_28, e_119_31, e_119_32, e_119_33, e_119_36, e_119_39, e_119_40, e_119_41, e_119_44, e_119_47, e_119_48, e_119_49, e_119_52, e_119_55, e_119_56, e_119_57, e_119_60, e_119_61, e_119_62, e_119_65, e_119_68, e_119_69, e_119_71, e_119_73, e_119_76, e_119_79, e_119_80, e_119_81, e_119_84, e_119_85, e_119_86, e_119_89, e_119_90, e_119_91, e_119_94, e_119_97, e_119_99, e_119_101, e_119_104, e_119_107, e_119_108, e_119_109, e_119_112, e_119_113, e_119_116, e_119_117, e_119_119, e_119_122, e_119_123, e_119_126, e_119_128, e_119_129, e_119_130, e_119_131, e_119_134, e_119_137, e_119_138, e_119_139, e_119_142, e_119_143, e_119_146, e_119_147, e_119_147r, e_119_148, e_119_151, e_119_152, e_119_153, e_119_156, e_119_159, e_119_160, e_119_162, e_119_164, e_119_167, e_119_170, e_119_171, e_119_172, e_119_176, e_119_177, e_119_180, e_119_183, e_119_185, e_119_187, e_119_190, e_119_193, e_119_194, e_119_195, e_119_198, e_119_199, e_119_202, e_119_203, e_119_204, e_119_207, e_119_209, e_119_210, e_119_213, e_119_214, e_119_215, e_119_216, e_119_219, e_119_222, e_119_223, e_119_225, e_119_226, e_119_229, e_119_230, e_119_233, e_119_236, e_119_237, e_119_237r, e_119_238, e_119_241, e_119_242, e_119_243, e_119_246, e_119_250, e_119_251, e_119_254, e_119_255, e_119_258, e_119_259, e_119_260, e_119_263, e_119_264, e_119_267, e_119_268, e_119_271, e_119_274, e_119_275, e_119_276, e_119_278, e_119_281, e_119_282, e_119_285, e_119_286, e_119_289, e_119_290, e_119_290r, e_119_291, e_119_294, e_119_295, e_119_296, e_119_299, kd_187, kd_188, kd_189, kd_190, kd_191, kd_192, kd_193, kd_194, kd_195, kd_196, kd_197, kd_198, ln_188, ln_189, ln_190, ln_191, ln_192, ln_193, ln_194, ln_195, ln_196, ln_197, ln_198, nz0, nz1, nzb, cmp0, cmpP, nl_n, nl_i, nl_r, nl_l, nl_nl, Nat.reduceAdd, Nat.reduceMul, Int32.reduceAdd, Int32.reduceSub, Int32.reduceMul, Int32.reduceLE, Int32.reduceLT, q_K_i, q_K_v, q_b0, q_bn, q_b1, z0, z1, q_bz, true_and, and_true, if_true, if_false, not_true_eq_false, not_false_eq_true, true_or, or_true, qsE_0, qsE_1, qsE_2, qsE_3, qsE_4, qsE_5, qsE_6, qsE_7, qsE_8, qsi_1, qsr_1, qsi_2, qsr_2, qsi_3, qsr_3, qsi_4, qsr_4, qsi_5, qsr_5, qsi_6, qsr_6, qsi_7, qsr_7, qsi_8, qsr_8, qsl_2, qsl_3, qsl_4, qsl_5, qsl_6, qsl_7, qsl_8, tc_0, tc_1, tc_2, tc_3, tc_4, tc_5, tc_6, tc_7, tc_8, tc_9, tc_10, tc_11, tc_12, tc_13, tc_14, tc_15, tc_16, tc_17, tc_18, tc_19, tc_20, tc_21, tc_22, tc_23, tc_24, tc_25, tc_26, tc_27, tc_28, tc_29, tc_30, tc_31, tc_32, tc_33, tc_34, tc_35, tc_36, tc_37, tc_38, tc_39, tc_40, tc_41, tc_42, tc_43, tc_44, tc_45, tc_46, tc_47, tc_48, tc_49, tc_50, tc_51, tc_52, tc_53, tc_54, tc_55, tc_56, tc_57, tc_58, tc_59, tc_60, tc_61, vq_0_48, vq_1_48, vq_2_48, vq_3_48, vq_4_48, vq_5_48, vq_6_48, vq_7_48, vq_8_48, vq_9_48, vq_10_48, vq_11_48, vq_12_48, vq_13_48, vq_14_48, vq_15_48, vq_16_48, vq_17_48, vq_18_48, vq_19_48, vq_20_48, vq_21_48, vq_22_48, vq_23_48, vq_24_48, vq_25_48, vq_26_48, vq_27_48, vq_28_48, vq_29_48, vq_30_48, vq_31_48, vq_32_48, vq_33_48, vq_34_48, vq_35_48, vq_36_48, vq_37_48, vq_38_48, vq_39_48, vq_40_48, vq_41_48, vq_42_48, vq_43_48, vq_44_48, vq_45_48, vq_46_48, vq_47_48, mpF_11, s_bAt hb h4 (show t ≤ 400 by omega), htn, s_in]
      rw [if_pos c]
end SX
