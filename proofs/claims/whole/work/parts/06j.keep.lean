/-! METHODS: keep, takeBack; block copies of the model; images -/
theorem stF_ne {F : q_FT} {a b c k : Nat} (h : ¬ c = a) : stF F a b c k = F c k := by
  unfold stF
  rw [fc_ne (fun z => h z.1), fc_ne (fun z => h z.1), fc_ne (fun z => h z.1)]
theorem rem24 {k : Nat} (h : k < 48) : nI k - nI k / 24 * 24 = nI (k % 24) := by
  have : ∀ k, k < 48 → nI k - nI k / 24 * 24 = nI (k % 24) := by decide
  exact this k h
/-- B, but n of array b, from m on, in array a from k on -/
def bc (B : q_FT) (b m a k n : Nat) : q_FT := fun c i => if c = a ∧ k ≤ i ∧ i < k + n then B b (m + (i - k)) else B c i
theorem bc_done {B : q_FT} {b m a k : Nat} : bc B b m a k 0 = B := by
  funext c i
  unfold bc
  rw [if_neg (by omega)]
theorem bc_step {B : q_FT} {b m a k n : Nat} (h : ¬ b = a ∨ k < m) : bc (u2 B a k (B b m)) b (m + 1) a (k + 1) n = bc B b m a k (n + 1) := by
  funext c i
  unfold bc u2
  by_cases h1 : c = a
  · by_cases h2 : i = k
    · rw [if_neg (by omega), if_pos ⟨h1, h2⟩, if_pos (by omega), h2, Nat.sub_self, Nat.add_zero]
    · by_cases h3 : k + 1 ≤ i ∧ i < k + 1 + n
      · rw [if_pos ⟨h1, h3⟩, if_neg (by omega), if_pos (by omega)]
        congr 1
        omega
      · rw [if_neg (fun z => h3 z.2), if_neg (fun z => h2 z.2), if_neg (by omega)]
  · rw [if_neg (fun z => h1 z.1), if_neg (fun z => h1 z.1), if_neg (fun z => h1 z.1)]
theorem bc_ne {B : q_FT} {b m a k n c i : Nat} (h : ¬ c = a) : bc B b m a k n c i = B c i := by
  unfold bc
  rw [if_neg (fun z => h z.1)]
section SJ
variable {S d : Nat} {P : Option Value → q_H → Nat → Nat → Prop} {SL : Nat} {xs : Nat → Int32} {F B : q_FT} {C : q_CT}
theorem ne24 : ¬ (24 : Int32) = 0 := by decide
theorem s_keep {k c : Nat} (hk : k < 24) (hc : c ≤ 24) (h1 : F 37 2 = nI k) (h2 : F 37 1 = nI c) : E 199 S (d + 1) 1 0 [some (.ref (37 : Nat)), some (.ref (32 : Nat))] [] (hp SL xs F B C) P ↔
    P none (hp SL xs (u2 (u2 (stF F (39 + 5 * k) 32) 37 2 (nI ((k + 1) % 24))) 37 1 (nI (if c < 24 then c + 1 else 24))) (stB B (39 + 5 * k) 32) C) 199 S := by
  have g1 : vp_in (nI k) 24 := vp_in_nI hk (by omega)
  have g2 : (nI k).toNatClampNeg = k := nI_clamp (by omega)
  have f1 : ∀ j, stF F (39 + 5 * k) 32 37 j = F 37 j := fun j => stF_ne (by omega)
  have f2 : ∀ x, u2 (stF F (39 + 5 * k) 32) 37 2 x 37 1 = nI c := fun x => by
    unfold u2
    rw [if_neg (by omega), f1, h2]
  have f3 : ∀ x, u2 (stF F (39 + 5 * k) 32) 37 2 x 37 2 = x := fun x => by
    unfold u2
    rw [if_pos (by omega)]
  have k9 : q_kd (39 + 5 * k) = 5 := (isSt_kept hk).1
  have m : (if nI (c + 1) ≤ 24 then nI (c + 1) else (24 : Int32)) = nI (if c < 24 then c + 1 else 24) := by
    by_cases z : c < 24
    · rw [if_pos z]
      exact if_pos (show nI (c + 1) ≤ nI 24 from nI_le (by omega) (by omega))
    · have e : c = 24 := by omega
      subst e
      rfl
  simp only [e_1_0, e_1_1, e_1_4, e_1_5, e_1_8_14, e_1_9, e_1_10, e_1_13, e_1_14, e_1_15, e_1_18, e_1_19, e_1_20, e_1_22, e_1_23, e_1_26, e_1_27, e_1_28, e_1_31, e_1_32, e_1_33, e_1_35, e_1_38, e_1_41, kd_187, kd_188, kd_189, kd_190, kd_191, kd_192, kd_193, kd_194, kd_195, kd_196, kd_197, kd_198, ln_188, ln_189, ln_190, ln_191, ln_192, ln_193, ln_194, ln_195, ln_196, ln_197, ln_198, nz0, nz1, nzb, cmp0, cmpP, nl_n, nl_i, nl_r, nl_l, nl_nl, Nat.reduceAdd, Nat.reduceMul, Int32.reduceAdd, Int32.reduceSub, Int32.reduceMul, Int32.reduceLE, Int32.reduceLT, q_K_i, q_K_v, q_b0, q_bn, q_b1, z0, z1, q_bz, true_and, and_true, if_true, if_false, not_true_eq_false, not_false_eq_true, true_or, or_true, qsE_0, qsE_1, qsE_2, qsE_3, qsE_4, qsE_5, qsE_6, qsE_7, qsE_8, qsi_1, qsr_1, qsi_2, qsr_2, qsi_3, qsr_3, qsi_4, qsr_4, qsi_5, qsr_5, qsi_6, qsr_6, qsi_7, qsr_7, qsi_8, qsr_8, qsl_2, qsl_3, qsl_4, qsl_5, qsl_6, qsl_7, qsl_8, tc_0, tc_1, tc_2, tc_3, tc_4, tc_5, tc_6, tc_7, tc_8, tc_9, tc_10, tc_11, tc_12, tc_13, tc_14, tc_15, tc_16, tc_17, tc_18, tc_19, tc_20, tc_21, tc_22, tc_23, tc_24, tc_25, tc_26, tc_27, tc_28, tc_29, tc_30, tc_31, tc_32, tc_33, tc_34, tc_35, tc_36, tc_37, tc_38, tc_39, tc_40, tc_41, tc_42, tc_43, tc_44, tc_45, tc_46, tc_47, tc_48, tc_49, tc_50, tc_51, tc_52, tc_53, tc_54, tc_55, tc_56, tc_57, tc_58, tc_59, tc_60, tc_61, vq_0_48, vq_1_48, vq_2_48, vq_3_48, vq_4_48, vq_5_48, vq_6_48, vq_7_48, vq_8_48, vq_9_48, vq_10_48, vq_11_48, vq_12_48, vq_13_48, vq_14_48, vq_15_48, vq_16_48, vq_17_48, vq_18_48, vq_19_48, vq_20_48, vq_21_48, vq_22_48, vq_23_48, vq_24_48, vq_25_48, vq_26_48, vq_27_48, vq_28_48, vq_29_48, vq_30_48, vq_31_48, vq_32_48, vq_33_48, vq_34_48, vq_35_48, vq_36_48, vq_37_48, vq_38_48, vq_39_48, vq_40_48, vq_41_48, vq_42_48, vq_43_48, vq_44_48, vq_45_48, vq_46_48, vq_47_48, kd_0, kd_1, kd_2, kd_3, kd_4, kd_13, kd_14, kd_15, kd_16, kd_17, kd_18, kd_19, kd_20, kd_21, kd_22, kd_23, kd_24, kd_25, kd_26, kd_27, kd_28, kd_29, kd_30, kd_31, kd_32, kd_33, kd_34, kd_35, kd_36, kd_37, kd_38, kd_159, kd_182, kd_183, kd_184, kd_185, kd_186, ln_2, ln_3, ln_4, ln_14, ln_16, ln_17, ln_18, ln_19, ln_20, ln_22, ln_23, ln_24, ln_25, ln_27, ln_28, ln_29, ln_30, ln_31, ln_33, ln_34, ln_35, ln_36, ln_38, ln_159, ln_183, ln_184, ln_186, h1, g1, g2, k9, s_stbecome (isSt_kept hk) isSt_32, f1, f2, f3, nI_1, ne24, rem24 (show k + 1 < 48 by omega), s_min, m]
theorem s_takeBack {k c : Nat} (hk : k < 24) (hc : c < 24) (h1 : F 37 2 = nI k) (h2 : F 37 1 = nI (c + 1)) : E 199 S (d + 1) 2 0 [some (.ref (37 : Nat)), some (.ref (32 : Nat))] [] (hp SL xs F B C) P ↔
    P none (hp SL xs (u2 (stF (u2 F 37 2 (nI ((k + 23) % 24))) 32 (39 + 5 * ((k + 23) % 24))) 37 1 (nI c)) (stB B 32 (39 + 5 * ((k + 23) % 24))) C) 199 S := by
  have hq : (k + 23) % 24 < 24 := Nat.mod_lt _ (by omega)
  have g1 : vp_in (nI ((k + 23) % 24)) 24 := vp_in_nI hq (by omega)
  have g2 : (nI ((k + 23) % 24)).toNatClampNeg = (k + 23) % 24 := nI_clamp (by omega)
  have e1 : nI k + 24 - 1 = nI (k + 23) := by
    have : ∀ k, k < 24 → nI k + 24 - 1 = nI (k + 23) := by decide
    exact this k hk
  have e2 : nI (c + 1) - 1 = nI c := by
    have : ∀ c, c < 24 → nI (c + 1) - 1 = nI c := by decide
    exact this c hc
  have f3 : ∀ x, u2 F 37 2 x 37 2 = x := fun x => by
    unfold u2
    rw [if_pos (by omega)]
  have f1 : ∀ x b, stF (u2 F 37 2 x) 32 b 37 1 = nI (c + 1) := fun x b => by
    rw [stF_ne (by omega)]
    unfold u2
    rw [if_neg (by omega), h2]
  have f4 : ∀ x b, stF (u2 F 37 2 x) 32 b 37 2 = x := fun x b => by
    rw [stF_ne (by omega)]
    exact f3 x
  simp only [e_2_0, e_2_1, e_2_2, e_2_5, e_2_7, e_2_8, e_2_9, e_2_10, e_2_12, e_2_13, e_2_16, e_2_17, e_2_18, e_2_21, e_2_22, e_2_25_14, e_2_26, e_2_29, e_2_30, e_2_30r, e_2_31, e_2_34, e_2_35, e_2_36, e_2_39, kd_187, kd_188, kd_189, kd_190, kd_191, kd_192, kd_193, kd_194, kd_195, kd_196, kd_197, kd_198, ln_188, ln_189, ln_190, ln_191, ln_192, ln_193, ln_194, ln_195, ln_196, ln_197, ln_198, nz0, nz1, nzb, cmp0, cmpP, nl_n, nl_i, nl_r, nl_l, nl_nl, Nat.reduceAdd, Nat.reduceMul, Int32.reduceAdd, Int32.reduceSub, Int32.reduceMul, Int32.reduceLE, Int32.reduceLT, q_K_i, q_K_v, q_b0, q_bn, q_b1, z0, z1, q_bz, true_and, and_true, if_true, if_false, not_true_eq_false, not_false_eq_true, true_or, or_true, qsE_0, qsE_1, qsE_2, qsE_3, qsE_4, qsE_5, qsE_6, qsE_7, qsE_8, qsi_1, qsr_1, qsi_2, qsr_2, qsi_3, qsr_3, qsi_4, qsr_4, qsi_5, qsr_5, qsi_6, qsr_6, qsi_7, qsr_7, qsi_8, qsr_8, qsl_2, qsl_3, qsl_4, qsl_5, qsl_6, qsl_7, qsl_8, tc_0, tc_1, tc_2, tc_3, tc_4, tc_5, tc_6, tc_7, tc_8, tc_9, tc_10, tc_11, tc_12, tc_13, tc_14, tc_15, tc_16, tc_17, tc_18, tc_19, tc_20, tc_21, tc_22, tc_23, tc_24, tc_25, tc_26, tc_27, tc_28, tc_29, tc_30, tc_31, tc_32, tc_33, tc_34, tc_35, tc_36, tc_37, tc_38, tc_39, tc_40, tc_41, tc_42, tc_43, tc_44, tc_45, tc_46, tc_47, tc_48, tc_49, tc_50, tc_51, tc_52, tc_53, tc_54, tc_55, tc_56, tc_57, tc_58, tc_59, tc_60, tc_61, vq_0_48, vq_1_48, vq_2_48, vq_3_48, vq_4_48, vq_5_48, vq_6_48, vq_7_48, vq_8_48, vq_9_48, vq_10_48, vq_11_48, vq_12_48, vq_13_48, vq_14_48, vq_15_48, vq_16_48, vq_17_48, vq_18_48, vq_19_48, vq_20_48, vq_21_48, vq_22_48, vq_23_48, vq_24_48, vq_25_48, vq_26_48, vq_27_48, vq_28_48, vq_29_48, vq_30_48, vq_31_48, vq_32_48, vq_33_48, vq_34_48, vq_35_48, vq_36_48, vq_37_48, vq_38_48, vq_39_48, vq_40_48, vq_41_48, vq_42_48, vq_43_48, vq_44_48, vq_45_48, vq_46_48, vq_47_48, kd_0, kd_1, kd_2, kd_3, kd_4, kd_13, kd_14, kd_15, kd_16, kd_17, kd_18, kd_19, kd_20, kd_21, kd_22, kd_23, kd_24, kd_25, kd_26, kd_27, kd_28, kd_29, kd_30, kd_31, kd_32, kd_33, kd_34, kd_35, kd_36, kd_37, kd_38, kd_159, kd_182, kd_183, kd_184, kd_185, kd_186, ln_2, ln_3, ln_4, ln_14, ln_16, ln_17, ln_18, ln_19, ln_20, ln_22, ln_23, ln_24, ln_25, ln_27, ln_28, ln_29, ln_30, ln_31, ln_33, ln_34, ln_35, ln_36, ln_38, ln_159, ln_183, ln_184, ln_186, h1, e1, g1, g2, s_stbecome isSt_32 (isSt_kept hq), f1, f3, f4, ne24, rem24 (show k + 23 < 48 by omega), e2]
theorem nI_ij {a b : Nat} (ha : a < 2 ^ 31) (hb : b < 2 ^ 31) (h : nI a = nI b) : a = b := by
  have e := congrArg Int32.toInt h
  rw [nI_toInt ha, nI_toInt hb] at e
  omega
theorem i_16 {c i : Nat} : 16 * nI c + nI i = nI (16 * c + i) := by
  rw [show (16 : Int32) = nI 16 from rfl, pk_mul, nI_add]
theorem l_rem1 : ∀ (j i : Nat), i + j = 368 → ∀ B : q_FT, (E 199 S d 141 11 [some (.ref (187 : Nat)), some (.int (nI i))] [] (hp SL xs F B C) P ↔ E 199 S d 141 39 [some (.ref (187 : Nat)), some (.int (nI 368))] [] (hp SL xs F (bc B 191 (i + 16) 191 i j) C) P)
  | 0, i, hi, B => by
    have e : i = 368 := by omega
    subst e
    have h3 : (368 : Int32) ≤ nI 368 := by decide
    rw [e_141_11, bc_done]
    simp only [e_141_0, e_141_1, e_141_4, e_141_6, e_141_9, e_141_10, e_141_12, e_141_15, e_141_18, e_141_19, e_141_22, e_141_23, e_141_24, e_141_27, e_141_28, e_141_30, e_141_31, e_141_32, e_141_33, e_141_36, e_141_40, e_141_40r, e_141_41, e_141_44, e_141_45, e_141_46, e_141_49, e_141_50, e_141_52, e_141_54, e_141_57, e_141_58, e_141_61, e_141_63, e_141_64, e_141_67, e_141_68, e_141_69, e_141_70, e_141_71, e_141_74, e_141_76, e_141_77, e_141_78, e_141_79, e_141_80, e_141_83, e_141_86, e_141_87, e_141_87r, e_141_88, e_141_91, e_141_92, e_141_93, e_141_96, kd_187, kd_188, kd_189, kd_190, kd_191, kd_192, kd_193, kd_194, kd_195, kd_196, kd_197, kd_198, ln_188, ln_189, ln_190, ln_191, ln_192, ln_193, ln_194, ln_195, ln_196, ln_197, ln_198, nz0, nz1, nzb, cmp0, cmpP, nl_n, nl_i, nl_r, nl_l, nl_nl, Nat.reduceAdd, Nat.reduceMul, Int32.reduceAdd, Int32.reduceSub, Int32.reduceMul, Int32.reduceLE, Int32.reduceLT, q_K_i, q_K_v, q_b0, q_bn, q_b1, z0, z1, q_bz, true_and, and_true, if_true, if_false, not_true_eq_false, not_false_eq_true, true_or, or_true, qsE_0, qsE_1, qsE_2, qsE_3, qsE_4, qsE_5, qsE_6, qsE_7, qsE_8, qsi_1, qsr_1, qsi_2, qsr_2, qsi_3, qsr_3, qsi_4, qsr_4, qsi_5, qsr_5, qsi_6, qsr_6, qsi_7, qsr_7, qsi_8, qsr_8, qsl_2, qsl_3, qsl_4, qsl_5, qsl_6, qsl_7, qsl_8, tc_0, tc_1, tc_2, tc_3, tc_4, tc_5, tc_6, tc_7, tc_8, tc_9, tc_10, tc_11, tc_12, tc_13, tc_14, tc_15, tc_16, tc_17, tc_18, tc_19, tc_20, tc_21, tc_22, tc_23, tc_24, tc_25, tc_26, tc_27, tc_28, tc_29, tc_30, tc_31, tc_32, tc_33, tc_34, tc_35, tc_36, tc_37, tc_38, tc_39, tc_40, tc_41, tc_42, tc_43, tc_44, tc_45, tc_46, tc_47, tc_48, tc_49, tc_50, tc_51, tc_52, tc_53, tc_54, tc_55, tc_56, tc_57, tc_58, tc_59, tc_60, tc_61, vq_0_48, vq_1_48, vq_2_48, vq_3_48, vq_4_48, vq_5_48, vq_6_48, vq_7_48, vq_8_48, vq_9_48, vq_10_48, vq_11_48, vq_12_48, vq_13_48, vq_14_48, vq_15_48, vq_16_48, vq_17_48, vq_18_48, vq_19_48, vq_20_48, vq_21_48, vq_22_48, vq_23_48, vq_24_48, vq_25_48, vq_26_48, vq_27_48, vq_28_48, vq_29_48, vq_30_48, vq_31_48, vq_32_48, vq_33_48, vq_34_48, vq_35_48, vq_36_48, vq_37_48, vq_38_48, vq_39_48, vq_40_48, vq_41_48, vq_42_48, vq_43_48, vq_44_48, vq_45_48, vq_46_48, vq_47_48, h3]
  | j + 1, i, hi, B => by
    have h3 : ¬ (368 : Int32) ≤ nI i := show ¬ nI 368 ≤ nI i from nI_ge (by omega) (by omega)
    have h1 : vp_in (nI i) 384 := vp_in_nI (by omega) (by omega)
    have h2 : (nI i).toNatClampNeg = i := nI_clamp (by omega)
    have h4 : vp_in (nI (i + 16)) 384 := vp_in_nI (by omega) (by omega)
    have h5 : (nI (i + 16)).toNatClampNeg = i + 16 := nI_clamp (by omega)
    have e : nI i + 16 = nI (i + 16) := nI_add _ _
    rw [e_141_11, ← bc_step (Or.inr (by omega))]
    simp only [e_141_0, e_141_1, e_141_4, e_141_6, e_141_9, e_141_10, e_141_12, e_141_15, e_141_18, e_141_19, e_141_22, e_141_23, e_141_24, e_141_27, e_141_28, e_141_30, e_141_31, e_141_32, e_141_33, e_141_36, e_141_40, e_141_40r, e_141_41, e_141_44, e_141_45, e_141_46, e_141_49, e_141_50, e_141_52, e_141_54, e_141_57, e_141_58, e_141_61, e_141_63, e_141_64, e_141_67, e_141_68, e_141_69, e_141_70, e_141_71, e_141_74, e_141_76, e_141_77, e_141_78, e_141_79, e_141_80, e_141_83, e_141_86, e_141_87, e_141_87r, e_141_88, e_141_91, e_141_92, e_141_93, e_141_96, kd_187, kd_188, kd_189, kd_190, kd_191, kd_192, kd_193, kd_194, kd_195, kd_196, kd_197, kd_198, ln_188, ln_189, ln_190, ln_191, ln_192, ln_193, ln_194, ln_195, ln_196, ln_197, ln_198, nz0, nz1, nzb, cmp0, cmpP, nl_n, nl_i, nl_r, nl_l, nl_nl, Nat.reduceAdd, Nat.reduceMul, Int32.reduceAdd, Int32.reduceSub, Int32.reduceMul, Int32.reduceLE, Int32.reduceLT, q_K_i, q_K_v, q_b0, q_bn, q_b1, z0, z1, q_bz, true_and, and_true, if_true, if_false, not_true_eq_false, not_false_eq_true, true_or, or_true, qsE_0, qsE_1, qsE_2, qsE_3, qsE_4, qsE_5, qsE_6, qsE_7, qsE_8, qsi_1, qsr_1, qsi_2, qsr_2, qsi_3, qsr_3, qsi_4, qsr_4, qsi_5, qsr_5, qsi_6, qsr_6, qsi_7, qsr_7, qsi_8, qsr_8, qsl_2, qsl_3, qsl_4, qsl_5, qsl_6, qsl_7, qsl_8, tc_0, tc_1, tc_2, tc_3, tc_4, tc_5, tc_6, tc_7, tc_8, tc_9, tc_10, tc_11, tc_12, tc_13, tc_14, tc_15, tc_16, tc_17, tc_18, tc_19, tc_20, tc_21, tc_22, tc_23, tc_24, tc_25, tc_26, tc_27, tc_28, tc_29, tc_30, tc_31, tc_32, tc_33, tc_34, tc_35, tc_36, tc_37, tc_38, tc_39, tc_40, tc_41, tc_42, tc_43, tc_44, tc_45, tc_46, tc_47, tc_48, tc_49, tc_50, tc_51, tc_52, tc_53, tc_54, tc_55, tc_56, tc_57, tc_58, tc_59, tc_60, tc_61, vq_0_48, vq_1_48, vq_2_48, vq_3_48, vq_4_48, vq_5_48, vq_6_48, vq_7_48, vq_8_48, vq_9_48, vq_10_48, vq_11_48, vq_12_48, vq_13_48, vq_14_48, vq_15_48, vq_16_48, vq_17_48, vq_18_48, vq_19_48, vq_20_48, vq_21_48, vq_22_48, vq_23_48, vq_24_48, vq_25_48, vq_26_48, vq_27_48, vq_28_48, vq_29_48, vq_30_48, vq_31_48, vq_32_48, vq_33_48, vq_34_48, vq_35_48, vq_36_48, vq_37_48, vq_38_48, vq_39_48, vq_40_48, vq_41_48, vq_42_48, vq_43_48, vq_44_48, vq_45_48, vq_46_48, vq_47_48, h1, h2, h3, h4, h5, e, nI_1]
    exact l_rem1 j (i + 1) (by omega) _
theorem l_rem2 {c : Nat} (hc : c ≤ 23) (hF : F 187 4 = nI c) : ∀ (j i : Nat), i + j = 16 → ∀ B : q_FT, (E 199 S d 141 51 [some (.ref (187 : Nat)), some (.int (nI i))] [] (hp SL xs F B C) P ↔ P none (hp SL xs (u2 F 187 4 (nI (c + 1))) (bc B 188 (32 + i) 191 (16 * c + i) j) C) 199 S)
  | 0, i, hi, B => by
    have e : i = 16 := by omega
    subst e
    have h3 : (16 : Int32) ≤ nI 16 := by decide
    rw [e_141_51, bc_done]
    simp only [e_141_0, e_141_1, e_141_4, e_141_6, e_141_9, e_141_10, e_141_12, e_141_15, e_141_18, e_141_19, e_141_22, e_141_23, e_141_24, e_141_27, e_141_28, e_141_30, e_141_31, e_141_32, e_141_33, e_141_36, e_141_39, e_141_40, e_141_40r, e_141_41, e_141_44, e_141_45, e_141_46, e_141_49, e_141_50, e_141_52, e_141_54, e_141_57, e_141_58, e_141_61, e_141_63, e_141_64, e_141_67, e_141_68, e_141_69, e_141_70, e_141_71, e_141_74, e_141_76, e_141_77, e_141_78, e_141_79, e_141_80, e_141_83, e_141_86, e_141_87, e_141_87r, e_141_88, e_141_91, e_141_92, e_141_93, e_141_96, kd_187, kd_188, kd_189, kd_190, kd_191, kd_192, kd_193, kd_194, kd_195, kd_196, kd_197, kd_198, ln_188, ln_189, ln_190, ln_191, ln_192, ln_193, ln_194, ln_195, ln_196, ln_197, ln_198, nz0, nz1, nzb, cmp0, cmpP, nl_n, nl_i, nl_r, nl_l, nl_nl, Nat.reduceAdd, Nat.reduceMul, Int32.reduceAdd, Int32.reduceSub, Int32.reduceMul, Int32.reduceLE, Int32.reduceLT, q_K_i, q_K_v, q_b0, q_bn, q_b1, z0, z1, q_bz, true_and, and_true, if_true, if_false, not_true_eq_false, not_false_eq_true, true_or, or_true, qsE_0, qsE_1, qsE_2, qsE_3, qsE_4, qsE_5, qsE_6, qsE_7, qsE_8, qsi_1, qsr_1, qsi_2, qsr_2, qsi_3, qsr_3, qsi_4, qsr_4, qsi_5, qsr_5, qsi_6, qsr_6, qsi_7, qsr_7, qsi_8, qsr_8, qsl_2, qsl_3, qsl_4, qsl_5, qsl_6, qsl_7, qsl_8, tc_0, tc_1, tc_2, tc_3, tc_4, tc_5, tc_6, tc_7, tc_8, tc_9, tc_10, tc_11, tc_12, tc_13, tc_14, tc_15, tc_16, tc_17, tc_18, tc_19, tc_20, tc_21, tc_22, tc_23, tc_24, tc_25, tc_26, tc_27, tc_28, tc_29, tc_30, tc_31, tc_32, tc_33, tc_34, tc_35, tc_36, tc_37, tc_38, tc_39, tc_40, tc_41, tc_42, tc_43, tc_44, tc_45, tc_46, tc_47, tc_48, tc_49, tc_50, tc_51, tc_52, tc_53, tc_54, tc_55, tc_56, tc_57, tc_58, tc_59, tc_60, tc_61, vq_0_48, vq_1_48, vq_2_48, vq_3_48, vq_4_48, vq_5_48, vq_6_48, vq_7_48, vq_8_48, vq_9_48, vq_10_48, vq_11_48, vq_12_48, vq_13_48, vq_14_48, vq_15_48, vq_16_48, vq_17_48, vq_18_48, vq_19_48, vq_20_48, vq_21_48, vq_22_48, vq_23_48, vq_24_48, vq_25_48, vq_26_48, vq_27_48, vq_28_48, vq_29_48, vq_30_48, vq_31_48, vq_32_48, vq_33_48, vq_34_48, vq_35_48, vq_36_48, vq_37_48, vq_38_48, vq_39_48, vq_40_48, vq_41_48, vq_42_48, vq_43_48, vq_44_48, vq_45_48, vq_46_48, vq_47_48, h3, hF, nI_1]
  | j + 1, i, hi, B => by
    have h3 : ¬ (16 : Int32) ≤ nI i := show ¬ nI 16 ≤ nI i from nI_ge (by omega) (by omega)
    have h1 : vp_in (nI (16 * c + i)) 384 := vp_in_nI (by omega) (by omega)
    have h2 : (nI (16 * c + i)).toNatClampNeg = 16 * c + i := nI_clamp (by omega)
    have h4 : vp_in (nI (32 + i)) 48 := vp_in_nI (by omega) (by omega)
    have h5 : (nI (32 + i)).toNatClampNeg = 32 + i := nI_clamp (by omega)
    rw [e_141_51, ← bc_step (Or.inl (by omega))]
    simp only [e_141_0, e_141_1, e_141_4, e_141_6, e_141_9, e_141_10, e_141_12, e_141_15, e_141_18, e_141_19, e_141_22, e_141_23, e_141_24, e_141_27, e_141_28, e_141_30, e_141_31, e_141_32, e_141_33, e_141_36, e_141_39, e_141_40, e_141_40r, e_141_41, e_141_44, e_141_45, e_141_46, e_141_49, e_141_50, e_141_52, e_141_54, e_141_57, e_141_58, e_141_61, e_141_63, e_141_64, e_141_67, e_141_68, e_141_69, e_141_70, e_141_71, e_141_74, e_141_76, e_141_77, e_141_78, e_141_79, e_141_80, e_141_83, e_141_86, e_141_87, e_141_87r, e_141_88, e_141_91, e_141_92, e_141_93, e_141_96, kd_187, kd_188, kd_189, kd_190, kd_191, kd_192, kd_193, kd_194, kd_195, kd_196, kd_197, kd_198, ln_188, ln_189, ln_190, ln_191, ln_192, ln_193, ln_194, ln_195, ln_196, ln_197, ln_198, nz0, nz1, nzb, cmp0, cmpP, nl_n, nl_i, nl_r, nl_l, nl_nl, Nat.reduceAdd, Nat.reduceMul, Int32.reduceAdd, Int32.reduceSub, Int32.reduceMul, Int32.reduceLE, Int32.reduceLT, q_K_i, q_K_v, q_b0, q_bn, q_b1, z0, z1, q_bz, true_and, and_true, if_true, if_false, not_true_eq_false, not_false_eq_true, true_or, or_true, qsE_0, qsE_1, qsE_2, qsE_3, qsE_4, qsE_5, qsE_6, qsE_7, qsE_8, qsi_1, qsr_1, qsi_2, qsr_2, qsi_3, qsr_3, qsi_4, qsr_4, qsi_5, qsr_5, qsi_6, qsr_6, qsi_7, qsr_7, qsi_8, qsr_8, qsl_2, qsl_3, qsl_4, qsl_5, qsl_6, qsl_7, qsl_8, tc_0, tc_1, tc_2, tc_3, tc_4, tc_5, tc_6, tc_7, tc_8, tc_9, tc_10, tc_11, tc_12, tc_13, tc_14, tc_15, tc_16, tc_17, tc_18, tc_19, tc_20, tc_21, tc_22, tc_23, tc_24, tc_25, tc_26, tc_27, tc_28, tc_29, tc_30, tc_31, tc_32, tc_33, tc_34, tc_35, tc_36, tc_37, tc_38, tc_39, tc_40, tc_41, tc_42, tc_43, tc_44, tc_45, tc_46, tc_47, tc_48, tc_49, tc_50, tc_51, tc_52, tc_53, tc_54, tc_55, tc_56, tc_57, tc_58, tc_59, tc_60, tc_61, vq_0_48, vq_1_48, vq_2_48, vq_3_48, vq_4_48, vq_5_48, vq_6_48, vq_7_48, vq_8_48, vq_9_48, vq_10_48, vq_11_48, vq_12_48, vq_13_48, vq_14_48, vq_15_48, vq_16_48, vq_17_48, vq_18_48, vq_19_48, vq_20_48, vq_21_48, vq_22_48, vq_23_48, vq_24_48, vq_25_48, vq_26_48, vq_27_48, vq_28_48, vq_29_48, vq_30_48, vq_31_48, vq_32_48, vq_33_48, vq_34_48, vq_35_48, vq_36_48, vq_37_48, vq_38_48, vq_39_48, vq_40_48, vq_41_48, vq_42_48, vq_43_48, vq_44_48, vq_45_48, vq_46_48, vq_47_48, h1, h2, h3, h4, h5, hF, i_16, i_32, nI_1]
    exact l_rem2 hc hF j (i + 1) (by omega) _
theorem s_remembers {c : Nat} (hc : c ≤ 24) (hF : F 187 4 = nI c) : E 199 S d 141 0 [some (.ref (187 : Nat)), none] [] (hp SL xs F B C) P ↔ P none (hp SL xs (u2 F 187 4 (nI (if c = 24 then 24 else c + 1))) (if c = 24 then bc (bc B 191 16 191 0 368) 188 32 191 368 16 else bc B 188 32 191 (16 * c) 16) C) 199 S := by
  by_cases c1 : c = 24
  · subst c1
    have r1 := fun B => @l_rem1 S d P SL xs F C 368 0 (by omega) B
    have r2 := fun B => @l_rem2 S d P SL xs (u2 F 187 4 (nI 23)) C 23 (by omega) (by unfold u2; rw [if_pos (by omega)]) 16 0 (by omega) B
    rw [show nI 0 = (0 : Int32) from rfl] at r1 r2
    have e : nI 24 - 1 = nI 23 := by decide
    have e2 : nI 24 = (24 : Int32) := rfl
    rw [if_pos rfl, if_pos rfl]
    simp only [e_141_0, e_141_1, e_141_4, e_141_6, e_141_9, e_141_10, e_141_12, e_141_15, e_141_18, e_141_19, e_141_22, e_141_23, e_141_24, e_141_27, e_141_28, e_141_30, e_141_31, e_141_32, e_141_33, e_141_36, e_141_39, e_141_40, e_141_40r, e_141_41, e_141_44, e_141_45, e_141_46, e_141_49, e_141_50, e_141_52, e_141_54, e_141_57, e_141_58, e_141_61, e_141_63, e_141_64, e_141_67, e_141_68, e_141_69, e_141_70, e_141_71, e_141_74, e_141_76, e_141_77, e_141_78, e_141_79, e_141_80, e_141_83, e_141_86, e_141_87, e_141_87r, e_141_88, e_141_91, e_141_92, e_141_93, e_141_96, kd_187, kd_188, kd_189, kd_190, kd_191, kd_192, kd_193, kd_194, kd_195, kd_196, kd_197, kd_198, ln_188, ln_189, ln_190, ln_191, ln_192, ln_193, ln_194, ln_195, ln_196, ln_197, ln_198, nz0, nz1, nzb, cmp0, cmpP, nl_n, nl_i, nl_r, nl_l, nl_nl, Nat.reduceAdd, Nat.reduceMul, Int32.reduceAdd, Int32.reduceSub, Int32.reduceMul, Int32.reduceLE, Int32.reduceLT, q_K_i, q_K_v, q_b0, q_bn, q_b1, z0, z1, q_bz, true_and, and_true, if_true, if_false, not_true_eq_false, not_false_eq_true, true_or, or_true, qsE_0, qsE_1, qsE_2, qsE_3, qsE_4, qsE_5, qsE_6, qsE_7, qsE_8, qsi_1, qsr_1, qsi_2, qsr_2, qsi_3, qsr_3, qsi_4, qsr_4, qsi_5, qsr_5, qsi_6, qsr_6, qsi_7, qsr_7, qsi_8, qsr_8, qsl_2, qsl_3, qsl_4, qsl_5, qsl_6, qsl_7, qsl_8, tc_0, tc_1, tc_2, tc_3, tc_4, tc_5, tc_6, tc_7, tc_8, tc_9, tc_10, tc_11, tc_12, tc_13, tc_14, tc_15, tc_16, tc_17, tc_18, tc_19, tc_20, tc_21, tc_22, tc_23, tc_24, tc_25, tc_26, tc_27, tc_28, tc_29, tc_30, tc_31, tc_32, tc_33, tc_34, tc_35, tc_36, tc_37, tc_38, tc_39, tc_40, tc_41, tc_42, tc_43, tc_44, tc_45, tc_46, tc_47, tc_48, tc_49, tc_50, tc_51, tc_52, tc_53, tc_54, tc_55, tc_56, tc_57, tc_58, tc_59, tc_60, tc_61, vq_0_48, vq_1_48, vq_2_48, vq_3_48, vq_4_48, vq_5_48, vq_6_48, vq_7_48, vq_8_48, vq_9_48, vq_10_48, vq_11_48, vq_12_48, vq_13_48, vq_14_48, vq_15_48, vq_16_48, vq_17_48, vq_18_48, vq_19_48, vq_20_48, vq_21_48, vq_22_48, vq_23_48, vq_24_48, vq_25_48, vq_26_48, vq_27_48, vq_28_48, vq_29_48, vq_30_48, vq_31_48, vq_32_48, vq_33_48, vq_34_48, vq_35_48, vq_36_48, vq_37_48, vq_38_48, vq_39_48, vq_40_48, vq_41_48, vq_42_48, vq_43_48, vq_44_48, vq_45_48, vq_46_48, vq_47_48, hF, e2, r1]
    refine (r2 _).trans ?_
    rw [u2_u2]
    rfl
  · have r2 := fun B => @l_rem2 S d P SL xs F C c (by omega) hF 16 0 (by omega) B
    rw [show nI 0 = (0 : Int32) from rfl] at r2
    have n : ¬ nI c = 24 := fun z => c1 (nI_ij (by omega) (by omega) (show nI c = nI 24 from z))
    rw [if_neg c1, if_neg c1]
    simp only [e_141_0, e_141_1, e_141_4, e_141_6, e_141_9, e_141_10, e_141_12, e_141_15, e_141_18, e_141_19, e_141_22, e_141_23, e_141_24, e_141_27, e_141_28, e_141_30, e_141_31, e_141_32, e_141_33, e_141_36, e_141_39, e_141_40, e_141_40r, e_141_41, e_141_44, e_141_45, e_141_46, e_141_49, e_141_50, e_141_52, e_141_54, e_141_57, e_141_58, e_141_61, e_141_63, e_141_64, e_141_67, e_141_68, e_141_69, e_141_70, e_141_71, e_141_74, e_141_76, e_141_77, e_141_78, e_141_79, e_141_80, e_141_83, e_141_86, e_141_87, e_141_87r, e_141_88, e_141_91, e_141_92, e_141_93, e_141_96, kd_187, kd_188, kd_189, kd_190, kd_191, kd_192, kd_193, kd_194, kd_195, kd_196, kd_197, kd_198, ln_188, ln_189, ln_190, ln_191, ln_192, ln_193, ln_194, ln_195, ln_196, ln_197, ln_198, nz0, nz1, nzb, cmp0, cmpP, nl_n, nl_i, nl_r, nl_l, nl_nl, Nat.reduceAdd, Nat.reduceMul, Int32.reduceAdd, Int32.reduceSub, Int32.reduceMul, Int32.reduceLE, Int32.reduceLT, q_K_i, q_K_v, q_b0, q_bn, q_b1, z0, z1, q_bz, true_and, and_true, if_true, if_false, not_true_eq_false, not_false_eq_true, true_or, or_true, qsE_0, qsE_1, qsE_2, qsE_3, qsE_4, qsE_5, qsE_6, qsE_7, qsE_8, qsi_1, qsr_1, qsi_2, qsr_2, qsi_3, qsr_3, qsi_4, qsr_4, qsi_5, qsr_5, qsi_6, qsr_6, qsi_7, qsr_7, qsi_8, qsr_8, qsl_2, qsl_3, qsl_4, qsl_5, qsl_6, qsl_7, qsl_8, tc_0, tc_1, tc_2, tc_3, tc_4, tc_5, tc_6, tc_7, tc_8, tc_9, tc_10, tc_11, tc_12, tc_13, tc_14, tc_15, tc_16, tc_17, tc_18, tc_19, tc_20, tc_21, tc_22, tc_23, tc_24, tc_25, tc_26, tc_27, tc_28, tc_29, tc_30, tc_31, tc_32, tc_33, tc_34, tc_35, tc_36, tc_37, tc_38, tc_39, tc_40, tc_41, tc_42, tc_43, tc_44, tc_45, tc_46, tc_47, tc_48, tc_49, tc_50, tc_51, tc_52, tc_53, tc_54, tc_55, tc_56, tc_57, tc_58, tc_59, tc_60, tc_61, vq_0_48, vq_1_48, vq_2_48, vq_3_48, vq_4_48, vq_5_48, vq_6_48, vq_7_48, vq_8_48, vq_9_48, vq_10_48, vq_11_48, vq_12_48, vq_13_48, vq_14_48, vq_15_48, vq_16_48, vq_17_48, vq_18_48, vq_19_48, vq_20_48, vq_21_48, vq_22_48, vq_23_48, vq_24_48, vq_25_48, vq_26_48, vq_27_48, vq_28_48, vq_29_48, vq_30_48, vq_31_48, vq_32_48, vq_33_48, vq_34_48, vq_35_48, vq_36_48, vq_37_48, vq_38_48, vq_39_48, vq_40_48, vq_41_48, vq_42_48, vq_43_48, vq_44_48, vq_45_48, vq_46_48, vq_47_48, hF, n, r2]
    rfl
end SJ
