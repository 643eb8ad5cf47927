/-! METHODS: become, keep, takeBack, forget, min, max -/
/-- B, but the first n of array b in array a -/
def ac (B : q_FT) (b a n : Nat) : q_FT := c2 B a (va_cpy (B b) (B a) 0 0 n)
theorem ac0 {B : q_FT} {b a n : Nat} : c2 B a (va_cpy (B b) (B a) 0 0 n) = ac B b a n := rfl
theorem ac_ne {B : q_FT} {b a n c i : Nat} (h : ¬ c = a) : ac B b a n c i = B c i := by
  unfold ac c2
  rw [if_neg h]
theorem ac_lt {B : q_FT} {b a n i : Nat} (h : i < n) : ac B b a n a i = B b i := by
  unfold ac c2 va_cpy
  rw [if_pos rfl, if_pos (by omega)]
  congr 1
  omega
/-- F, but field j of b in a -/
def fc (F : q_FT) (a b j : Nat) : q_FT := u2 F a j (F b j)
theorem fc0 {F : q_FT} {a b j : Nat} : u2 F a j (F b j) = fc F a b j := rfl
theorem fc_ne {F : q_FT} {a b j c k : Nat} (h : ¬ (c = a ∧ k = j)) : fc F a b j c k = F c k := by
  unfold fc u2
  rw [if_neg h]
theorem fc_eq {F : q_FT} {a b j : Nat} : fc F a b j a j = F b j := by
  unfold fc u2
  rw [if_pos ⟨rfl, rfl⟩]
def stF (F : q_FT) (a b : Nat) : q_FT := fc (fc (fc F a b 4) a b 5) a b 6
def stB (B : q_FT) (a b : Nat) : q_FT := ac (ac (ac (ac B (b + 1) (a + 1) 3) (b + 2) (a + 2) 3) (b + 3) (a + 3) 3) (b + 4) (a + 4) 4
def ldF (F : q_FT) (a b : Nat) : q_FT := stF (fc (fc (fc (fc F a b 0) a b 1) a b 6) a b 7) (a + 6) (b + 6)
def ldB (B : q_FT) (a b : Nat) : q_FT := stB (ac (ac (ac (ac (ac B (b + 1) (a + 1) 6) (b + 2) (a + 2) 6) (b + 3) (a + 3) 6) (b + 4) (a + 4) 6) (b + 5) (a + 5) 4) (a + 6) (b + 6)
def isSt (a : Nat) : Prop := q_kd a = 5 ∧ q_kd (a + 1) = 10 ∧ q_kd (a + 2) = 10 ∧ q_kd (a + 3) = 10 ∧ q_kd (a + 4) = 10 ∧ q_ln (a + 1) = 3 ∧ q_ln (a + 2) = 3 ∧ q_ln (a + 3) = 3 ∧ q_ln (a + 4) = 4
def isLd (a : Nat) : Prop := q_kd a = 2 ∧ q_kd (a + 1) = 10 ∧ q_kd (a + 2) = 10 ∧ q_kd (a + 3) = 10 ∧ q_kd (a + 4) = 10 ∧ q_kd (a + 5) = 10 ∧ q_ln (a + 1) = 6 ∧ q_ln (a + 2) = 6 ∧ q_ln (a + 3) = 6 ∧ q_ln (a + 4) = 6 ∧ q_ln (a + 5) = 4 ∧ isSt (a + 6)
theorem isLd_15 : isLd 15 := by unfold isLd isSt; decide
theorem isLd_26 : isLd 26 := by unfold isLd isSt; decide
theorem isLd_im {k : Nat} (h : k < 2) : isLd (160 + 11 * k) := by
  rcases (show k = 0 ∨ k = 1 by omega) with rfl | rfl <;> (unfold isLd isSt; decide)
theorem isSt_32 : isSt 32 := by unfold isSt; decide
theorem isSt_kept {k : Nat} (h : k < 24) : isSt (39 + 5 * k) := by
  have : ∀ k, k < 24 → (q_kd (39 + 5 * k) = 5 ∧ q_kd (39 + 5 * k + 1) = 10 ∧ q_kd (39 + 5 * k + 2) = 10 ∧ q_kd (39 + 5 * k + 3) = 10 ∧ q_kd (39 + 5 * k + 4) = 10 ∧ q_ln (39 + 5 * k + 1) = 3 ∧ q_ln (39 + 5 * k + 2) = 3 ∧ q_ln (39 + 5 * k + 3) = 3 ∧ q_ln (39 + 5 * k + 4) = 4) := by decide
  exact this k h
section SI
variable {S d : Nat} {P : Option Value → q_H → Nat → Nat → Prop} {SL : Nat} {xs : Nat → Int32} {F B : q_FT} {C : q_CT}
theorem s_stbecome {a b : Nat} (ha : isSt a) (hb : isSt b) : E 199 S d 50 0 [some (.ref a), some (.ref b)] [] (hp SL xs F B C) P ↔ P none (hp SL xs (stF F a b) (stB B a b) C) 199 S := by
  obtain ⟨a0, a1, a2, a3, a4, l1, l2, l3, l4⟩ := ha
  obtain ⟨b0, b1, b2, b3, b4, k1, k2, k3, k4⟩ := hb
  unfold stF stB
  simp only [e_50_0, e_50_1, e_50_4, e_50_5, e_50_6, e_50_9, e_50_10, e_50_11, e_50_14, e_50_15, e_50_18, e_50_19, e_50_20, e_50_23, e_50_24, e_50_25, e_50_28, e_50_29, e_50_32, e_50_33, e_50_34, e_50_37, e_50_38, e_50_39, e_50_42, e_50_43, e_50_46, e_50_47, e_50_48, e_50_51, e_50_52, e_50_53, e_50_56, e_50_57, e_50_58, e_50_61, e_50_64, e_50_65, e_50_66, e_50_69, e_50_72, e_50_73, e_50_74, e_50_77, e_50_80, kd_187, kd_188, kd_189, kd_190, kd_191, kd_192, kd_193, kd_194, kd_195, kd_196, kd_197, kd_198, ln_188, ln_189, ln_190, ln_191, ln_192, ln_193, ln_194, ln_195, ln_196, ln_197, ln_198, nz0, nz1, nzb, cmp0, cmpP, nl_n, nl_i, nl_r, nl_l, nl_nl, Nat.reduceAdd, Nat.reduceMul, Int32.reduceAdd, Int32.reduceSub, Int32.reduceMul, Int32.reduceLE, Int32.reduceLT, q_K_i, q_K_v, q_b0, q_bn, q_b1, z0, z1, q_bz, true_and, and_true, if_true, if_false, not_true_eq_false, not_false_eq_true, true_or, or_true, qsE_0, qsE_1, qsE_2, qsE_3, qsE_4, qsE_5, qsE_6, qsE_7, qsE_8, qsi_1, qsr_1, qsi_2, qsr_2, qsi_3, qsr_3, qsi_4, qsr_4, qsi_5, qsr_5, qsi_6, qsr_6, qsi_7, qsr_7, qsi_8, qsr_8, qsl_2, qsl_3, qsl_4, qsl_5, qsl_6, qsl_7, qsl_8, tc_0, tc_1, tc_2, tc_3, tc_4, tc_5, tc_6, tc_7, tc_8, tc_9, tc_10, tc_11, tc_12, tc_13, tc_14, tc_15, tc_16, tc_17, tc_18, tc_19, tc_20, tc_21, tc_22, tc_23, tc_24, tc_25, tc_26, tc_27, tc_28, tc_29, tc_30, tc_31, tc_32, tc_33, tc_34, tc_35, tc_36, tc_37, tc_38, tc_39, tc_40, tc_41, tc_42, tc_43, tc_44, tc_45, tc_46, tc_47, tc_48, tc_49, tc_50, tc_51, tc_52, tc_53, tc_54, tc_55, tc_56, tc_57, tc_58, tc_59, tc_60, tc_61, vq_0_48, vq_1_48, vq_2_48, vq_3_48, vq_4_48, vq_5_48, vq_6_48, vq_7_48, vq_8_48, vq_9_48, vq_10_48, vq_11_48, vq_12_48, vq_13_48, vq_14_48, vq_15_48, vq_16_48, vq_17_48, vq_18_48, vq_19_48, vq_20_48, vq_21_48, vq_22_48, vq_23_48, vq_24_48, vq_25_48, vq_26_48, vq_27_48, vq_28_48, vq_29_48, vq_30_48, vq_31_48, vq_32_48, vq_33_48, vq_34_48, vq_35_48, vq_36_48, vq_37_48, vq_38_48, vq_39_48, vq_40_48, vq_41_48, vq_42_48, vq_43_48, vq_44_48, vq_45_48, vq_46_48, vq_47_48, Nat.zero_add, Nat.le_refl, ac0, fc0, a0, a1, a2, a3, a4, l1, l2, l3, l4, b0, b1, b2, b3, b4, k1, k2, k3, k4, Int32.lt_irrefl]
theorem s_ldbecome {a b : Nat} (ha : isLd a) (hb : isLd b) (hz : F b 0 = 0 ∨ F b 0 = 1) : E 199 S (d + 1) 19 0 [some (.ref a), some (.ref b)] [] (hp SL xs F B C) P ↔ P none (hp SL xs (ldF F a b) (ldB B a b) C) 199 S := by
  obtain ⟨a0, a1, a2, a3, a4, a5, l1, l2, l3, l4, l5, a6⟩ := ha
  obtain ⟨b0, b1, b2, b3, b4, b5, k1, k2, k3, k4, k5, b6⟩ := hb
  have a7 := a6.1
  unfold ldF ldB
  simp only [e_19_0, e_19_1, e_19_2, e_19_5, e_19_8, e_19_9, e_19_10, e_19_13, e_19_16, e_19_17, e_19_20, e_19_21, e_19_22, e_19_25, e_19_26, e_19_28, e_19_31, e_19_32, e_19_35, e_19_36, e_19_37, e_19_40, e_19_41, e_19_43, e_19_46, e_19_47, e_19_50, e_19_51, e_19_52, e_19_55, e_19_56, e_19_58, e_19_61, e_19_62, e_19_65, e_19_66, e_19_67, e_19_70, e_19_71, e_19_73, e_19_76, e_19_77, e_19_78, e_19_81, e_19_84, e_19_85, e_19_86, e_19_89, e_19_92, e_19_93, e_19_96, e_19_97, e_19_98, e_19_101, e_19_102, e_19_103, e_19_106, e_19_107, e_19_110, e_19_111, e_19_114, e_19_117, kd_187, kd_188, kd_189, kd_190, kd_191, kd_192, kd_193, kd_194, kd_195, kd_196, kd_197, kd_198, ln_188, ln_189, ln_190, ln_191, ln_192, ln_193, ln_194, ln_195, ln_196, ln_197, ln_198, nz0, nz1, nzb, cmp0, cmpP, nl_n, nl_i, nl_r, nl_l, nl_nl, Nat.reduceAdd, Nat.reduceMul, Int32.reduceAdd, Int32.reduceSub, Int32.reduceMul, Int32.reduceLE, Int32.reduceLT, q_K_i, q_K_v, q_b0, q_bn, q_b1, z0, z1, q_bz, true_and, and_true, if_true, if_false, not_true_eq_false, not_false_eq_true, true_or, or_true, qsE_0, qsE_1, qsE_2, qsE_3, qsE_4, qsE_5, qsE_6, qsE_7, qsE_8, qsi_1, qsr_1, qsi_2, qsr_2, qsi_3, qsr_3, qsi_4, qsr_4, qsi_5, qsr_5, qsi_6, qsr_6, qsi_7, qsr_7, qsi_8, qsr_8, qsl_2, qsl_3, qsl_4, qsl_5, qsl_6, qsl_7, qsl_8, tc_0, tc_1, tc_2, tc_3, tc_4, tc_5, tc_6, tc_7, tc_8, tc_9, tc_10, tc_11, tc_12, tc_13, tc_14, tc_15, tc_16, tc_17, tc_18, tc_19, tc_20, tc_21, tc_22, tc_23, tc_24, tc_25, tc_26, tc_27, tc_28, tc_29, tc_30, tc_31, tc_32, tc_33, tc_34, tc_35, tc_36, tc_37, tc_38, tc_39, tc_40, tc_41, tc_42, tc_43, tc_44, tc_45, tc_46, tc_47, tc_48, tc_49, tc_50, tc_51, tc_52, tc_53, tc_54, tc_55, tc_56, tc_57, tc_58, tc_59, tc_60, tc_61, vq_0_48, vq_1_48, vq_2_48, vq_3_48, vq_4_48, vq_5_48, vq_6_48, vq_7_48, vq_8_48, vq_9_48, vq_10_48, vq_11_48, vq_12_48, vq_13_48, vq_14_48, vq_15_48, vq_16_48, vq_17_48, vq_18_48, vq_19_48, vq_20_48, vq_21_48, vq_22_48, vq_23_48, vq_24_48, vq_25_48, vq_26_48, vq_27_48, vq_28_48, vq_29_48, vq_30_48, vq_31_48, vq_32_48, vq_33_48, vq_34_48, vq_35_48, vq_36_48, vq_37_48, vq_38_48, vq_39_48, vq_40_48, vq_41_48, vq_42_48, vq_43_48, vq_44_48, vq_45_48, vq_46_48, vq_47_48, Nat.zero_add, Nat.le_refl, ac0, fc0, a0, a1, a2, a3, a4, a5, l1, l2, l3, l4, l5, b0, b1, b2, b3, b4, b5, k1, k2, k3, k4, k5, hz, a7, s_stbecome a6 b6, Int32.lt_irrefl]
theorem s_forget : E 199 S d 3 0 [some (.ref (37 : Nat))] [] (hp SL xs F B C) P ↔ P none (hp SL xs (u2 F 37 1 0) B C) 199 S := by
  simp only [e_3_0, e_3_1, e_3_2, e_3_5, kd_187, kd_188, kd_189, kd_190, kd_191, kd_192, kd_193, kd_194, kd_195, kd_196, kd_197, kd_198, ln_188, ln_189, ln_190, ln_191, ln_192, ln_193, ln_194, ln_195, ln_196, ln_197, ln_198, nz0, nz1, nzb, cmp0, cmpP, nl_n, nl_i, nl_r, nl_l, nl_nl, Nat.reduceAdd, Nat.reduceMul, Int32.reduceAdd, Int32.reduceSub, Int32.reduceMul, Int32.reduceLE, Int32.reduceLT, q_K_i, q_K_v, q_b0, q_bn, q_b1, z0, z1, q_bz, true_and, and_true, if_true, if_false, not_true_eq_false, not_false_eq_true, true_or, or_true, qsE_0, qsE_1, qsE_2, qsE_3, qsE_4, qsE_5, qsE_6, qsE_7, qsE_8, qsi_1, qsr_1, qsi_2, qsr_2, qsi_3, qsr_3, qsi_4, qsr_4, qsi_5, qsr_5, qsi_6, qsr_6, qsi_7, qsr_7, qsi_8, qsr_8, qsl_2, qsl_3, qsl_4, qsl_5, qsl_6, qsl_7, qsl_8, tc_0, tc_1, tc_2, tc_3, tc_4, tc_5, tc_6, tc_7, tc_8, tc_9, tc_10, tc_11, tc_12, tc_13, tc_14, tc_15, tc_16, tc_17, tc_18, tc_19, tc_20, tc_21, tc_22, tc_23, tc_24, tc_25, tc_26, tc_27, tc_28, tc_29, tc_30, tc_31, tc_32, tc_33, tc_34, tc_35, tc_36, tc_37, tc_38, tc_39, tc_40, tc_41, tc_42, tc_43, tc_44, tc_45, tc_46, tc_47, tc_48, tc_49, tc_50, tc_51, tc_52, tc_53, tc_54, tc_55, tc_56, tc_57, tc_58, tc_59, tc_60, tc_61, vq_0_48, vq_1_48, vq_2_48, vq_3_48, vq_4_48, vq_5_48, vq_6_48, vq_7_48, vq_8_48, vq_9_48, vq_10_48, vq_11_48, vq_12_48, vq_13_48, vq_14_48, vq_15_48, vq_16_48, vq_17_48, vq_18_48, vq_19_48, vq_20_48, vq_21_48, vq_22_48, vq_23_48, vq_24_48, vq_25_48, vq_26_48, vq_27_48, vq_28_48, vq_29_48, vq_30_48, vq_31_48, vq_32_48, vq_33_48, vq_34_48, vq_35_48, vq_36_48, vq_37_48, vq_38_48, vq_39_48, vq_40_48, vq_41_48, vq_42_48, vq_43_48, vq_44_48, vq_45_48, vq_46_48, vq_47_48, kd_0, kd_1, kd_2, kd_3, kd_4, kd_13, kd_14, kd_15, kd_16, kd_17, kd_18, kd_19, kd_20, kd_21, kd_22, kd_23, kd_24, kd_25, kd_26, kd_27, kd_28, kd_29, kd_30, kd_31, kd_32, kd_33, kd_34, kd_35, kd_36, kd_37, kd_38, kd_159, kd_182, kd_183, kd_184, kd_185, kd_186, ln_2, ln_3, ln_4, ln_14, ln_16, ln_17, ln_18, ln_19, ln_20, ln_22, ln_23, ln_24, ln_25, ln_27, ln_28, ln_29, ln_30, ln_31, ln_33, ln_34, ln_35, ln_36, ln_38, ln_159, ln_183, ln_184, ln_186]
theorem s_min {N : Nat} {h : q_H} {x y : Int32} : E N S d 193 0 [some (.int x), some (.int y)] [] h P ↔ P (some (.int (if x ≤ y then x else y))) h N S := by
  simp only [e_193_0, e_193_1, e_193_2, e_193_5, e_193_6, e_193_9, e_193_10]
  by_cases c : x ≤ y
  · simp [c, Int32.not_lt.mpr c]
  · simp [c, Int32.not_le.mp c]
theorem s_max {N : Nat} {h : q_H} {x y : Int32} : E N S d 192 0 [some (.int x), some (.int y)] [] h P ↔ P (some (.int (if y ≤ x then x else y))) h N S := by
  simp only [e_192_0, e_192_1, e_192_2, e_192_5, e_192_6, e_192_9, e_192_10]
  by_cases c : y ≤ x
  · simp [c, Int32.not_lt.mpr c]
  · simp [c, Int32.not_le.mp c]
end SI
