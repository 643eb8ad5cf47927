/-! METHODS: the model's tokens, as they are at a place -/
def mtN (b : Nat → Int32) (n p : Nat) (num : Int32) : Int32 := if n ≤ p then num else if isL (b p) then num else if isD (b p) then mnumOf b (nI p) (n - p) p 0 else num
def mtM (b : Nat → Int32) (n p : Nat) (v : Int64) : Int64 := if n ≤ p then v else if isL (b p) then nameOf b (nI p) (n - p) p 0 else v
/-- the model's fields at the token at p -/
def mS (F : q_FT) (b : Nat → Int32) (n p : Nat) (num : Int32) : q_FT := mpF F (nI (tkE b n p)) (nI p) (tkK b n p) num
theorem lt4 (x : Int32) : x < 4 ↔ x ≤ 3 := by
  rw [Int32.lt_iff_toInt_lt, Int32.le_iff_toInt_le, show (4 : Int32).toInt = 4 from of_decide_eq_true rfl, show (3 : Int32).toInt = 3 from of_decide_eq_true rfl]
  omega
theorem mS_13 {F : q_FT} {b : Nat → Int32} {n p : Nat} {num : Int32} : mS F b n p num 187 13 = tkK b n p := mpF_13
theorem mS_14 {F : q_FT} {b : Nat → Int32} {n p : Nat} {num : Int32} : mS F b n p num 187 14 = num := mpF_14
theorem mS_12 {F : q_FT} {b : Nat → Int32} {n p : Nat} {num : Int32} : mS F b n p num 187 12 = nI p := mpF_12
theorem mS_16 {F : q_FT} {b : Nat → Int32} {n p : Nat} {num : Int32} : mS F b n p num 187 16 = F 187 16 := mpF_16
theorem mS_10 {F : q_FT} {b : Nat → Int32} {n p : Nat} {num : Int32} : mS F b n p num 187 10 = F 187 10 := mpF_10
theorem mS_ne {F : q_FT} {b : Nat → Int32} {n p a k : Nat} {num : Int32} (h : ¬ (a = 187 ∧ 11 ≤ k ∧ k ≤ 14)) : mS F b n p num a k = F a k := by
  unfold mS mpF
  rw [if_neg (by omega), if_neg (by omega), if_neg (by omega), if_neg (by omega)]
theorem mS_u16 {F : q_FT} {b : Nat → Int32} {n p : Nat} {num x : Int32} : u2 (mS F b n p num) 187 16 x = mS (u2 F 187 16 x) b n p num := by
  unfold mS
  rw [mpF_u, if_neg (by omega), if_neg (by omega), if_neg (by omega), if_neg (by omega)]
theorem u16_10 {F : q_FT} {x : Int32} : u2 F 187 16 x 187 10 = F 187 10 := if_neg (by omega)
theorem tkK_2 {b : Nat → Int32} {n p : Nat} (h : tkK b n p = 2) : p < n ∧ ¬ isL (b p) ∧ isD (b p) ∧ nI (runTo (fun k => isD (b k)) (n - p) p) - nI p ≤ 3 := by
  unfold tkK at h
  by_cases c0 : n ≤ p
  · rw [if_pos c0] at h
    exact absurd h (by decide)
  · rw [if_neg c0] at h
    by_cases c1 : isL (b p)
    · rw [if_pos c1] at h
      exact absurd h (by decide)
    · rw [if_neg c1] at h
      by_cases c2 : isD (b p)
      · rw [if_pos c2] at h
        by_cases c3 : nI (runTo (fun k => isD (b k)) (n - p) p) - nI p ≤ 3
        · exact ⟨by omega, c1, c2, c3⟩
        · rw [if_neg c3] at h
          exact absurd h (by decide)
      · rw [if_neg c2] at h
        split at h <;> exact absurd h (by decide)
theorem mnum_c {b : Nat → Int32} {p : Nat} : ∀ (r t : Nat) (v : Int32), p ≤ t → t + r < 2 ^ 31 → runTo (fun k => isD (b k)) r t ≤ p + 3 → mnumOf b (nI p) r t v = numOf b r t v
  | 0, t, v, _, _, _ => rfl
  | r + 1, t, v, h1, h2, h3 => by
    unfold mnumOf numOf
    by_cases c : isD (b t)
    · rw [if_pos c, if_pos c]
      have e : runTo (fun k => isD (b k)) (r + 1) t = runTo (fun k => isD (b k)) r (t + 1) := if_pos c
      rw [e] at h3
      have := (runTo_le (p := fun k => isD (b k)) r (t + 1)).1
      rw [if_neg (by rw [pk_sub h1]; exact nI_ge (b := 3) (by omega) (by omega))]
      exact mnum_c r (t + 1) _ (by omega) (by omega) h3
    · rw [if_neg c, if_neg c]
theorem mtN_2 {b : Nat → Int32} {n p : Nat} {num : Int32} (h4 : n ≤ 400) (h : tkK b n p = 2) : mtN b n p num = tkV b n p := by
  obtain ⟨h1, h2, h3, h5⟩ := tkK_2 h
  unfold mtN
  rw [if_neg (by omega), if_neg h2, if_pos h3]
  have hr := runTo_le (p := fun k => isD (b k)) (n - p) p
  rw [pk_sub hr.1] at h5
  have h6 := (nI_leI (a := runTo (fun k => isD (b k)) (n - p) p - p) (b := 3) (by omega) (by omega)).mp h5
  exact mnum_c _ _ _ (Nat.le_refl _) (by omega) (by omega)
theorem mtM_1 {b : Nat → Int32} {n p : Nat} {v : Int64} (h : tkK b n p = 1) : mtM b n p v = nameOf b (nI p) (n - p) p 0 := by
  obtain ⟨h1, h2⟩ := tkK_1 h
  unfold mtM
  rw [if_neg (by omega), if_pos h2]
theorem mwd {b : Nat → Int32} {n p j : Nat} {v : Int64} (hj : j < 8) (h4 : n ≤ 400) : (tkK b n p = 1 ∧ mtM b n p v = nc j) ↔ wdA b n p j := by
  constructor
  · rintro ⟨h1, h2⟩
    rw [mtM_1 h1] at h2
    exact ⟨h1, (name_wd hj h4 h1).mp h2⟩
  · rintro ⟨h1, h2⟩
    exact ⟨h1, by rw [mtM_1 h1]; exact (name_wd hj h4 h1).mpr h2⟩
section MT
variable {S d : Nat} {P : Option Value → q_H → Nat → Nat → Prop} {SL : Nat} {xs : Nat → Int32} {F B : q_FT} {C : q_CT} {b : Nat → Int32} {n p : Nat} {num : Int32} {v : Int64}
theorem mS_next {a1 a2 a3 a4 : Int32} {t : Nat} (hn : F 187 10 = nI n) (h4 : n ≤ 400) (ht : t ≤ n) (hb : B 195 = b) (h0 : ∀ k, k < n → 0 ≤ b k) (e1 : a1 = nI t) : E 199 S (d + 1) 119 0 [some (.ref (187 : Nat)), none] [] (hp SL xs (mpF F a1 a2 a3 a4) B (u2 C 187 15 v)) P ↔ P none (hp SL xs (mS F b n (skp b n t) (mtN b n (skp b n t) a4)) B (u2 C 187 15 (mtM b n (skp b n t) v))) 199 S := by
  subst hb
  subst e1
  rw [s_next hn h4 ht h0]
  generalize skp (B 195) n t = q
  unfold mS tkE tkK mtN mtM
  by_cases c0 : n ≤ q
  · simp only [if_pos c0]
  · by_cases c1 : isL (B 195 q)
    · simp only [if_neg c0, if_pos c1, c15u]
    · by_cases c2 : isD (B 195 q)
      · simp only [if_neg c0, if_neg c1, if_pos c2, lt4]
      · simp only [if_neg c0, if_neg c1, if_neg c2]
theorem s_mnextT (hn : F 187 10 = nI n) (h4 : n ≤ 400) (hpn : p ≤ n) (hb : B 195 = b) (h0 : ∀ k, k < n → 0 ≤ b k) : E 199 S (d + 1) 119 0 [some (.ref (187 : Nat)), none] [] (hp SL xs (mS F b n p num) B (u2 C 187 15 v)) P ↔ P none (hp SL xs (mS F b n (nx b n p) (mtN b n (nx b n p) num)) B (u2 C 187 15 (mtM b n (nx b n p) v))) 199 S := mS_next hn h4 (tkE_le hpn) hb h0 rfl
theorem s_mgoesF (h : ¬ F 187 16 = 0) : E 199 S (d + 2) 122 0 [some (.ref (187 : Nat))] [] (hp SL xs F B C) P ↔ P none (hp SL xs F B C) 199 S := by
  simp only [e_122_0, e_122_1, e_122_4, e_122_7, e_122_8, e_122_11, kd_187, kd_188, kd_189, kd_190, kd_191, kd_192, kd_193, kd_194, kd_195, kd_196, kd_197, kd_198, ln_188, ln_189, ln_190, ln_191, ln_192, ln_193, ln_194, ln_195, ln_196, ln_197, ln_198, nz0, nz1, nzb, cmp0, cmpP, nl_n, nl_i, nl_r, nl_l, nl_nl, Nat.reduceAdd, Nat.reduceMul, Int32.reduceAdd, Int32.reduceSub, Int32.reduceMul, Int32.reduceLE, Int32.reduceLT, q_K_i, q_K_v, q_b0, q_bn, q_b1, z0, z1, q_bz, true_and, and_true, if_true, if_false, not_true_eq_false, not_false_eq_true, true_or, or_true, qsE_0, qsE_1, qsE_2, qsE_3, qsE_4, qsE_5, qsE_6, qsE_7, qsE_8, qsi_1, qsr_1, qsi_2, qsr_2, qsi_3, qsr_3, qsi_4, qsr_4, qsi_5, qsr_5, qsi_6, qsr_6, qsi_7, qsr_7, qsi_8, qsr_8, qsl_2, qsl_3, qsl_4, qsl_5, qsl_6, qsl_7, qsl_8, tc_0, tc_1, tc_2, tc_3, tc_4, tc_5, tc_6, tc_7, tc_8, tc_9, tc_10, tc_11, tc_12, tc_13, tc_14, tc_15, tc_16, tc_17, tc_18, tc_19, tc_20, tc_21, tc_22, tc_23, tc_24, tc_25, tc_26, tc_27, tc_28, tc_29, tc_30, tc_31, tc_32, tc_33, tc_34, tc_35, tc_36, tc_37, tc_38, tc_39, tc_40, tc_41, tc_42, tc_43, tc_44, tc_45, tc_46, tc_47, tc_48, tc_49, tc_50, tc_51, tc_52, tc_53, tc_54, tc_55, tc_56, tc_57, tc_58, tc_59, tc_60, tc_61, vq_0_48, vq_1_48, vq_2_48, vq_3_48, vq_4_48, vq_5_48, vq_6_48, vq_7_48, vq_8_48, vq_9_48, vq_10_48, vq_11_48, vq_12_48, vq_13_48, vq_14_48, vq_15_48, vq_16_48, vq_17_48, vq_18_48, vq_19_48, vq_20_48, vq_21_48, vq_22_48, vq_23_48, vq_24_48, vq_25_48, vq_26_48, vq_27_48, vq_28_48, vq_29_48, vq_30_48, vq_31_48, vq_32_48, vq_33_48, vq_34_48, vq_35_48, vq_36_48, vq_37_48, vq_38_48, vq_39_48, vq_40_48, vq_41_48, vq_42_48, vq_43_48, vq_44_48, vq_45_48, vq_46_48, vq_47_48, h]
theorem s_mgoes (h16 : F 187 16 = 0) (hn : F 187 10 = nI n) (h4 : n ≤ 400) (hpn : p ≤ n) (hb : B 195 = b) (h0 : ∀ k, k < n → 0 ≤ b k) : E 199 S (d + 2) 122 0 [some (.ref (187 : Nat))] [] (hp SL xs (mS F b n p num) B (u2 C 187 15 v)) P ↔ P none (hp SL xs (mS F b n (nx b n p) (mtN b n (nx b n p) num)) B (u2 C 187 15 (mtM b n (nx b n p) v))) 199 S := by
  simp only [e_122_0, e_122_1, e_122_4, e_122_7, e_122_8, e_122_11, kd_187, kd_188, kd_189, kd_190, kd_191, kd_192, kd_193, kd_194, kd_195, kd_196, kd_197, kd_198, ln_188, ln_189, ln_190, ln_191, ln_192, ln_193, ln_194, ln_195, ln_196, ln_197, ln_198, nz0, nz1, nzb, cmp0, cmpP, nl_n, nl_i, nl_r, nl_l, nl_nl, Nat.reduceAdd, Nat.reduceMul, Int32.reduceAdd, Int32.reduceSub, Int32.reduceMul, Int32.reduceLE, Int32.reduceLT, q_K_i, q_K_v, q_b0, q_bn, q_b1, z0, z1, q_bz, true_and, and_true, if_true, if_false, not_true_eq_false, not_false_eq_true, true_or, or_true, qsE_0, qsE_1, qsE_2, qsE_3, qsE_4, qsE_5, qsE_6, qsE_7, qsE_8, qsi_1, qsr_1, qsi_2, qsr_2, qsi_3, qsr_3, qsi_4, qsr_4, qsi_5, qsr_5, qsi_6, qsr_6, qsi_7, qsr_7, qsi_8, qsr_8, qsl_2, qsl_3, qsl_4, qsl_5, qsl_6, qsl_7, qsl_8, tc_0, tc_1, tc_2, tc_3, tc_4, tc_5, tc_6, tc_7, tc_8, tc_9, tc_10, tc_11, tc_12, tc_13, tc_14, tc_15, tc_16, tc_17, tc_18, tc_19, tc_20, tc_21, tc_22, tc_23, tc_24, tc_25, tc_26, tc_27, tc_28, tc_29, tc_30, tc_31, tc_32, tc_33, tc_34, tc_35, tc_36, tc_37, tc_38, tc_39, tc_40, tc_41, tc_42, tc_43, tc_44, tc_45, tc_46, tc_47, tc_48, tc_49, tc_50, tc_51, tc_52, tc_53, tc_54, tc_55, tc_56, tc_57, tc_58, tc_59, tc_60, tc_61, vq_0_48, vq_1_48, vq_2_48, vq_3_48, vq_4_48, vq_5_48, vq_6_48, vq_7_48, vq_8_48, vq_9_48, vq_10_48, vq_11_48, vq_12_48, vq_13_48, vq_14_48, vq_15_48, vq_16_48, vq_17_48, vq_18_48, vq_19_48, vq_20_48, vq_21_48, vq_22_48, vq_23_48, vq_24_48, vq_25_48, vq_26_48, vq_27_48, vq_28_48, vq_29_48, vq_30_48, vq_31_48, vq_32_48, vq_33_48, vq_34_48, vq_35_48, vq_36_48, vq_37_48, vq_38_48, vq_39_48, vq_40_48, vq_41_48, vq_42_48, vq_43_48, vq_44_48, vq_45_48, vq_46_48, vq_47_48, mS_16, h16, s_mnextT hn h4 hpn hb h0]
theorem s_mustF {z f : Int32} (h : ¬ F 187 16 = 0) : E 199 S d 121 0 [some (.ref (187 : Nat)), some (.int z), some (.int f)] [] (hp SL xs F B C) P ↔ P none (hp SL xs F B C) 199 S := by
  rw [s_must, if_neg (fun q => h q.1)]
theorem s_must0 {f : Int32} (h16 : F 187 16 = 0) : E 199 S d 121 0 [some (.ref (187 : Nat)), some (.int 0), some (.int f)] [] (hp SL xs (mS F b n p num) B C) P ↔ P none (hp SL xs (mS (u2 F 187 16 f) b n p num) B C) 199 S := by
  rw [s_must, if_pos ⟨mS_16.trans h16, rfl⟩, mS_u16]
theorem s_must1 {f : Int32} : E 199 S d 121 0 [some (.ref (187 : Nat)), some (.int 1), some (.int f)] [] (hp SL xs F B C) P ↔ P none (hp SL xs F B C) 199 S := by
  rw [s_must, if_neg (fun q => absurd q.2 (by decide))]
theorem s_mnumF {lo hi but : Int32} (h : ¬ F 187 16 = 0) : E 199 S (d + 3) 123 0 [some (.ref (187 : Nat)), some (.int lo), some (.int hi), some (.int but), none] [] (hp SL xs F B C) P ↔ P (some (.int (F 187 14))) (hp SL xs F B C) 199 S := by
  by_cases c1 : F 187 13 = 2 <;> by_cases c2 : lo ≤ F 187 14 ∧ F 187 14 ≤ hi <;> by_cases c3 : F 187 14 = but <;> simp only [e_123_0, e_123_1, e_123_2, e_123_5, e_123_6, e_123_9, e_123_10, e_123_13, e_123_14, e_123_15, e_123_18, e_123_19, e_123_20, e_123_23, e_123_24, e_123_25, e_123_28, e_123_31, e_123_32, e_123_35, e_123_36, e_123_39, e_123_40, e_123_43, e_123_44, e_123_45, e_123_48, e_123_49, e_123_52, e_123_54, e_123_55, e_123_58, e_123_60, kd_187, kd_188, kd_189, kd_190, kd_191, kd_192, kd_193, kd_194, kd_195, kd_196, kd_197, kd_198, ln_188, ln_189, ln_190, ln_191, ln_192, ln_193, ln_194, ln_195, ln_196, ln_197, ln_198, nz0, nz1, nzb, cmp0, cmpP, nl_n, nl_i, nl_r, nl_l, nl_nl, Nat.reduceAdd, Nat.reduceMul, Int32.reduceAdd, Int32.reduceSub, Int32.reduceMul, Int32.reduceLE, Int32.reduceLT, q_K_i, q_K_v, q_b0, q_bn, q_b1, z0, z1, q_bz, true_and, and_true, if_true, if_false, not_true_eq_false, not_false_eq_true, true_or, or_true, qsE_0, qsE_1, qsE_2, qsE_3, qsE_4, qsE_5, qsE_6, qsE_7, qsE_8, qsi_1, qsr_1, qsi_2, qsr_2, qsi_3, qsr_3, qsi_4, qsr_4, qsi_5, qsr_5, qsi_6, qsr_6, qsi_7, qsr_7, qsi_8, qsr_8, qsl_2, qsl_3, qsl_4, qsl_5, qsl_6, qsl_7, qsl_8, tc_0, tc_1, tc_2, tc_3, tc_4, tc_5, tc_6, tc_7, tc_8, tc_9, tc_10, tc_11, tc_12, tc_13, tc_14, tc_15, tc_16, tc_17, tc_18, tc_19, tc_20, tc_21, tc_22, tc_23, tc_24, tc_25, tc_26, tc_27, tc_28, tc_29, tc_30, tc_31, tc_32, tc_33, tc_34, tc_35, tc_36, tc_37, tc_38, tc_39, tc_40, tc_41, tc_42, tc_43, tc_44, tc_45, tc_46, tc_47, tc_48, tc_49, tc_50, tc_51, tc_52, tc_53, tc_54, tc_55, tc_56, tc_57, tc_58, tc_59, tc_60, tc_61, vq_0_48, vq_1_48, vq_2_48, vq_3_48, vq_4_48, vq_5_48, vq_6_48, vq_7_48, vq_8_48, vq_9_48, vq_10_48, vq_11_48, vq_12_48, vq_13_48, vq_14_48, vq_15_48, vq_16_48, vq_17_48, vq_18_48, vq_19_48, vq_20_48, vq_21_48, vq_22_48, vq_23_48, vq_24_48, vq_25_48, vq_26_48, vq_27_48, vq_28_48, vq_29_48, vq_30_48, vq_31_48, vq_32_48, vq_33_48, vq_34_48, vq_35_48, vq_36_48, vq_37_48, vq_38_48, vq_39_48, vq_40_48, vq_41_48, vq_42_48, vq_43_48, vq_44_48, vq_45_48, vq_46_48, vq_47_48, s_mustF h, s_mgoesF h, s_in, c1, c2, c3, and_self] <;> simp [q_b, c2]
/-- the fault of a number that is told at p and isn't `but` -/
def mnO (b : Nat → Int32) (n p : Nat) (lo hi but : Int32) : Int32 := if tkK b n p = 2 then (if (lo ≤ tkV b n p ∧ tkV b n p ≤ hi) ∧ ¬ tkV b n p = but then 0 else 2) else 1
end MT
