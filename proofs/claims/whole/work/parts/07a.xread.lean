/-! METHODS: the class reads a crossing, a carrier, a load -/
/-- the token at p: its sort, its end, the number that stands then, the next token's place -/
def tkK (b : Nat → Int32) (n p : Nat) : Int32 := if n ≤ p then 0 else if isL (b p) then 1 else if isD (b p) then (if nI (runTo (fun k => isD (b k)) (n - p) p) - nI p ≤ 3 then 2 else 4) else if b p = 59 then 3 else 4
def tkE (b : Nat → Int32) (n p : Nat) : Nat := if n ≤ p then p else if isL (b p) then runTo (fun k => isL (b k)) (n - p) p else if isD (b p) then runTo (fun k => isD (b k)) (n - p) p else p + 1
def tkN (b : Nat → Int32) (n p : Nat) (num : Int32) : Int32 := if n ≤ p then num else if isL (b p) then num else if isD (b p) then numOf b (n - p) p 0 else num
abbrev tkV (b : Nat → Int32) (n p : Nat) : Int32 := numOf b (n - p) p 0
def nx (b : Nat → Int32) (n p : Nat) : Nat := skp b n (tkE b n p)
def tkF (F : q_FT) (b : Nat → Int32) (n p : Nat) (num : Int32) : q_FT := tpF F (tkK b n p) num (nI p) (nI (tkE b n p))
def flt (F : q_FT) (f : Int32) (p : Nat) : q_FT := u2 (u2 F 13 7 f) 13 8 (nI p)
abbrev wdA (b : Nat → Int32) (n p j : Nat) : Prop := isWd b (tkK b n p) p (tkE b n p) j
def srA (b : Nat → Int32) (n p : Nat) : Int32 := sortOf b (tkK b n p) p (tkE b n p)
/-- the fault of a number that is told at p -/
def nuO (b : Nat → Int32) (n p : Nat) (lo hi : Int32) : Int32 := if tkK b n p = 2 then (if lo ≤ tkV b n p ∧ tkV b n p ≤ hi then 0 else 2) else 1
theorem adv_tk {F : q_FT} {b : Nat → Int32} {n p : Nat} {num : Int32} : adv F b n p num = tkF F b n p (tkN b n p num) := by
  unfold adv tkF tkK tkN tkE
  by_cases c0 : n ≤ p
  · simp only [c0, if_true]
  · by_cases c1 : isL (b p)
    · simp only [if_neg c0, if_pos c1]
    · by_cases c2 : isD (b p)
      · simp only [if_neg c0, if_neg c1, if_pos c2]
      · simp only [if_neg c0, if_neg c1, if_neg c2]
theorem tkE_ge {b : Nat → Int32} {n p : Nat} : p ≤ tkE b n p := by
  unfold tkE
  split
  · omega
  · split
    · exact (runTo_le _ _).1
    · split
      · exact (runTo_le _ _).1
      · omega
theorem tkE_le {b : Nat → Int32} {n p : Nat} (h : p ≤ n) : tkE b n p ≤ n := by
  unfold tkE
  split
  · omega
  · split
    · have := (runTo_le (p := fun k => isL (b k)) (n - p) p).2
      omega
    · split
      · have := (runTo_le (p := fun k => isD (b k)) (n - p) p).2
        omega
      · omega
theorem skp_le {b : Nat → Int32} {n t : Nat} (h : t ≤ n) : skp b n t ≤ n := by
  have := (runTo_le (p := fun k => isW (b k)) (n - t) t).2
  unfold skp
  omega
theorem nx_le {b : Nat → Int32} {n p : Nat} (h : p ≤ n) : nx b n p ≤ n := skp_le (tkE_le h)
theorem tkN_2 {b : Nat → Int32} {n p : Nat} {num : Int32} (h : tkK b n p = 2) : tkN b n p num = tkV b n p := by
  unfold tkK at h
  unfold tkN
  by_cases c0 : n ≤ p
  · rw [if_pos c0] at h
    exact absurd h (by decide)
  · rw [if_neg c0] at h ⊢
    by_cases c1 : isL (b p)
    · rw [if_pos c1] at h
      exact absurd h (by decide)
    · rw [if_neg c1] at h ⊢
      by_cases c2 : isD (b p)
      · rw [if_pos c2]
      · rw [if_neg c2] at h
        split at h <;> exact absurd h (by decide)
theorem tkF_3 {F : q_FT} {b : Nat → Int32} {n p : Nat} {num : Int32} : tkF F b n p num 13 3 = tkK b n p := tpF_3
theorem tkF_4 {F : q_FT} {b : Nat → Int32} {n p : Nat} {num : Int32} : tkF F b n p num 13 4 = num := tpF_4
theorem tkF_5 {F : q_FT} {b : Nat → Int32} {n p : Nat} {num : Int32} : tkF F b n p num 13 5 = nI p := tpF_5
theorem tkF_1 {F : q_FT} {b : Nat → Int32} {n p : Nat} {num : Int32} : tkF F b n p num 13 1 = F 13 1 := tpF_1
theorem tkF_15 {F : q_FT} {b : Nat → Int32} {n p k : Nat} {num : Int32} : tkF F b n p num 15 k = F 15 k := tpF_ne (by omega)
theorem tkF_21 {F : q_FT} {b : Nat → Int32} {n p k : Nat} {num : Int32} : tkF F b n p num 21 k = F 21 k := tpF_ne (by omega)
theorem tkF_ne {F : q_FT} {b : Nat → Int32} {n p a k : Nat} {num : Int32} (h : ¬ (a = 13 ∧ 3 ≤ k ∧ k ≤ 6)) : tkF F b n p num a k = F a k := by
  unfold tkF tpF
  rw [if_neg (by omega), if_neg (by omega), if_neg (by omega), if_neg (by omega)]
theorem tpF_un {F : q_FT} {tok num fr to x : Int32} {a k : Nat} (h : ¬ (a = 13 ∧ 3 ≤ k ∧ k ≤ 6)) : u2 (tpF F tok num fr to) a k x = tpF (u2 F a k x) tok num fr to := by
  funext b j
  unfold u2 tpF
  by_cases hb : b = a ∧ j = k
  · obtain ⟨rfl, rfl⟩ := hb
    rw [if_pos ⟨rfl, rfl⟩, if_neg (by omega), if_neg (by omega), if_neg (by omega), if_neg (by omega)]
    exact (if_pos ⟨rfl, rfl⟩).symm
  · rw [if_neg hb]
    simp only [hb, if_false]
theorem tkF_u7 {F : q_FT} {b : Nat → Int32} {n p : Nat} {num x : Int32} : u2 (tkF F b n p num) 13 7 x = tkF (u2 F 13 7 x) b n p num := tpF_un (by omega)
theorem tkF_u8 {F : q_FT} {b : Nat → Int32} {n p : Nat} {num x : Int32} : u2 (tkF F b n p num) 13 8 x = tkF (u2 F 13 8 x) b n p num := tpF_un (by omega)
theorem tkF_u15 {F : q_FT} {b : Nat → Int32} {n p k : Nat} {num x : Int32} : u2 (tkF F b n p num) 15 k x = tkF (u2 F 15 k x) b n p num := tpF_un (by omega)
theorem tkF_u21 {F : q_FT} {b : Nat → Int32} {n p k : Nat} {num x : Int32} : u2 (tkF F b n p num) 21 k x = tkF (u2 F 21 k x) b n p num := tpF_un (by omega)
theorem u2_15_13 {F : q_FT} {j k : Nat} {x : Int32} : u2 F 15 j x 13 k = F 13 k := if_neg (by omega)
theorem u2_21_13 {F : q_FT} {j k : Nat} {x : Int32} : u2 F 21 j x 13 k = F 13 k := if_neg (by omega)
theorem u2_15_21 {F : q_FT} {j k : Nat} {x : Int32} : u2 F 15 j x 21 k = F 21 k := if_neg (by omega)
theorem u2_21_15 {F : q_FT} {j k : Nat} {x : Int32} : u2 F 21 j x 15 k = F 15 k := if_neg (by omega)
theorem u2_r {α : Type} {B : Nat → Nat → α} {a b j : Nat} {x : α} (h : ¬ b = a) : u2 B a j x b = B b := funext fun k => if_neg (fun z => h z.1)
theorem u2_16_14 {B : q_FT} {j : Nat} {x : Int32} : u2 B 16 j x 14 = B 14 := u2_r (by omega)
theorem u2_17_14 {B : q_FT} {j : Nat} {x : Int32} : u2 B 17 j x 14 = B 14 := u2_r (by omega)
theorem u2_18_14 {B : q_FT} {j : Nat} {x : Int32} : u2 B 18 j x 14 = B 14 := u2_r (by omega)
theorem u2_19_14 {B : q_FT} {j : Nat} {x : Int32} : u2 B 19 j x 14 = B 14 := u2_r (by omega)
theorem u2_20_14 {B : q_FT} {j : Nat} {x : Int32} : u2 B 20 j x 14 = B 14 := u2_r (by omega)
theorem u2_22_14 {B : q_FT} {j : Nat} {x : Int32} : u2 B 22 j x 14 = B 14 := u2_r (by omega)
theorem u2_23_14 {B : q_FT} {j : Nat} {x : Int32} : u2 B 23 j x 14 = B 14 := u2_r (by omega)
theorem u2_24_14 {B : q_FT} {j : Nat} {x : Int32} : u2 B 24 j x 14 = B 14 := u2_r (by omega)
theorem u2_25_14 {B : q_FT} {j : Nat} {x : Int32} : u2 B 25 j x 14 = B 14 := u2_r (by omega)
theorem u2_22_16 {B : q_FT} {j : Nat} {x : Int32} : u2 B 22 j x 16 = B 16 := u2_r (by omega)
theorem u2_s {α : Type} {B : Nat → Nat → α} {a j : Nat} {x : α} : u2 B a j x a j = x := if_pos ⟨rfl, rfl⟩
section XR
variable {S d : Nat} {P : Option Value → q_H → Nat → Nat → Prop} {SL : Nat} {xs : Nat → Int32} {F B : q_FT} {C : q_CT} {b : Nat → Int32} {n p : Nat} {num : Int32}
theorem s_advT (hn : F 13 1 = nI n) (h4 : n ≤ 400) (hpn : p ≤ n) (hb : B 14 = b) : E 199 S (d + 2) 63 0 [some (.ref (13 : Nat))] [] (hp SL xs (tkF F b n p num) B C) P ↔ P none (hp SL xs (tkF F b n (nx b n p) (tkN b n (nx b n p) num)) B C) 199 S := by
  subst hb
  unfold tkF
  rw [s_adv hn h4 (tkE_le hpn), adv_tk]
  rfl
theorem s_failT {f : Int32} : E 199 S d 60 0 [some (.ref (13 : Nat)), some (.int f)] [] (hp SL xs (tkF F b n p num) B C) P ↔ P (some (.int 0)) (hp SL xs (tkF (flt F f p) b n p num) B C) 199 S := by
  rw [s_failWith, tkF_5, tkF_u7, tkF_u8]
  rfl
theorem s_wT0 (h4 : n ≤ 400) (hpn : p ≤ n) (hb : B 14 = b) : E 199 S (d + 4) 62 0 [some (.ref (13 : Nat)), some (.ref (1000 : Nat)), none] [] (hp SL xs (tkF F b n p num) B C) P ↔ P (some (.int (q_b (wdA b n p 0)))) (hp SL xs (tkF F b n p num) B C) 199 S := by
  subst hb
  unfold tkF
  have := tkE_le (b := B 14) hpn
  exact s_w0 tkE_ge (by omega)
theorem s_wT1 (h4 : n ≤ 400) (hpn : p ≤ n) (hb : B 14 = b) : E 199 S (d + 4) 62 0 [some (.ref (13 : Nat)), some (.ref (1001 : Nat)), none] [] (hp SL xs (tkF F b n p num) B C) P ↔ P (some (.int (q_b (wdA b n p 1)))) (hp SL xs (tkF F b n p num) B C) 199 S := by
  subst hb
  unfold tkF
  have := tkE_le (b := B 14) hpn
  exact s_w1 tkE_ge (by omega)
theorem s_wT2 (h4 : n ≤ 400) (hpn : p ≤ n) (hb : B 14 = b) : E 199 S (d + 4) 62 0 [some (.ref (13 : Nat)), some (.ref (1002 : Nat)), none] [] (hp SL xs (tkF F b n p num) B C) P ↔ P (some (.int (q_b (wdA b n p 2)))) (hp SL xs (tkF F b n p num) B C) 199 S := by
  subst hb
  unfold tkF
  have := tkE_le (b := B 14) hpn
  exact s_w2 tkE_ge (by omega)
theorem s_sortT (h4 : n ≤ 400) (hpn : p ≤ n) (hb : B 14 = b) : E 199 S (d + 5) 61 0 [some (.ref (13 : Nat))] [] (hp SL xs (tkF F b n p num) B C) P ↔ P (some (.int (srA b n p))) (hp SL xs (tkF F b n p num) B C) 199 S := by
  subst hb
  unfold tkF
  have := tkE_le (b := B 14) hpn
  exact s_sortNamed tkE_ge (by omega)
theorem s_xreadNum {lo hi : Int32} (hn : F 13 1 = nI n) (h4 : n ≤ 400) (hpn : p ≤ n) (hb : B 14 = b) : E 199 S (d + 3) 58 0 [some (.ref (13 : Nat)), some (.int lo), some (.int hi)] [] (hp SL xs (tkF F b n p num) B C) P ↔
    if nuO b n (nx b n p) lo hi = 0 then P (some (.int 1)) (hp SL xs (tkF F b n (nx b n p) (tkV b n (nx b n p))) B C) 199 S else P (some (.int 0)) (hp SL xs (tkF (flt F (nuO b n (nx b n p) lo hi) (nx b n p)) b n (nx b n p) (tkN b n (nx b n p) num)) B C) 199 S := by
  have m2 : ¬ (2 : Int32) = 0 := by decide
  have m1 : ¬ (1 : Int32) = 0 := by decide
  by_cases c1 : tkK b n (nx b n p) = 2
  · have e1 := tkN_2 (num := num) c1
    by_cases c2 : lo ≤ tkV b n (nx b n p) ∧ tkV b n (nx b n p) ≤ hi
    · have e : nuO b n (nx b n p) lo hi = 0 := by unfold nuO; rw [if_pos c1, if_pos c2]
      rw [e, if_pos rfl]
      simp only [e_58_0, e_58_1, e_58_4, e_58_5, e_58_8, e_58_9, e_58_12, e_58_13, e_58_14, e_58_17, e_58_18, e_58_19, e_58_22, e_58_23, e_58_26, e_58_27, e_58_30, e_58_31, e_58_34, e_58_35, e_58_36, e_58_39, e_58_42, e_58_43, e_58_46, e_58_47, kd_187, kd_188, kd_189, kd_190, kd_191, kd_192, kd_193, kd_194, kd_195, kd_196, kd_197, kd_198, ln_188, ln_189, ln_190, ln_191, ln_192, ln_193, ln_194, ln_195, ln_196, ln_197, ln_198, nz0, nz1, nzb, cmp0, cmpP, nl_n, nl_i, nl_r, nl_l, nl_nl, Nat.reduceAdd, Nat.reduceMul, Int32.reduceAdd, Int32.reduceSub, Int32.reduceMul, Int32.reduceLE, Int32.reduceLT, q_K_i, q_K_v, q_b0, q_bn, q_b1, z0, z1, q_bz, true_and, and_true, if_true, if_false, not_true_eq_false, not_false_eq_true, true_or, or_true, qsE_0, qsE_1, qsE_2, qsE_3, qsE_4, qsE_5, qsE_6, qsE_7, qsE_8, qsi_1, qsr_1, qsi_2, qsr_2, qsi_3, qsr_3, qsi_4, qsr_4, qsi_5, qsr_5, qsi_6, qsr_6, qsi_7, qsr_7, qsi_8, qsr_8, qsl_2, qsl_3, qsl_4, qsl_5, qsl_6, qsl_7, qsl_8, tc_0, tc_1, tc_2, tc_3, tc_4, tc_5, tc_6, tc_7, tc_8, tc_9, tc_10, tc_11, tc_12, tc_13, tc_14, tc_15, tc_16, tc_17, tc_18, tc_19, tc_20, tc_21, tc_22, tc_23, tc_24, tc_25, tc_26, tc_27, tc_28, tc_29, tc_30, tc_31, tc_32, tc_33, tc_34, tc_35, tc_36, tc_37, tc_38, tc_39, tc_40, tc_41, tc_42, tc_43, tc_44, tc_45, tc_46, tc_47, tc_48, tc_49, tc_50, tc_51, tc_52, tc_53, tc_54, tc_55, tc_56, tc_57, tc_58, tc_59, tc_60, tc_61, vq_0_48, vq_1_48, vq_2_48, vq_3_48, vq_4_48, vq_5_48, vq_6_48, vq_7_48, vq_8_48, vq_9_48, vq_10_48, vq_11_48, vq_12_48, vq_13_48, vq_14_48, vq_15_48, vq_16_48, vq_17_48, vq_18_48, vq_19_48, vq_20_48, vq_21_48, vq_22_48, vq_23_48, vq_24_48, vq_25_48, vq_26_48, vq_27_48, vq_28_48, vq_29_48, vq_30_48, vq_31_48, vq_32_48, vq_33_48, vq_34_48, vq_35_48, vq_36_48, vq_37_48, vq_38_48, vq_39_48, vq_40_48, vq_41_48, vq_42_48, vq_43_48, vq_44_48, vq_45_48, vq_46_48, vq_47_48, kd_0, kd_1, kd_2, kd_3, kd_4, kd_13, kd_14, kd_15, kd_16, kd_17, kd_18, kd_19, kd_20, kd_21, kd_22, kd_23, kd_24, kd_25, kd_26, kd_27, kd_28, kd_29, kd_30, kd_31, kd_32, kd_33, kd_34, kd_35, kd_36, kd_37, kd_38, kd_159, kd_182, kd_183, kd_184, kd_185, kd_186, ln_2, ln_3, ln_4, ln_14, ln_16, ln_17, ln_18, ln_19, ln_20, ln_22, ln_23, ln_24, ln_25, ln_27, ln_28, ln_29, ln_30, ln_31, ln_33, ln_34, ln_35, ln_36, ln_38, ln_159, ln_183, ln_184, ln_186, s_advT hn h4 hpn hb, tkF_3, tkF_4, c1, e1, c2.1, c2.2, Int32.not_lt.mpr c2.1]
    · have e : nuO b n (nx b n p) lo hi = 2 := by unfold nuO; rw [if_pos c1, if_neg c2]
      rw [e, if_neg m2]
      by_cases c3 : lo ≤ tkV b n (nx b n p)
      · have c4 : ¬ tkV b n (nx b n p) ≤ hi := fun z => c2 ⟨c3, z⟩
        simp only [e_58_0, e_58_1, e_58_4, e_58_5, e_58_8, e_58_9, e_58_12, e_58_13, e_58_14, e_58_17, e_58_18, e_58_19, e_58_22, e_58_23, e_58_26, e_58_27, e_58_30, e_58_31, e_58_34, e_58_35, e_58_36, e_58_39, e_58_42, e_58_43, e_58_46, e_58_47, kd_187, kd_188, kd_189, kd_190, kd_191, kd_192, kd_193, kd_194, kd_195, kd_196, kd_197, kd_198, ln_188, ln_189, ln_190, ln_191, ln_192, ln_193, ln_194, ln_195, ln_196, ln_197, ln_198, nz0, nz1, nzb, cmp0, cmpP, nl_n, nl_i, nl_r, nl_l, nl_nl, Nat.reduceAdd, Nat.reduceMul, Int32.reduceAdd, Int32.reduceSub, Int32.reduceMul, Int32.reduceLE, Int32.reduceLT, q_K_i, q_K_v, q_b0, q_bn, q_b1, z0, z1, q_bz, true_and, and_true, if_true, if_false, not_true_eq_false, not_false_eq_true, true_or, or_true, qsE_0, qsE_1, qsE_2, qsE_3, qsE_4, qsE_5, qsE_6, qsE_7, qsE_8, qsi_1, qsr_1, qsi_2, qsr_2, qsi_3, qsr_3, qsi_4, qsr_4, qsi_5, qsr_5, qsi_6, qsr_6, qsi_7, qsr_7, qsi_8, qsr_8, qsl_2, qsl_3, qsl_4, qsl_5, qsl_6, qsl_7, qsl_8, tc_0, tc_1, tc_2, tc_3, tc_4, tc_5, tc_6, tc_7, tc_8, tc_9, tc_10, tc_11, tc_12, tc_13, tc_14, tc_15, tc_16, tc_17, tc_18, tc_19, tc_20, tc_21, tc_22, tc_23, tc_24, tc_25, tc_26, tc_27, tc_28, tc_29, tc_30, tc_31, tc_32, tc_33, tc_34, tc_35, tc_36, tc_37, tc_38, tc_39, tc_40, tc_41, tc_42, tc_43, tc_44, tc_45, tc_46, tc_47, tc_48, tc_49, tc_50, tc_51, tc_52, tc_53, tc_54, tc_55, tc_56, tc_57, tc_58, tc_59, tc_60, tc_61, vq_0_48, vq_1_48, vq_2_48, vq_3_48, vq_4_48, vq_5_48, vq_6_48, vq_7_48, vq_8_48, vq_9_48, vq_10_48, vq_11_48, vq_12_48, vq_13_48, vq_14_48, vq_15_48, vq_16_48, vq_17_48, vq_18_48, vq_19_48, vq_20_48, vq_21_48, vq_22_48, vq_23_48, vq_24_48, vq_25_48, vq_26_48, vq_27_48, vq_28_48, vq_29_48, vq_30_48, vq_31_48, vq_32_48, vq_33_48, vq_34_48, vq_35_48, vq_36_48, vq_37_48, vq_38_48, vq_39_48, vq_40_48, vq_41_48, vq_42_48, vq_43_48, vq_44_48, vq_45_48, vq_46_48, vq_47_48, kd_0, kd_1, kd_2, kd_3, kd_4, kd_13, kd_14, kd_15, kd_16, kd_17, kd_18, kd_19, kd_20, kd_21, kd_22, kd_23, kd_24, kd_25, kd_26, kd_27, kd_28, kd_29, kd_30, kd_31, kd_32, kd_33, kd_34, kd_35, kd_36, kd_37, kd_38, kd_159, kd_182, kd_183, kd_184, kd_185, kd_186, ln_2, ln_3, ln_4, ln_14, ln_16, ln_17, ln_18, ln_19, ln_20, ln_22, ln_23, ln_24, ln_25, ln_27, ln_28, ln_29, ln_30, ln_31, ln_33, ln_34, ln_35, ln_36, ln_38, ln_159, ln_183, ln_184, ln_186, s_advT hn h4 hpn hb, s_failT, tkF_3, tkF_4, c1, e1, c3, c4, Int32.not_lt.mpr c3]
      · simp only [e_58_0, e_58_1, e_58_4, e_58_5, e_58_8, e_58_9, e_58_12, e_58_13, e_58_14, e_58_17, e_58_18, e_58_19, e_58_22, e_58_23, e_58_26, e_58_27, e_58_30, e_58_31, e_58_34, e_58_35, e_58_36, e_58_39, e_58_42, e_58_43, e_58_46, e_58_47, kd_187, kd_188, kd_189, kd_190, kd_191, kd_192, kd_193, kd_194, kd_195, kd_196, kd_197, kd_198, ln_188, ln_189, ln_190, ln_191, ln_192, ln_193, ln_194, ln_195, ln_196, ln_197, ln_198, nz0, nz1, nzb, cmp0, cmpP, nl_n, nl_i, nl_r, nl_l, nl_nl, Nat.reduceAdd, Nat.reduceMul, Int32.reduceAdd, Int32.reduceSub, Int32.reduceMul, Int32.reduceLE, Int32.reduceLT, q_K_i, q_K_v, q_b0, q_bn, q_b1, z0, z1, q_bz, true_and, and_true, if_true, if_false, not_true_eq_false, not_false_eq_true, true_or, or_true, qsE_0, qsE_1, qsE_2, qsE_3, qsE_4, qsE_5, qsE_6, qsE_7, qsE_8, qsi_1, qsr_1, qsi_2, qsr_2, qsi_3, qsr_3, qsi_4, qsr_4, qsi_5, qsr_5, qsi_6, qsr_6, qsi_7, qsr_7, qsi_8, qsr_8, qsl_2, qsl_3, qsl_4, qsl_5, qsl_6, qsl_7, qsl_8, tc_0, tc_1, tc_2, tc_3, tc_4, tc_5, tc_6, tc_7, tc_8, tc_9, tc_10, tc_11, tc_12, tc_13, tc_14, tc_15, tc_16, tc_17, tc_18, tc_19, tc_20, tc_21, tc_22, tc_23, tc_24, tc_25, tc_26, tc_27, tc_28, tc_29, tc_30, tc_31, tc_32, tc_33, tc_34, tc_35, tc_36, tc_37, tc_38, tc_39, tc_40, tc_41, tc_42, tc_43, tc_44, tc_45, tc_46, tc_47, tc_48, tc_49, tc_50, tc_51, tc_52, tc_53, tc_54, tc_55, tc_56, tc_57, tc_58, tc_59, tc_60, tc_61, vq_0_48, vq_1_48, vq_2_48, vq_3_48, vq_4_48, vq_5_48, vq_6_48, vq_7_48, vq_8_48, vq_9_48, vq_10_48, vq_11_48, vq_12_48, vq_13_48, vq_14_48, vq_15_48, vq_16_48, vq_17_48, vq_18_48, vq_19_48, vq_20_48, vq_21_48, vq_22_48, vq_23_48, vq_24_48, vq_25_48, vq_26_48, vq_27_48, vq_28_48, vq_29_48, vq_30_48, vq_31_48, vq_32_48, vq_33_48, vq_34_48, vq_35_48, vq_36_48, vq_37_48, vq_38_48, vq_39_48, vq_40_48, vq_41_48, vq_42_48, vq_43_48, vq_44_48, vq_45_48, vq_46_48, vq_47_48, kd_0, kd_1, kd_2, kd_3, kd_4, kd_13, kd_14, kd_15, kd_16, kd_17, kd_18, kd_19, kd_20, kd_21, kd_22, kd_23, kd_24, kd_25, kd_26, kd_27, kd_28, kd_29, kd_30, kd_31, kd_32, kd_33, kd_34, kd_35, kd_36, kd_37, kd_38, kd_159, kd_182, kd_183, kd_184, kd_185, kd_186, ln_2, ln_3, ln_4, ln_14, ln_16, ln_17, ln_18, ln_19, ln_20, ln_22, ln_23, ln_24, ln_25, ln_27, ln_28, ln_29, ln_30, ln_31, ln_33, ln_34, ln_35, ln_36, ln_38, ln_159, ln_183, ln_184, ln_186, s_advT hn h4 hpn hb, s_failT, tkF_3, tkF_4, c1, e1, Int32.not_le.mp c3]
  · have e : nuO b n (nx b n p) lo hi = 1 := by unfold nuO; rw [if_neg c1]
    rw [e, if_neg m1]
    simp only [e_58_0, e_58_1, e_58_4, e_58_5, e_58_8, e_58_9, e_58_12, e_58_13, e_58_14, e_58_17, e_58_18, e_58_19, e_58_22, e_58_23, e_58_26, e_58_27, e_58_30, e_58_31, e_58_34, e_58_35, e_58_36, e_58_39, e_58_42, e_58_43, e_58_46, e_58_47, kd_187, kd_188, kd_189, kd_190, kd_191, kd_192, kd_193, kd_194, kd_195, kd_196, kd_197, kd_198, ln_188, ln_189, ln_190, ln_191, ln_192, ln_193, ln_194, ln_195, ln_196, ln_197, ln_198, nz0, nz1, nzb, cmp0, cmpP, nl_n, nl_i, nl_r, nl_l, nl_nl, Nat.reduceAdd, Nat.reduceMul, Int32.reduceAdd, Int32.reduceSub, Int32.reduceMul, Int32.reduceLE, Int32.reduceLT, q_K_i, q_K_v, q_b0, q_bn, q_b1, z0, z1, q_bz, true_and, and_true, if_true, if_false, not_true_eq_false, not_false_eq_true, true_or, or_true, qsE_0, qsE_1, qsE_2, qsE_3, qsE_4, qsE_5, qsE_6, qsE_7, qsE_8, qsi_1, qsr_1, qsi_2, qsr_2, qsi_3, qsr_3, qsi_4, qsr_4, qsi_5, qsr_5, qsi_6, qsr_6, qsi_7, qsr_7, qsi_8, qsr_8, qsl_2, qsl_3, qsl_4, qsl_5, qsl_6, qsl_7, qsl_8, tc_0, tc_1, tc_2, tc_3, tc_4, tc_5, tc_6, tc_7, tc_8, tc_9, tc_10, tc_11, tc_12, tc_13, tc_14, tc_15, tc_16, tc_17, tc_18, tc_19, tc_20, tc_21, tc_22, tc_23, tc_24, tc_25, tc_26, tc_27, tc_28, tc_29, tc_30, tc_31, tc_32, tc_33, tc_34, tc_35, tc_36, tc_37, tc_38, tc_39, tc_40, tc_41, tc_42, tc_43, tc_44, tc_45, tc_46, tc_47, tc_48, tc_49, tc_50, tc_51, tc_52, tc_53, tc_54, tc_55, tc_56, tc_57, tc_58, tc_59, tc_60, tc_61, vq_0_48, vq_1_48, vq_2_48, vq_3_48, vq_4_48, vq_5_48, vq_6_48, vq_7_48, vq_8_48, vq_9_48, vq_10_48, vq_11_48, vq_12_48, vq_13_48, vq_14_48, vq_15_48, vq_16_48, vq_17_48, vq_18_48, vq_19_48, vq_20_48, vq_21_48, vq_22_48, vq_23_48, vq_24_48, vq_25_48, vq_26_48, vq_27_48, vq_28_48, vq_29_48, vq_30_48, vq_31_48, vq_32_48, vq_33_48, vq_34_48, vq_35_48, vq_36_48, vq_37_48, vq_38_48, vq_39_48, vq_40_48, vq_41_48, vq_42_48, vq_43_48, vq_44_48, vq_45_48, vq_46_48, vq_47_48, kd_0, kd_1, kd_2, kd_3, kd_4, kd_13, kd_14, kd_15, kd_16, kd_17, kd_18, kd_19, kd_20, kd_21, kd_22, kd_23, kd_24, kd_25, kd_26, kd_27, kd_28, kd_29, kd_30, kd_31, kd_32, kd_33, kd_34, kd_35, kd_36, kd_37, kd_38, kd_159, kd_182, kd_183, kd_184, kd_185, kd_186, ln_2, ln_3, ln_4, ln_14, ln_16, ln_17, ln_18, ln_19, ln_20, ln_22, ln_23, ln_24, ln_25, ln_27, ln_28, ln_29, ln_30, ln_31, ln_33, ln_34, ln_35, ln_36, ln_38, ln_159, ln_183, ln_184, ln_186, s_advT hn h4 hpn hb, s_failT, tkF_3, tkF_4, c1]
theorem s_xreadEnd (hn : F 13 1 = nI n) (h4 : n ≤ 400) (hpn : p ≤ n) (hb : B 14 = b) : E 199 S (d + 3) 59 0 [some (.ref (13 : Nat))] [] (hp SL xs (tkF F b n p num) B C) P ↔
    if tkK b n (nx b n p) = 3 then P (some (.int 1)) (hp SL xs (tkF F b n (nx b n (nx b n p)) (tkN b n (nx b n (nx b n p)) (tkN b n (nx b n p) num))) B C) 199 S else P (some (.int 0)) (hp SL xs (tkF (flt F 1 (nx b n p)) b n (nx b n p) (tkN b n (nx b n p) num)) B C) 199 S := by
  by_cases c1 : tkK b n (nx b n p) = 3
  · rw [if_pos c1]
    simp only [e_59_0, e_59_1, e_59_4, e_59_5, e_59_8, e_59_9, e_59_12, e_59_13, e_59_14, e_59_17, e_59_18, e_59_19, e_59_22, e_59_23, kd_187, kd_188, kd_189, kd_190, kd_191, kd_192, kd_193, kd_194, kd_195, kd_196, kd_197, kd_198, ln_188, ln_189, ln_190, ln_191, ln_192, ln_193, ln_194, ln_195, ln_196, ln_197, ln_198, nz0, nz1, nzb, cmp0, cmpP, nl_n, nl_i, nl_r, nl_l, nl_nl, Nat.reduceAdd, Nat.reduceMul, Int32.reduceAdd, Int32.reduceSub, Int32.reduceMul, Int32.reduceLE, Int32.reduceLT, q_K_i, q_K_v, q_b0, q_bn, q_b1, z0, z1, q_bz, true_and, and_true, if_true, if_false, not_true_eq_false, not_false_eq_true, true_or, or_true, qsE_0, qsE_1, qsE_2, qsE_3, qsE_4, qsE_5, qsE_6, qsE_7, qsE_8, qsi_1, qsr_1, qsi_2, qsr_2, qsi_3, qsr_3, qsi_4, qsr_4, qsi_5, qsr_5, qsi_6, qsr_6, qsi_7, qsr_7, qsi_8, qsr_8, qsl_2, qsl_3, qsl_4, qsl_5, qsl_6, qsl_7, qsl_8, tc_0, tc_1, tc_2, tc_3, tc_4, tc_5, tc_6, tc_7, tc_8, tc_9, tc_10, tc_11, tc_12, tc_13, tc_14, tc_15, tc_16, tc_17, tc_18, tc_19, tc_20, tc_21, tc_22, tc_23, tc_24, tc_25, tc_26, tc_27, tc_28, tc_29, tc_30, tc_31, tc_32, tc_33, tc_34, tc_35, tc_36, tc_37, tc_38, tc_39, tc_40, tc_41, tc_42, tc_43, tc_44, tc_45, tc_46, tc_47, tc_48, tc_49, tc_50, tc_51, tc_52, tc_53, tc_54, tc_55, tc_56, tc_57, tc_58, tc_59, tc_60, tc_61, vq_0_48, vq_1_48, vq_2_48, vq_3_48, vq_4_48, vq_5_48, vq_6_48, vq_7_48, vq_8_48, vq_9_48, vq_10_48, vq_11_48, vq_12_48, vq_13_48, vq_14_48, vq_15_48, vq_16_48, vq_17_48, vq_18_48, vq_19_48, vq_20_48, vq_21_48, vq_22_48, vq_23_48, vq_24_48, vq_25_48, vq_26_48, vq_27_48, vq_28_48, vq_29_48, vq_30_48, vq_31_48, vq_32_48, vq_33_48, vq_34_48, vq_35_48, vq_36_48, vq_37_48, vq_38_48, vq_39_48, vq_40_48, vq_41_48, vq_42_48, vq_43_48, vq_44_48, vq_45_48, vq_46_48, vq_47_48, kd_0, kd_1, kd_2, kd_3, kd_4, kd_13, kd_14, kd_15, kd_16, kd_17, kd_18, kd_19, kd_20, kd_21, kd_22, kd_23, kd_24, kd_25, kd_26, kd_27, kd_28, kd_29, kd_30, kd_31, kd_32, kd_33, kd_34, kd_35, kd_36, kd_37, kd_38, kd_159, kd_182, kd_183, kd_184, kd_185, kd_186, ln_2, ln_3, ln_4, ln_14, ln_16, ln_17, ln_18, ln_19, ln_20, ln_22, ln_23, ln_24, ln_25, ln_27, ln_28, ln_29, ln_30, ln_31, ln_33, ln_34, ln_35, ln_36, ln_38, ln_159, ln_183, ln_184, ln_186, s_advT hn h4 hpn hb, s_advT hn h4 (nx_le hpn) hb, tkF_3, c1]
  · rw [if_neg c1]
    simp only [e_59_0, e_59_1, e_59_4, e_59_5, e_59_8, e_59_9, e_59_12, e_59_13, e_59_14, e_59_17, e_59_18, e_59_19, e_59_22, e_59_23, kd_187, kd_188, kd_189, kd_190, kd_191, kd_192, kd_193, kd_194, kd_195, kd_196, kd_197, kd_198, ln_188, ln_189, ln_190, ln_191, ln_192, ln_193, ln_194, ln_195, ln_196, ln_197, ln_198, nz0, nz1, nzb, cmp0, cmpP, nl_n, nl_i, nl_r, nl_l, nl_nl, Nat.reduceAdd, Nat.reduceMul, Int32.reduceAdd, Int32.reduceSub, Int32.reduceMul, Int32.reduceLE, Int32.reduceLT, q_K_i, q_K_v, q_b0, q_bn, q_b1, z0, z1, q_bz, true_and, and_true, if_true, if_false, not_true_eq_false, not_false_eq_true, true_or, or_true, qsE_0, qsE_1, qsE_2, qsE_3, qsE_4, qsE_5, qsE_6, qsE_7, qsE_8, qsi_1, qsr_1, qsi_2, qsr_2, qsi_3, qsr_3, qsi_4, qsr_4, qsi_5, qsr_5, qsi_6, qsr_6, qsi_7, qsr_7, qsi_8, qsr_8, qsl_2, qsl_3, qsl_4, qsl_5, qsl_6, qsl_7, qsl_8, tc_0, tc_1, tc_2, tc_3, tc_4, tc_5, tc_6, tc_7, tc_8, tc_9, tc_10, tc_11, tc_12, tc_13, tc_14, tc_15, tc_16, tc_17, tc_18, tc_19, tc_20, tc_21, tc_22, tc_23, tc_24, tc_25, tc_26, tc_27, tc_28, tc_29, tc_30, tc_31, tc_32, tc_33, tc_34, tc_35, tc_36, tc_37, tc_38, tc_39, tc_40, tc_41, tc_42, tc_43, tc_44, tc_45, tc_46, tc_47, tc_48, tc_49, tc_50, tc_51, tc_52, tc_53, tc_54, tc_55, tc_56, tc_57, tc_58, tc_59, tc_60, tc_61, vq_0_48, vq_1_48, vq_2_48, vq_3_48, vq_4_48, vq_5_48, vq_6_48, vq_7_48, vq_8_48, vq_9_48, vq_10_48, vq_11_48, vq_12_48, vq_13_48, vq_14_48, vq_15_48, vq_16_48, vq_17_48, vq_18_48, vq_19_48, vq_20_48, vq_21_48, vq_22_48, vq_23_48, vq_24_48, vq_25_48, vq_26_48, vq_27_48, vq_28_48, vq_29_48, vq_30_48, vq_31_48, vq_32_48, vq_33_48, vq_34_48, vq_35_48, vq_36_48, vq_37_48, vq_38_48, vq_39_48, vq_40_48, vq_41_48, vq_42_48, vq_43_48, vq_44_48, vq_45_48, vq_46_48, vq_47_48, kd_0, kd_1, kd_2, kd_3, kd_4, kd_13, kd_14, kd_15, kd_16, kd_17, kd_18, kd_19, kd_20, kd_21, kd_22, kd_23, kd_24, kd_25, kd_26, kd_27, kd_28, kd_29, kd_30, kd_31, kd_32, kd_33, kd_34, kd_35, kd_36, kd_37, kd_38, kd_159, kd_182, kd_183, kd_184, kd_185, kd_186, ln_2, ln_3, ln_4, ln_14, ln_16, ln_17, ln_18, ln_19, ln_20, ln_22, ln_23, ln_24, ln_25, ln_27, ln_28, ln_29, ln_30, ln_31, ln_33, ln_34, ln_35, ln_36, ln_38, ln_159, ln_183, ln_184, ln_186, s_advT hn h4 hpn hb, s_failT, tkF_3, c1]
end XR
