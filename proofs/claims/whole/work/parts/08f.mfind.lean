/-! METHODS: the model's findPrices, fewestOf -/
theorem Ed_lt {so : Nat → Int32} {ea eb sp : Nat → Nat} {up : Int32} {m how : Nat} {isl : Bool} {B : q_FT} (g : mG B so ea eb sp up m) : ∀ s t w, s < 2688 → Ed so ea eb sp up m how isl s t w → t < 2688 ∧ w ≤ 9 := by
  rintro s t w hs (⟨x, hx, c1, c2, c3, rfl, rfl⟩ | ⟨c1, c2, rfl, rfl⟩ | ⟨c1, c2, rfl, rfl⟩)
  · obtain ⟨-, -, -, -, g5, g6, g7, g8, -⟩ := g.2.2.2 x hx
    have hx6 : x < 6 := by have := g.1; omega
    have ho : otN ea eb x (s / 448) < 6 := by
      unfold otN at c2 ⊢
      split at c2
      · rename_i c; rw [if_pos c]; exact g6
      · split at c2
        · rename_i c c'; rw [if_neg c, if_pos c']; exact g5
        · exact absurd rfl c2
    exact ⟨nd_lt ho (thN_lt hx6 (Nat.mod_lt _ (by omega))) (Nat.mod_lt _ (by omega)), g8⟩
  · exact ⟨nd_lt (by omega) (Nat.mod_lt _ (by omega)) (by omega), by omega⟩
  · exact ⟨nd_lt (by omega) (Nat.mod_lt _ (by omega)) (by omega), by omega⟩
section MG
variable {S d : Nat} {P : Option Value → q_H → Nat → Nat → Prop} {SL : Nat} {xs : Nat → Int32} {F B : q_FT} {C : q_CT} {so : Nat → Int32} {ea eb sp : Nat → Nat} {up : Int32} {m : Nat}
theorem s_mfind {how c t li nx0 : Nat} {isl : Bool} (g : mG B so ea eb sp up m) (hh : how ≤ 2) (hc : c < 3) (ht : B 188 (32 + c) = nI t) (ht6 : t < 6) (hli : li < 7) (hnx : mNext B m c = nI nx0) (hnx6 : nx0 < 64) (hisl : isl = decide (¬ B 188 (35 + c) = -1000000))
    (k : ∀ B' : q_FT, (∀ a, ¬ a = 197 → B' a = B a) → PX (Ed so ea eb sp up m how isl) (nd t nx0 li) B' → P none (hp SL xs (u2 F 187 20 0) B' C) 199 S) :
    E 199 S (d + 4) 157 0 [some (.ref (187 : Nat)), some (.int (nI how)), some (.int (nI c)), some (.int (nI li)), none, none] [] (hp SL xs F B C) P := by
  have hnd := nd_lt ht6 hnx6 hli
  refine s_find0 (Inv := fun B' => pI so ea eb sp up m (Ed so ea eb sp up m how isl) (nd t nx0 li) B' ∧ ∀ a, ¬ a = 197 → B' a = B a) (μ := mu) g hh hc ht ht6 hli hnx hnx6 hisl (fun B' h => h.1.1) ⟨⟨mG_c ?_ g, u2_s, fun s hs => ?_⟩, fun a ha => ?_⟩ (fun B' h => ?_) (fun B' h hz => ?_)
  · rw [u2_r (by omega)]
    exact funext fun k => if_neg (by omega)
  · by_cases e : s = nd t nx0 li
    · subst e
      refine Or.inr ⟨0, u2_s, ?_, RP_0⟩
      have uc := (sm_u (g := gc) (B := zfill B 197 0 2688 (-1000000)) (t := nd t nx0 li) (v := 0) 2688).1 hs
      have e0 : zfill B 197 0 2688 (-1000000) 197 (nd t nx0 li) = -1000000 := if_pos ⟨rfl, by omega, hs⟩
      have e1 : gc (-1000000) = 0 := if_pos rfl
      have e2 : gc 0 = 1 := if_neg (by decide)
      rw [e0, e1, e2] at uc
      omega
    · refine Or.inl ?_
      rw [show u2 (zfill B 197 0 2688 (-1000000)) 197 (nd t nx0 li) 0 197 s = zfill B 197 0 2688 (-1000000) 197 s from if_neg (fun z => e z.2)]
      exact if_pos ⟨rfl, by omega, hs⟩
  · rw [u2_r ha]
    exact funext fun k => if_neg (fun z => ha z.1)
  · have hs := pS_P (how := how) (isl := isl) rfl hnd 2688 0 (B', 0) (by omega) h.1
    refine ⟨⟨hs.1, fun a ha => (psA_f ha _ _ _).trans (h.2 a ha)⟩, ?_⟩
    rcases hs.2.1 with z | z
    · exact Or.inl (by rw [z])
    · exact Or.inr z
  · have hs := pS_P (how := how) (isl := isl) rfl hnd 2688 0 (B', 0) (by omega) h.1
    have k1 : ¬ (1 : Int32) = 0 := by decide
    have e : psA so ea eb sp up m how isl 2688 0 (B', 0) = (B', 0) := by
      rcases hs.2.1 with z | z
      · exact z
      · exact absurd (z.1.symm.trans hz) k1
    rw [e]
    exact k B' h.2 (PX_of rfl hnd h.1 hz (Ed_lt g))
abbrev Gm (E1 : Nat → Nat → Nat → Prop) (s0 g0 : Nat) : Nat → Prop := fun v => ∃ k, k < 384 ∧ RP E1 s0 (7 * k + g0) v
abbrev Gt (E1 : Nat → Nat → Nat → Prop) (s0 t : Nat) : Nat → Prop := fun v => ∃ k, k < 64 ∧ RP E1 s0 (nd t k 0) v
theorem Gm_LD {E1 : Nat → Nat → Nat → Prop} {s0 g0 : Nat} (hg : g0 < 7) {B : q_FT} (h : PX E1 s0 B) : LD (Gm E1 s0 g0) (lsA (fun k => B 197 (7 * k + g0)) 384 0 (-1000000)) :=
  LD_c (fun v => ⟨fun z => z.elim False.elim (fun ⟨j, _, h2, h3⟩ => ⟨j, by omega, h3⟩), fun ⟨j, h2, h3⟩ => Or.inr ⟨j, by omega, by omega, h3⟩⟩) (lsA_LD (G := fun k => RP E1 s0 (7 * k + g0)) 384 0 (-1000000) (fun _ => False) (Or.inl ⟨rfl, fun _ z => z⟩) (fun j _ h2 => (h (7 * j + g0) (by omega)).1))
theorem Gt_LD {E1 : Nat → Nat → Nat → Prop} {s0 t : Nat} (ht : t < 6) {B : q_FT} (h : PX E1 s0 B) : LD (Gt E1 s0 t) (lsA (fun k => B 197 (nd t k 0)) 64 0 (-1000000)) :=
  LD_c (fun v => ⟨fun z => z.elim False.elim (fun ⟨j, _, h2, h3⟩ => ⟨j, by omega, h3⟩), fun ⟨j, h2, h3⟩ => Or.inr ⟨j, by omega, by omega, h3⟩⟩) (lsA_LD (G := fun k => RP E1 s0 (nd t k 0)) 64 0 (-1000000) (fun _ => False) (Or.inl ⟨rfl, fun _ z => z⟩) (fun j _ h2 => (h (nd t j 0) (nd_lt ht (by omega) (by omega))).1))
theorem s_fewestOf {c t li nx0 ld g0 : Nat} {isl : Bool} (g : mG B so ea eb sp up m) (hc : c < 3) (ht : B 188 (32 + c) = nI t) (ht6 : t < 6) (hnx : mNext B m c = nI nx0) (hnx6 : nx0 < 64) (hisl : isl = decide (¬ B 188 (35 + c) = -1000000)) (hld : ld < 4) (hg0 : B 188 (28 + ld) = nI g0) (hg6 : g0 < 6)
    (hli : (B 188 (35 + c) = nI ld ∧ li = 6) ∨ (¬ B 188 (35 + c) = nI ld ∧ B 188 (43 + ld) = nI li ∧ li < 6))
    (k : ∀ (B' : q_FT) (r : Int32), (∀ a, ¬ a = 197 → B' a = B a) → LD (Gm (Ed so ea eb sp up m 0 isl) (nd t nx0 li) g0) r → PX (Ed so ea eb sp up m 0 isl) (nd t nx0 li) B' → P (some (.int r)) (hp SL xs (u2 F 187 20 0) B' C) 199 S) :
    E 199 S (d + 5) 159 0 [some (.ref (187 : Nat)), some (.int (nI c)), some (.int (nI ld)), none, none, none] [] (hp SL xs F B C) P := by
  have a1 : vp_in (nI (35 + c)) 48 := vp_in_nI (by omega) (by omega)
  have a2 : (nI (35 + c)).toNatClampNeg = 35 + c := nI_clamp (by omega)
  have b1 : vp_in (nI (43 + ld)) 48 := vp_in_nI (by omega) (by omega)
  have b2 : (nI (43 + ld)).toNatClampNeg = 43 + ld := nI_clamp (by omega)
  have fin : ∀ (y3 : Int32) (B' : q_FT), (∀ a, ¬ a = 197 → B' a = B a) → PX (Ed so ea eb sp up m 0 isl) (nd t nx0 li) B' → E 199 S (d + 5) 159 43 [some (.ref (187 : Nat)), some (.int (nI c)), some (.int (nI ld)), some (.int y3), none, none] [] (hp SL xs (u2 F 187 20 0) B' C) P := fun y3 B' hB hP => by
    rw [e_159_43]
    simp only [e_159_45, e_159_47, e_159_48, kd_187, kd_188, kd_189, kd_190, kd_191, kd_192, kd_193, kd_194, kd_195, kd_196, kd_197, kd_198, ln_188, ln_189, ln_190, ln_191, ln_192, ln_193, ln_194, ln_195, ln_196, ln_197, ln_198, nz0, nz1, nzb, cmp0, cmpP, nl_n, nl_i, nl_r, nl_l, nl_nl, Nat.reduceAdd, Nat.reduceMul, Int32.reduceAdd, Int32.reduceSub, Int32.reduceMul, Int32.reduceLE, Int32.reduceLT, q_K_i, q_K_v, q_b0, q_bn, q_b1, z0, z1, q_bz, true_and, and_true, if_true, if_false, not_true_eq_false, not_false_eq_true, true_or, or_true, qsE_0, qsE_1, qsE_2, qsE_3, qsE_4, qsE_5, qsE_6, qsE_7, qsE_8, qsi_1, qsr_1, qsi_2, qsr_2, qsi_3, qsr_3, qsi_4, qsr_4, qsi_5, qsr_5, qsi_6, qsr_6, qsi_7, qsr_7, qsi_8, qsr_8, qsl_2, qsl_3, qsl_4, qsl_5, qsl_6, qsl_7, qsl_8, tc_0, tc_1, tc_2, tc_3, tc_4, tc_5, tc_6, tc_7, tc_8, tc_9, tc_10, tc_11, tc_12, tc_13, tc_14, tc_15, tc_16, tc_17, tc_18, tc_19, tc_20, tc_21, tc_22, tc_23, tc_24, tc_25, tc_26, tc_27, tc_28, tc_29, tc_30, tc_31, tc_32, tc_33, tc_34, tc_35, tc_36, tc_37, tc_38, tc_39, tc_40, tc_41, tc_42, tc_43, tc_44, tc_45, tc_46, tc_47, tc_48, tc_49, tc_50, tc_51, tc_52, tc_53, tc_54, tc_55, tc_56, tc_57, tc_58, tc_59, tc_60, tc_61, vq_0_48, vq_1_48, vq_2_48, vq_3_48, vq_4_48, vq_5_48, vq_6_48, vq_7_48, vq_8_48, vq_9_48, vq_10_48, vq_11_48, vq_12_48, vq_13_48, vq_14_48, vq_15_48, vq_16_48, vq_17_48, vq_18_48, vq_19_48, vq_20_48, vq_21_48, vq_22_48, vq_23_48, vq_24_48, vq_25_48, vq_26_48, vq_27_48, vq_28_48, vq_29_48, vq_30_48, vq_31_48, vq_32_48, vq_33_48, vq_34_48, vq_35_48, vq_36_48, vq_37_48, vq_38_48, vq_39_48, vq_40_48, vq_41_48, vq_42_48, vq_43_48, vq_44_48, vq_45_48, vq_46_48, vq_47_48]
    refine (l_lstF (y0 := 0) (y2 := none) (g0 := g0) (by omega) hld ?_ 384 0 (by omega) _).mpr (k B' _ hB (Gm_LD (by omega) hP) hP)
    rw [hB 188 (by omega)]
    exact hg0
  rcases hli with ⟨h1, rfl⟩ | ⟨h1, h2, h3⟩
  · simp only [e_159_0, e_159_1, e_159_4, e_159_6, e_159_7, e_159_8, e_159_9, e_159_10, e_159_13, e_159_14, e_159_17, e_159_18, e_159_19, e_159_20, e_159_21, e_159_22, e_159_23, e_159_26, e_159_28, e_159_31, e_159_32, e_159_35, e_159_37, e_159_38, e_159_39, kd_187, kd_188, kd_189, kd_190, kd_191, kd_192, kd_193, kd_194, kd_195, kd_196, kd_197, kd_198, ln_188, ln_189, ln_190, ln_191, ln_192, ln_193, ln_194, ln_195, ln_196, ln_197, ln_198, nz0, nz1, nzb, cmp0, cmpP, nl_n, nl_i, nl_r, nl_l, nl_nl, Nat.reduceAdd, Nat.reduceMul, Int32.reduceAdd, Int32.reduceSub, Int32.reduceMul, Int32.reduceLE, Int32.reduceLT, q_K_i, q_K_v, q_b0, q_bn, q_b1, z0, z1, q_bz, true_and, and_true, if_true, if_false, not_true_eq_false, not_false_eq_true, true_or, or_true, qsE_0, qsE_1, qsE_2, qsE_3, qsE_4, qsE_5, qsE_6, qsE_7, qsE_8, qsi_1, qsr_1, qsi_2, qsr_2, qsi_3, qsr_3, qsi_4, qsr_4, qsi_5, qsr_5, qsi_6, qsr_6, qsi_7, qsr_7, qsi_8, qsr_8, qsl_2, qsl_3, qsl_4, qsl_5, qsl_6, qsl_7, qsl_8, tc_0, tc_1, tc_2, tc_3, tc_4, tc_5, tc_6, tc_7, tc_8, tc_9, tc_10, tc_11, tc_12, tc_13, tc_14, tc_15, tc_16, tc_17, tc_18, tc_19, tc_20, tc_21, tc_22, tc_23, tc_24, tc_25, tc_26, tc_27, tc_28, tc_29, tc_30, tc_31, tc_32, tc_33, tc_34, tc_35, tc_36, tc_37, tc_38, tc_39, tc_40, tc_41, tc_42, tc_43, tc_44, tc_45, tc_46, tc_47, tc_48, tc_49, tc_50, tc_51, tc_52, tc_53, tc_54, tc_55, tc_56, tc_57, tc_58, tc_59, tc_60, tc_61, vq_0_48, vq_1_48, vq_2_48, vq_3_48, vq_4_48, vq_5_48, vq_6_48, vq_7_48, vq_8_48, vq_9_48, vq_10_48, vq_11_48, vq_12_48, vq_13_48, vq_14_48, vq_15_48, vq_16_48, vq_17_48, vq_18_48, vq_19_48, vq_20_48, vq_21_48, vq_22_48, vq_23_48, vq_24_48, vq_25_48, vq_26_48, vq_27_48, vq_28_48, vq_29_48, vq_30_48, vq_31_48, vq_32_48, vq_33_48, vq_34_48, vq_35_48, vq_36_48, vq_37_48, vq_38_48, vq_39_48, vq_40_48, vq_41_48, vq_42_48, vq_43_48, vq_44_48, vq_45_48, vq_46_48, vq_47_48, i_35, a1, a2, h1, io_1]
    rw [e_159_40 kd_187 (by simp [q_cs])]
    refine s_mfind (how := 0) (li := 6) g (by omega) hc ht ht6 (by omega) hnx hnx6 hisl (fun B' hB hP => ?_)
    rw [q_K_v]
    exact fin _ B' hB hP
  · simp only [e_159_0, e_159_1, e_159_4, e_159_6, e_159_7, e_159_8, e_159_9, e_159_10, e_159_13, e_159_14, e_159_17, e_159_18, e_159_19, e_159_20, e_159_21, e_159_22, e_159_23, e_159_26, e_159_28, e_159_31, e_159_32, e_159_35, e_159_37, e_159_38, e_159_39, kd_187, kd_188, kd_189, kd_190, kd_191, kd_192, kd_193, kd_194, kd_195, kd_196, kd_197, kd_198, ln_188, ln_189, ln_190, ln_191, ln_192, ln_193, ln_194, ln_195, ln_196, ln_197, ln_198, nz0, nz1, nzb, cmp0, cmpP, nl_n, nl_i, nl_r, nl_l, nl_nl, Nat.reduceAdd, Nat.reduceMul, Int32.reduceAdd, Int32.reduceSub, Int32.reduceMul, Int32.reduceLE, Int32.reduceLT, q_K_i, q_K_v, q_b0, q_bn, q_b1, z0, z1, q_bz, true_and, and_true, if_true, if_false, not_true_eq_false, not_false_eq_true, true_or, or_true, qsE_0, qsE_1, qsE_2, qsE_3, qsE_4, qsE_5, qsE_6, qsE_7, qsE_8, qsi_1, qsr_1, qsi_2, qsr_2, qsi_3, qsr_3, qsi_4, qsr_4, qsi_5, qsr_5, qsi_6, qsr_6, qsi_7, qsr_7, qsi_8, qsr_8, qsl_2, qsl_3, qsl_4, qsl_5, qsl_6, qsl_7, qsl_8, tc_0, tc_1, tc_2, tc_3, tc_4, tc_5, tc_6, tc_7, tc_8, tc_9, tc_10, tc_11, tc_12, tc_13, tc_14, tc_15, tc_16, tc_17, tc_18, tc_19, tc_20, tc_21, tc_22, tc_23, tc_24, tc_25, tc_26, tc_27, tc_28, tc_29, tc_30, tc_31, tc_32, tc_33, tc_34, tc_35, tc_36, tc_37, tc_38, tc_39, tc_40, tc_41, tc_42, tc_43, tc_44, tc_45, tc_46, tc_47, tc_48, tc_49, tc_50, tc_51, tc_52, tc_53, tc_54, tc_55, tc_56, tc_57, tc_58, tc_59, tc_60, tc_61, vq_0_48, vq_1_48, vq_2_48, vq_3_48, vq_4_48, vq_5_48, vq_6_48, vq_7_48, vq_8_48, vq_9_48, vq_10_48, vq_11_48, vq_12_48, vq_13_48, vq_14_48, vq_15_48, vq_16_48, vq_17_48, vq_18_48, vq_19_48, vq_20_48, vq_21_48, vq_22_48, vq_23_48, vq_24_48, vq_25_48, vq_26_48, vq_27_48, vq_28_48, vq_29_48, vq_30_48, vq_31_48, vq_32_48, vq_33_48, vq_34_48, vq_35_48, vq_36_48, vq_37_48, vq_38_48, vq_39_48, vq_40_48, vq_41_48, vq_42_48, vq_43_48, vq_44_48, vq_45_48, vq_46_48, vq_47_48, i_35, i_43, a1, a2, b1, b2, h1, h2]
    rw [e_159_40 kd_187 (by simp [q_cs])]
    refine s_mfind (how := 0) (li := li) g (by omega) hc ht ht6 (by omega) hnx hnx6 hisl (fun B' hB hP => ?_)
    rw [q_K_v]
    exact fin _ B' hB hP
end MG
