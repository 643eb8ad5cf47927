/-! METHODS: the model's search -/
def nd (t x l : Nat) : Nat := 7 * (64 * t + x) + l
abbrev ltB (so : Nat → Int32) (how x : Nat) (l : Bool) (nx : Nat) : Prop := (how = 2 ∧ ¬ so x = 2) ∨ (¬ how = 2 ∧ (so x = 3 ∨ (so x = 4 ∧ ¬ l = true) ∨ (so x = 5 ∧ l = true) ∨ (¬ (so x = 3 ∨ so x = 4 ∨ so x = 5) ∧ (l = true ↔ mHas (nI nx) x))))
def thN (so : Nat → Int32) (x nx : Nat) : Nat := if so x = 1 ∨ so x = 2 then nx ^^^ 2 ^ x else nx
/-- a price comes to a node -/
def cmS (t : Nat) (v : Int32) (q : q_FT × Int32) : q_FT × Int32 := if q.1 197 t = -1000000 ∨ v < q.1 197 t then (u2 q.1 197 t v, 1) else q
def spX (so : Nat → Int32) (ea eb sp : Nat → Nat) (up : Int32) (how s : Nat) (l : Bool) (x : Nat) (q : q_FT × Int32) : q_FT × Int32 :=
  if ¬ mHas up x then q else if otN ea eb x (s / 448) = 99 then q else if ¬ ltB so how x l (s / 7 % 64) then q
  else cmS (nd (otN ea eb x (s / 448)) (thN so x (s / 7 % 64)) (s % 7)) (q.1 197 s + nI (sp x)) q
def spA (so : Nat → Int32) (ea eb sp : Nat → Nat) (up : Int32) (how s : Nat) (l : Bool) : Nat → Nat → q_FT × Int32 → q_FT × Int32
  | 0, _, q => q
  | r + 1, x, q => spA so ea eb sp up how s l r (x + 1) (spX so ea eb sp up how s l x q)
def sp1 (how s : Nat) (q : q_FT × Int32) : q_FT × Int32 := if how = 0 ∧ s % 7 = 6 then cmS (nd (s / 448) (s / 7 % 64) (s / 448)) (q.1 197 s) q else q
def sp2 (how s : Nat) (q : q_FT × Int32) : q_FT × Int32 := if how = 0 ∧ s % 7 = s / 448 then cmS (nd (s / 448) (s / 7 % 64) 6) (q.1 197 s) q else q
abbrev ldS (how s : Nat) (isL : Bool) : Bool := if how = 0 then decide (s % 7 = 6) else isL
def spS (so : Nat → Int32) (ea eb sp : Nat → Nat) (up : Int32) (m how : Nat) (isL : Bool) (s : Nat) (q : q_FT × Int32) : q_FT × Int32 := sp2 how s (sp1 how s (spA so ea eb sp up how s (ldS how s isL) m 0 q))
def psA (so : Nat → Int32) (ea eb sp : Nat → Nat) (up : Int32) (m how : Nat) (isL : Bool) : Nat → Nat → q_FT × Int32 → q_FT × Int32
  | 0, _, q => q
  | r + 1, s, q => psA so ea eb sp up m how isL r (s + 1) (if q.1 197 s = -1000000 then q else spS so ea eb sp up m how isL s q)
def mG (B : q_FT) (so : Nat → Int32) (ea eb sp : Nat → Nat) (up : Int32) (m : Nat) : Prop := m ≤ 6 ∧ B 188 1 = nI m ∧ B 188 42 = up ∧ ∀ x, x < m → B 188 (4 + 4 * x) = so x ∧ B 188 (5 + 4 * x) = nI (ea x) ∧ B 188 (6 + 4 * x) = nI (eb x) ∧ B 188 (7 + 4 * x) = nI (sp x) ∧ ea x < 6 ∧ eb x < 6 ∧ 1 ≤ sp x ∧ sp x ≤ 9 ∧ (so x = 1 ∨ so x = 2 ∨ so x = 3 ∨ so x = 4 ∨ so x = 5)
theorem mG_c {B B' : q_FT} {so : Nat → Int32} {ea eb sp : Nat → Nat} {up : Int32} {m : Nat} (h : B' 188 = B 188) (g : mG B so ea eb sp up m) : mG B' so ea eb sp up m := by
  unfold mG at g ⊢
  rw [h]
  exact g
theorem cmS_f {t : Nat} {v : Int32} {q : q_FT × Int32} {a : Nat} (h : ¬ a = 197) : (cmS t v q).1 a = q.1 a := by
  unfold cmS
  split
  · exact u2_r h
  · rfl
theorem mOt {B : q_FT} {so : Nat → Int32} {ea eb sp : Nat → Nat} {up : Int32} {m x t : Nat} (g : mG B so ea eb sp up m) (hx : x < m) (ht : t < 6) (hu : mHas up x) : (otN ea eb x t = 99 ∧ mOth B x (nI t) = -1000000) ∨ (otN ea eb x t < 6 ∧ mOth B x (nI t) = nI (otN ea eb x t)) := by
  obtain ⟨-, g2, g3, -, g5, g6, -⟩ := g.2.2.2 x hx
  unfold otN mOth
  rw [g.2.2.1, if_neg (not_not_intro hu), g2, g3]
  by_cases c1 : t = ea x
  · rw [if_pos c1, if_pos (by rw [c1])]
    exact Or.inr ⟨g6, rfl⟩
  · rw [if_neg c1, if_neg (fun z => c1 ((nI_eq (by omega) (by omega)).mp z))]
    by_cases c2 : t = eb x
    · rw [if_pos c2, if_pos (by rw [c2])]
      exact Or.inr ⟨g5, rfl⟩
    · rw [if_neg c2, if_neg (fun z => c2 ((nI_eq (by omega) (by omega)).mp z))]
      exact Or.inl ⟨rfl, rfl⟩
theorem mOt0 {B : q_FT} {so : Nat → Int32} {ea eb sp : Nat → Nat} {up : Int32} {m x t : Nat} (g : mG B so ea eb sp up m) (hu : ¬ mHas up x) : mOth B x (nI t) = -1000000 := by
  unfold mOth
  rw [g.2.2.1, if_pos hu]
theorem i_x64 : ∀ x : Nat, x < 6 → ∀ a : Nat, a < 64 → nI a ^^^ ((1 : Int32) <<< (nI x &&& 31)) = nI (a ^^^ 2 ^ x) := by decide +kernel
theorem x64_lt : ∀ x : Nat, x < 6 → ∀ a : Nat, a < 64 → a ^^^ 2 ^ x < 64 := by decide +kernel
theorem thN_lt {so : Nat → Int32} {x a : Nat} (hx : x < 6) (ha : a < 64) : thN so x a < 64 := by
  unfold thN
  split
  · exact x64_lt x hx a ha
  · exact ha
theorem i_nd {t x l : Nat} : 7 * (64 * nI t + nI x) + nI l = nI (nd t x l) := by
  rw [show (64 : Int32) = nI 64 from rfl, show (7 : Int32) = nI 7 from rfl, pk_mul, nI_add, pk_mul, nI_add]
  rfl
theorem nd_lt {t x l : Nat} (ht : t < 6) (hx : x < 64) (hl : l < 7) : nd t x l < 2688 := by
  unfold nd
  omega
theorem ne7 : ¬ (7 : Int32) = 0 := by decide
theorem ne64 : ¬ (64 : Int32) = 0 := by decide
theorem ne448 : ¬ (448 : Int32) = 0 := by decide
theorem i_r7 {a : Nat} (h : a < 2 ^ 31) : nI a - nI a / 7 * 7 = nI (a % 7) := pk_rem (d := 7) h (by omega) (by omega)
theorem i_d7 {a : Nat} (h : a < 2 ^ 31) : nI a / 7 = nI (a / 7) := pk_div (d := 7) h (by omega) (by omega)
theorem i_r64 {a : Nat} (h : a < 2 ^ 31) : nI a - nI a / 64 * 64 = nI (a % 64) := pk_rem (d := 64) h (by omega) (by omega)
theorem i_d448 {a : Nat} (h : a < 2 ^ 31) : nI a / 448 = nI (a / 448) := pk_div (d := 448) h (by omega) (by omega)
section MS
variable {S d : Nat} {P : Option Value → q_H → Nat → Nat → Prop} {SL : Nat} {xs : Nat → Int32} {F B : q_FT} {C : q_CT} {so : Nat → Int32} {ea eb sp : Nat → Nat} {up : Int32} {m : Nat}
theorem s_comesN {t : Nat} {v : Int32} {il : Int32} (ht : t < 2688) : E 199 S d 154 0 [some (.ref (187 : Nat)), some (.int (nI t)), some (.int v)] [] (hp SL xs (u2 F 187 20 il) B C) P ↔ P none (hp SL xs (u2 F 187 20 (cmS t v (B, il)).2) (cmS t v (B, il)).1 C) 199 S := by
  have h2 : (nI t).toNatClampNeg = t := nI_clamp (by omega)
  rw [s_comes (vp_in_nI ht (by omega)), h2]
  unfold cmS
  by_cases c : B 197 t = -1000000 ∨ v < B 197 t
  · rw [if_pos c, if_pos c, uu2]
  · rw [if_neg c, if_neg c]
theorem bI_q {l : Bool} : bI l = q_b (l = true) := rfl
theorem s_letsBy {how x nx : Nat} {l : Bool} (g : mG B so ea eb sp up m) (hx : x < m) (hh : how ≤ 2) : E 199 S (d + 2) 155 0 [some (.ref (187 : Nat)), some (.int (nI how)), some (.int (nI x)), some (.int (bI l)), some (.int (nI nx))] [] (hp SL xs F B C) P ↔ P (some (.int (q_b (ltB so how x l nx)))) (hp SL xs F B C) 199 S := by
  obtain ⟨g1, -, -, -, -, -, -, -, g9⟩ := g.2.2.2 x hx
  have hx6 : x < 6 := by have := g.1; omega
  have hs : B 188 (4 + 4 * x) = 1 ∨ B 188 (4 + 4 * x) = 2 ∨ B 188 (4 + 4 * x) = 3 ∨ B 188 (4 + 4 * x) = 4 ∨ B 188 (4 + 4 * x) = 5 := by rw [g1]; exact g9
  by_cases c : how = 2
  · subst c
    have e2 : nI 2 = 2 := rfl
    by_cases c2 : so x = 2
    · rw [q_bF (show ¬ ltB so 2 x l nx from fun z => z.elim (fun z => z.2 c2) (fun z => z.1 rfl))]
      simp only [e_155_0, e_155_1, e_155_2, e_155_5, e_155_6, e_155_7, e_155_8, e_155_11, e_155_12, e_155_15, e_155_16, e_155_19, e_155_20, e_155_23, e_155_24, e_155_25, e_155_26, e_155_28, e_155_31, kd_187, kd_188, kd_189, kd_190, kd_191, kd_192, kd_193, kd_194, kd_195, kd_196, kd_197, kd_198, ln_188, ln_189, ln_190, ln_191, ln_192, ln_193, ln_194, ln_195, ln_196, ln_197, ln_198, nz0, nz1, nzb, cmp0, cmpP, nl_n, nl_i, nl_r, nl_l, nl_nl, Nat.reduceAdd, Nat.reduceMul, Int32.reduceAdd, Int32.reduceSub, Int32.reduceMul, Int32.reduceLE, Int32.reduceLT, q_K_i, q_K_v, q_b0, q_bn, q_b1, z0, z1, q_bz, true_and, and_true, if_true, if_false, not_true_eq_false, not_false_eq_true, true_or, or_true, qsE_0, qsE_1, qsE_2, qsE_3, qsE_4, qsE_5, qsE_6, qsE_7, qsE_8, qsi_1, qsr_1, qsi_2, qsr_2, qsi_3, qsr_3, qsi_4, qsr_4, qsi_5, qsr_5, qsi_6, qsr_6, qsi_7, qsr_7, qsi_8, qsr_8, qsl_2, qsl_3, qsl_4, qsl_5, qsl_6, qsl_7, qsl_8, tc_0, tc_1, tc_2, tc_3, tc_4, tc_5, tc_6, tc_7, tc_8, tc_9, tc_10, tc_11, tc_12, tc_13, tc_14, tc_15, tc_16, tc_17, tc_18, tc_19, tc_20, tc_21, tc_22, tc_23, tc_24, tc_25, tc_26, tc_27, tc_28, tc_29, tc_30, tc_31, tc_32, tc_33, tc_34, tc_35, tc_36, tc_37, tc_38, tc_39, tc_40, tc_41, tc_42, tc_43, tc_44, tc_45, tc_46, tc_47, tc_48, tc_49, tc_50, tc_51, tc_52, tc_53, tc_54, tc_55, tc_56, tc_57, tc_58, tc_59, tc_60, tc_61, vq_0_48, vq_1_48, vq_2_48, vq_3_48, vq_4_48, vq_5_48, vq_6_48, vq_7_48, vq_8_48, vq_9_48, vq_10_48, vq_11_48, vq_12_48, vq_13_48, vq_14_48, vq_15_48, vq_16_48, vq_17_48, vq_18_48, vq_19_48, vq_20_48, vq_21_48, vq_22_48, vq_23_48, vq_24_48, vq_25_48, vq_26_48, vq_27_48, vq_28_48, vq_29_48, vq_30_48, vq_31_48, vq_32_48, vq_33_48, vq_34_48, vq_35_48, vq_36_48, vq_37_48, vq_38_48, vq_39_48, vq_40_48, vq_41_48, vq_42_48, vq_43_48, vq_44_48, vq_45_48, vq_46_48, vq_47_48, e2, s_of0 hx6, g1, c2]
    · rw [q_bT (show ltB so 2 x l nx from Or.inl ⟨rfl, c2⟩)]
      simp only [e_155_0, e_155_1, e_155_2, e_155_5, e_155_6, e_155_7, e_155_8, e_155_11, e_155_12, e_155_15, e_155_16, e_155_19, e_155_20, e_155_23, e_155_24, e_155_25, e_155_26, e_155_28, e_155_31, kd_187, kd_188, kd_189, kd_190, kd_191, kd_192, kd_193, kd_194, kd_195, kd_196, kd_197, kd_198, ln_188, ln_189, ln_190, ln_191, ln_192, ln_193, ln_194, ln_195, ln_196, ln_197, ln_198, nz0, nz1, nzb, cmp0, cmpP, nl_n, nl_i, nl_r, nl_l, nl_nl, Nat.reduceAdd, Nat.reduceMul, Int32.reduceAdd, Int32.reduceSub, Int32.reduceMul, Int32.reduceLE, Int32.reduceLT, q_K_i, q_K_v, q_b0, q_bn, q_b1, z0, z1, q_bz, true_and, and_true, if_true, if_false, not_true_eq_false, not_false_eq_true, true_or, or_true, qsE_0, qsE_1, qsE_2, qsE_3, qsE_4, qsE_5, qsE_6, qsE_7, qsE_8, qsi_1, qsr_1, qsi_2, qsr_2, qsi_3, qsr_3, qsi_4, qsr_4, qsi_5, qsr_5, qsi_6, qsr_6, qsi_7, qsr_7, qsi_8, qsr_8, qsl_2, qsl_3, qsl_4, qsl_5, qsl_6, qsl_7, qsl_8, tc_0, tc_1, tc_2, tc_3, tc_4, tc_5, tc_6, tc_7, tc_8, tc_9, tc_10, tc_11, tc_12, tc_13, tc_14, tc_15, tc_16, tc_17, tc_18, tc_19, tc_20, tc_21, tc_22, tc_23, tc_24, tc_25, tc_26, tc_27, tc_28, tc_29, tc_30, tc_31, tc_32, tc_33, tc_34, tc_35, tc_36, tc_37, tc_38, tc_39, tc_40, tc_41, tc_42, tc_43, tc_44, tc_45, tc_46, tc_47, tc_48, tc_49, tc_50, tc_51, tc_52, tc_53, tc_54, tc_55, tc_56, tc_57, tc_58, tc_59, tc_60, tc_61, vq_0_48, vq_1_48, vq_2_48, vq_3_48, vq_4_48, vq_5_48, vq_6_48, vq_7_48, vq_8_48, vq_9_48, vq_10_48, vq_11_48, vq_12_48, vq_13_48, vq_14_48, vq_15_48, vq_16_48, vq_17_48, vq_18_48, vq_19_48, vq_20_48, vq_21_48, vq_22_48, vq_23_48, vq_24_48, vq_25_48, vq_26_48, vq_27_48, vq_28_48, vq_29_48, vq_30_48, vq_31_48, vq_32_48, vq_33_48, vq_34_48, vq_35_48, vq_36_48, vq_37_48, vq_38_48, vq_39_48, vq_40_48, vq_41_48, vq_42_48, vq_43_48, vq_44_48, vq_45_48, vq_46_48, vq_47_48, e2, s_of0 hx6, g1, c2]
  · have e2 : ¬ nI how = 2 := fun z => c ((nI_eq (b := 2) (by omega) (by omega)).mp z)
    have e : ltB so how x l nx ↔ mLets B (nI nx) (l = true) x := by
      unfold mLets
      rw [g1]
      exact ⟨fun z => z.elim (fun z => absurd z.1 c) (fun z => z.2), fun z => Or.inr ⟨c, z⟩⟩
    have e3 : q_b (ltB so how x l nx) = q_b (mLets B (nI nx) (l = true) x) := by
      by_cases c3 : ltB so how x l nx
      · rw [q_bT c3, q_bT (e.mp c3)]
      · rw [q_bF c3, q_bF (fun z => c3 (e.mpr z))]
    rw [e3]
    simp only [e_155_0, e_155_1, e_155_2, e_155_5, e_155_6, e_155_7, e_155_8, e_155_11, e_155_12, e_155_15, e_155_16, e_155_19, e_155_20, e_155_23, e_155_24, e_155_25, e_155_26, e_155_28, e_155_31, kd_187, kd_188, kd_189, kd_190, kd_191, kd_192, kd_193, kd_194, kd_195, kd_196, kd_197, kd_198, ln_188, ln_189, ln_190, ln_191, ln_192, ln_193, ln_194, ln_195, ln_196, ln_197, ln_198, nz0, nz1, nzb, cmp0, cmpP, nl_n, nl_i, nl_r, nl_l, nl_nl, Nat.reduceAdd, Nat.reduceMul, Int32.reduceAdd, Int32.reduceSub, Int32.reduceMul, Int32.reduceLE, Int32.reduceLT, q_K_i, q_K_v, q_b0, q_bn, q_b1, z0, z1, q_bz, true_and, and_true, if_true, if_false, not_true_eq_false, not_false_eq_true, true_or, or_true, qsE_0, qsE_1, qsE_2, qsE_3, qsE_4, qsE_5, qsE_6, qsE_7, qsE_8, qsi_1, qsr_1, qsi_2, qsr_2, qsi_3, qsr_3, qsi_4, qsr_4, qsi_5, qsr_5, qsi_6, qsr_6, qsi_7, qsr_7, qsi_8, qsr_8, qsl_2, qsl_3, qsl_4, qsl_5, qsl_6, qsl_7, qsl_8, tc_0, tc_1, tc_2, tc_3, tc_4, tc_5, tc_6, tc_7, tc_8, tc_9, tc_10, tc_11, tc_12, tc_13, tc_14, tc_15, tc_16, tc_17, tc_18, tc_19, tc_20, tc_21, tc_22, tc_23, tc_24, tc_25, tc_26, tc_27, tc_28, tc_29, tc_30, tc_31, tc_32, tc_33, tc_34, tc_35, tc_36, tc_37, tc_38, tc_39, tc_40, tc_41, tc_42, tc_43, tc_44, tc_45, tc_46, tc_47, tc_48, tc_49, tc_50, tc_51, tc_52, tc_53, tc_54, tc_55, tc_56, tc_57, tc_58, tc_59, tc_60, tc_61, vq_0_48, vq_1_48, vq_2_48, vq_3_48, vq_4_48, vq_5_48, vq_6_48, vq_7_48, vq_8_48, vq_9_48, vq_10_48, vq_11_48, vq_12_48, vq_13_48, vq_14_48, vq_15_48, vq_16_48, vq_17_48, vq_18_48, vq_19_48, vq_20_48, vq_21_48, vq_22_48, vq_23_48, vq_24_48, vq_25_48, vq_26_48, vq_27_48, vq_28_48, vq_29_48, vq_30_48, vq_31_48, vq_32_48, vq_33_48, vq_34_48, vq_35_48, vq_36_48, vq_37_48, vq_38_48, vq_39_48, vq_40_48, vq_41_48, vq_42_48, vq_43_48, vq_44_48, vq_45_48, vq_46_48, vq_47_48, e2, bI_q, s_lets hx6 (l := l = true) hs]
theorem spX_f {how s x a : Nat} {l : Bool} {q : q_FT × Int32} (h : ¬ a = 197) : (spX so ea eb sp up how s l x q).1 a = q.1 a := by
  unfold spX
  split
  · rfl
  · split
    · rfl
    · split
      · rfl
      · exact cmS_f h
theorem spA_f {how s a : Nat} {l : Bool} (h : ¬ a = 197) : ∀ (r x : Nat) (q : q_FT × Int32), (spA so ea eb sp up how s l r x q).1 a = q.1 a
  | 0, x, q => rfl
  | r + 1, x, q => (spA_f h r (x + 1) _).trans (spX_f h)
theorem spS_f {how s a : Nat} {l : Bool} {q : q_FT × Int32} (h : ¬ a = 197) : (spS so ea eb sp up m how l s q).1 a = q.1 a := by
  unfold spS sp2
  have h1 : ∀ q : q_FT × Int32, (sp1 how s q).1 a = q.1 a := fun q => by
    unfold sp1
    split
    · exact cmS_f h
    · rfl
  split
  · rw [cmS_f h, h1, spA_f h]
  · rw [h1, spA_f h]
theorem psA_f {how a : Nat} {l : Bool} (h : ¬ a = 197) : ∀ (r s : Nat) (q : q_FT × Int32), (psA so ea eb sp up m how l r s q).1 a = q.1 a
  | 0, s, q => rfl
  | r + 1, s, q => (psA_f h r (s + 1) _).trans (by
      split
      · rfl
      · exact spS_f h)
theorem l_spr {how s : Nat} {l : Bool} {il0 : Int32} (hh : how ≤ 2) (hs : s < 2688) : ∀ (r x : Nat), x + r = m → ∀ (B : q_FT) (il : Int32) (y9 y10 : Option Value), mG B so ea eb sp up m →
    (∀ y9 y10, E 199 S (d + 3) 156 151 [some (.ref (187 : Nat)), some (.int (nI how)), some (.int (nI s)), some (.int il0), some (.int (nI (s % 7))), some (.int (nI (s / 7 % 64))), some (.int (nI (s / 448))), some (.int (bI l)), some (.int (nI m)), y9, y10] [] (hp SL xs (u2 F 187 20 (spA so ea eb sp up how s l r x (B, il)).2) (spA so ea eb sp up how s l r x (B, il)).1 C) P) →
    E 199 S (d + 3) 156 47 [some (.ref (187 : Nat)), some (.int (nI how)), some (.int (nI s)), some (.int il0), some (.int (nI (s % 7))), some (.int (nI (s / 7 % 64))), some (.int (nI (s / 448))), some (.int (bI l)), some (.int (nI x)), y9, y10] [] (hp SL xs (u2 F 187 20 il) B C) P
  | 0, x, hx, B, il, y9, y10, g, k => by
    have e : x = m := by omega
    subst e
    have h3 : nI x ≤ nI x := Int32.le_refl _
    rw [e_156_47]
    simp only [e_156_49, e_156_50, e_156_53, e_156_54, e_156_55, kd_187, kd_188, kd_189, kd_190, kd_191, kd_192, kd_193, kd_194, kd_195, kd_196, kd_197, kd_198, ln_188, ln_189, ln_190, ln_191, ln_192, ln_193, ln_194, ln_195, ln_196, ln_197, ln_198, nz0, nz1, nzb, cmp0, cmpP, nl_n, nl_i, nl_r, nl_l, nl_nl, Nat.reduceAdd, Nat.reduceMul, Int32.reduceAdd, Int32.reduceSub, Int32.reduceMul, Int32.reduceLE, Int32.reduceLT, q_K_i, q_K_v, q_b0, q_bn, q_b1, z0, z1, q_bz, true_and, and_true, if_true, if_false, not_true_eq_false, not_false_eq_true, true_or, or_true, qsE_0, qsE_1, qsE_2, qsE_3, qsE_4, qsE_5, qsE_6, qsE_7, qsE_8, qsi_1, qsr_1, qsi_2, qsr_2, qsi_3, qsr_3, qsi_4, qsr_4, qsi_5, qsr_5, qsi_6, qsr_6, qsi_7, qsr_7, qsi_8, qsr_8, qsl_2, qsl_3, qsl_4, qsl_5, qsl_6, qsl_7, qsl_8, tc_0, tc_1, tc_2, tc_3, tc_4, tc_5, tc_6, tc_7, tc_8, tc_9, tc_10, tc_11, tc_12, tc_13, tc_14, tc_15, tc_16, tc_17, tc_18, tc_19, tc_20, tc_21, tc_22, tc_23, tc_24, tc_25, tc_26, tc_27, tc_28, tc_29, tc_30, tc_31, tc_32, tc_33, tc_34, tc_35, tc_36, tc_37, tc_38, tc_39, tc_40, tc_41, tc_42, tc_43, tc_44, tc_45, tc_46, tc_47, tc_48, tc_49, tc_50, tc_51, tc_52, tc_53, tc_54, tc_55, tc_56, tc_57, tc_58, tc_59, tc_60, tc_61, vq_0_48, vq_1_48, vq_2_48, vq_3_48, vq_4_48, vq_5_48, vq_6_48, vq_7_48, vq_8_48, vq_9_48, vq_10_48, vq_11_48, vq_12_48, vq_13_48, vq_14_48, vq_15_48, vq_16_48, vq_17_48, vq_18_48, vq_19_48, vq_20_48, vq_21_48, vq_22_48, vq_23_48, vq_24_48, vq_25_48, vq_26_48, vq_27_48, vq_28_48, vq_29_48, vq_30_48, vq_31_48, vq_32_48, vq_33_48, vq_34_48, vq_35_48, vq_36_48, vq_37_48, vq_38_48, vq_39_48, vq_40_48, vq_41_48, vq_42_48, vq_43_48, vq_44_48, vq_45_48, vq_46_48, vq_47_48, g.2.1, h3]
    exact k _ _
  | r + 1, x, hx, B, il, y9, y10, g, k => by
    have hxm : x < m := by omega
    have hx6 : x < 6 := by have := g.1; omega
    obtain ⟨g1, g2, g3, g4, g5, g6, g7, g8, g9⟩ := g.2.2.2 x hxm
    have h3 : ¬ nI m ≤ nI x := nI_ge (by omega) (by have := g.1; omega)
    have a1 : vp_in (nI s) 2688 := vp_in_nI hs (by omega)
    have a2 : (nI s).toNatClampNeg = s := nI_clamp (by omega)
    rw [e_156_47]
    have hk : ∀ y9 y10, E 199 S (d + 3) 156 151 [some (.ref (187 : Nat)), some (.int (nI how)), some (.int (nI s)), some (.int il0), some (.int (nI (s % 7))), some (.int (nI (s / 7 % 64))), some (.int (nI (s / 448))), some (.int (bI l)), some (.int (nI m)), y9, y10] [] (hp SL xs (u2 F 187 20 (spA so ea eb sp up how s l r (x + 1) (spX so ea eb sp up how s l x (B, il))).2) (spA so ea eb sp up how s l r (x + 1) (spX so ea eb sp up how s l x (B, il))).1 C) P := k
    have gB : mG (spX so ea eb sp up how s l x (B, il)).1 so ea eb sp up m := mG_c (spX_f (by omega)) g
    by_cases c1 : mHas up x
    · rcases mOt (t := s / 448) g hxm (by omega) c1 with ⟨o1, o2⟩ | ⟨o1, o2⟩
      · have e : spX so ea eb sp up how s l x (B, il) = (B, il) := by
          unfold spX
          rw [if_neg (not_not_intro c1), if_pos o1]
        rw [e] at hk
        simp only [e_156_49, e_156_50, e_156_53, e_156_54, e_156_55, e_156_58, e_156_59, e_156_61, e_156_63, e_156_66, e_156_68, e_156_70, e_156_72, e_156_75, e_156_76, e_156_77, e_156_79, e_156_81, e_156_83, e_156_86, e_156_89, e_156_90, e_156_92, e_156_93, e_156_96, e_156_97, e_156_98, e_156_101, e_156_104, e_156_106, e_156_107, e_156_109, e_156_110, e_156_111, e_156_114, e_156_116, e_156_118, e_156_119, e_156_121, e_156_123, e_156_125, e_156_128, e_156_129, e_156_132, e_156_133, e_156_134, e_156_135, e_156_137, e_156_138, e_156_141, e_156_142, e_156_145, e_156_148, kd_187, kd_188, kd_189, kd_190, kd_191, kd_192, kd_193, kd_194, kd_195, kd_196, kd_197, kd_198, ln_188, ln_189, ln_190, ln_191, ln_192, ln_193, ln_194, ln_195, ln_196, ln_197, ln_198, nz0, nz1, nzb, cmp0, cmpP, nl_n, nl_i, nl_r, nl_l, nl_nl, Nat.reduceAdd, Nat.reduceMul, Int32.reduceAdd, Int32.reduceSub, Int32.reduceMul, Int32.reduceLE, Int32.reduceLT, q_K_i, q_K_v, q_b0, q_bn, q_b1, z0, z1, q_bz, true_and, and_true, if_true, if_false, not_true_eq_false, not_false_eq_true, true_or, or_true, qsE_0, qsE_1, qsE_2, qsE_3, qsE_4, qsE_5, qsE_6, qsE_7, qsE_8, qsi_1, qsr_1, qsi_2, qsr_2, qsi_3, qsr_3, qsi_4, qsr_4, qsi_5, qsr_5, qsi_6, qsr_6, qsi_7, qsr_7, qsi_8, qsr_8, qsl_2, qsl_3, qsl_4, qsl_5, qsl_6, qsl_7, qsl_8, tc_0, tc_1, tc_2, tc_3, tc_4, tc_5, tc_6, tc_7, tc_8, tc_9, tc_10, tc_11, tc_12, tc_13, tc_14, tc_15, tc_16, tc_17, tc_18, tc_19, tc_20, tc_21, tc_22, tc_23, tc_24, tc_25, tc_26, tc_27, tc_28, tc_29, tc_30, tc_31, tc_32, tc_33, tc_34, tc_35, tc_36, tc_37, tc_38, tc_39, tc_40, tc_41, tc_42, tc_43, tc_44, tc_45, tc_46, tc_47, tc_48, tc_49, tc_50, tc_51, tc_52, tc_53, tc_54, tc_55, tc_56, tc_57, tc_58, tc_59, tc_60, tc_61, vq_0_48, vq_1_48, vq_2_48, vq_3_48, vq_4_48, vq_5_48, vq_6_48, vq_7_48, vq_8_48, vq_9_48, vq_10_48, vq_11_48, vq_12_48, vq_13_48, vq_14_48, vq_15_48, vq_16_48, vq_17_48, vq_18_48, vq_19_48, vq_20_48, vq_21_48, vq_22_48, vq_23_48, vq_24_48, vq_25_48, vq_26_48, vq_27_48, vq_28_48, vq_29_48, vq_30_48, vq_31_48, vq_32_48, vq_33_48, vq_34_48, vq_35_48, vq_36_48, vq_37_48, vq_38_48, vq_39_48, vq_40_48, vq_41_48, vq_42_48, vq_43_48, vq_44_48, vq_45_48, vq_46_48, vq_47_48, g.2.1, h3, s_over hx6, o2, nI_1]
        exact l_spr hh hs r (x + 1) (by omega) _ _ _ _ g hk
      · have o99 : ¬ otN ea eb x (s / 448) = 99 := by omega
        have on := nI_none (k := otN ea eb x (s / 448)) (by omega)
        by_cases c2 : ltB so how x l (s / 7 % 64)
        · have hq : ∀ X Y : Prop, Y → (if ¬ ltB so how x l (s / 7 % 64) then X else Y) := fun X Y z => by rw [if_neg (not_not_intro c2)]; exact z
          have e : spX so ea eb sp up how s l x (B, il) = cmS (nd (otN ea eb x (s / 448)) (thN so x (s / 7 % 64)) (s % 7)) (B 197 s + nI (sp x)) (B, il) := by
            unfold spX
            rw [if_neg (not_not_intro c1), if_neg o99, if_neg (not_not_intro c2)]
          have hnd : nd (otN ea eb x (s / 448)) (thN so x (s / 7 % 64)) (s % 7) < 2688 := nd_lt o1 (thN_lt hx6 (Nat.mod_lt _ (by omega))) (Nat.mod_lt _ (by omega))
          have hx64 := i_x64 x hx6 (s / 7 % 64) (Nat.mod_lt _ (by omega))
          by_cases c3 : so x = 1 ∨ so x = 2
          · have c3' : 1 ≤ so x ∧ so x ≤ 2 := by rcases c3 with z | z <;> rw [z] <;> decide
            have et : thN so x (s / 7 % 64) = s / 7 % 64 ^^^ 2 ^ x := if_pos c3
            rw [et] at hnd e
            rw [e] at hk gB
            simp only [e_156_49, e_156_50, e_156_53, e_156_54, e_156_55, e_156_58, e_156_59, e_156_61, e_156_63, e_156_66, e_156_68, e_156_70, e_156_72, e_156_75, e_156_76, e_156_77, e_156_79, e_156_81, e_156_83, e_156_86, e_156_89, e_156_90, e_156_92, e_156_93, e_156_96, e_156_97, e_156_98, e_156_101, e_156_104, e_156_106, e_156_107, e_156_109, e_156_110, e_156_111, e_156_114, e_156_116, e_156_118, e_156_119, e_156_121, e_156_123, e_156_125, e_156_128, e_156_129, e_156_132, e_156_133, e_156_134, e_156_135, e_156_137, e_156_138, e_156_141, e_156_142, e_156_145, e_156_148, kd_187, kd_188, kd_189, kd_190, kd_191, kd_192, kd_193, kd_194, kd_195, kd_196, kd_197, kd_198, ln_188, ln_189, ln_190, ln_191, ln_192, ln_193, ln_194, ln_195, ln_196, ln_197, ln_198, nz0, nz1, nzb, cmp0, cmpP, nl_n, nl_i, nl_r, nl_l, nl_nl, Nat.reduceAdd, Nat.reduceMul, Int32.reduceAdd, Int32.reduceSub, Int32.reduceMul, Int32.reduceLE, Int32.reduceLT, q_K_i, q_K_v, q_b0, q_bn, q_b1, z0, z1, q_bz, true_and, and_true, if_true, if_false, not_true_eq_false, not_false_eq_true, true_or, or_true, qsE_0, qsE_1, qsE_2, qsE_3, qsE_4, qsE_5, qsE_6, qsE_7, qsE_8, qsi_1, qsr_1, qsi_2, qsr_2, qsi_3, qsr_3, qsi_4, qsr_4, qsi_5, qsr_5, qsi_6, qsr_6, qsi_7, qsr_7, qsi_8, qsr_8, qsl_2, qsl_3, qsl_4, qsl_5, qsl_6, qsl_7, qsl_8, tc_0, tc_1, tc_2, tc_3, tc_4, tc_5, tc_6, tc_7, tc_8, tc_9, tc_10, tc_11, tc_12, tc_13, tc_14, tc_15, tc_16, tc_17, tc_18, tc_19, tc_20, tc_21, tc_22, tc_23, tc_24, tc_25, tc_26, tc_27, tc_28, tc_29, tc_30, tc_31, tc_32, tc_33, tc_34, tc_35, tc_36, tc_37, tc_38, tc_39, tc_40, tc_41, tc_42, tc_43, tc_44, tc_45, tc_46, tc_47, tc_48, tc_49, tc_50, tc_51, tc_52, tc_53, tc_54, tc_55, tc_56, tc_57, tc_58, tc_59, tc_60, tc_61, vq_0_48, vq_1_48, vq_2_48, vq_3_48, vq_4_48, vq_5_48, vq_6_48, vq_7_48, vq_8_48, vq_9_48, vq_10_48, vq_11_48, vq_12_48, vq_13_48, vq_14_48, vq_15_48, vq_16_48, vq_17_48, vq_18_48, vq_19_48, vq_20_48, vq_21_48, vq_22_48, vq_23_48, vq_24_48, vq_25_48, vq_26_48, vq_27_48, vq_28_48, vq_29_48, vq_30_48, vq_31_48, vq_32_48, vq_33_48, vq_34_48, vq_35_48, vq_36_48, vq_37_48, vq_38_48, vq_39_48, vq_40_48, vq_41_48, vq_42_48, vq_43_48, vq_44_48, vq_45_48, vq_46_48, vq_47_48, g.2.1, h3, s_over hx6, o2, on, s_letsBy g hxm hh, s_of0 hx6, s_of3 hx6, g1, g4, s_in, q_bT c3', io_1, hx64, s_state, i_nd, a1, a2, s_comesN hnd, nI_1]
            refine hq _ _ ?_
            exact l_spr hh hs r (x + 1) (by omega) _ _ _ _ gB hk
          · have c3' : ¬ (1 ≤ so x ∧ so x ≤ 2) := by rcases g9 with z | z | z | z | z <;> rw [z] at c3 ⊢ <;> simp at c3 <;> decide
            have et : thN so x (s / 7 % 64) = s / 7 % 64 := if_neg c3
            rw [et] at hnd e
            rw [e] at hk gB
            simp only [e_156_49, e_156_50, e_156_53, e_156_54, e_156_55, e_156_58, e_156_59, e_156_61, e_156_63, e_156_66, e_156_68, e_156_70, e_156_72, e_156_75, e_156_76, e_156_77, e_156_79, e_156_81, e_156_83, e_156_86, e_156_89, e_156_90, e_156_92, e_156_93, e_156_96, e_156_97, e_156_98, e_156_101, e_156_104, e_156_106, e_156_107, e_156_109, e_156_110, e_156_111, e_156_114, e_156_116, e_156_118, e_156_119, e_156_121, e_156_123, e_156_125, e_156_128, e_156_129, e_156_132, e_156_133, e_156_134, e_156_135, e_156_137, e_156_138, e_156_141, e_156_142, e_156_145, e_156_148, kd_187, kd_188, kd_189, kd_190, kd_191, kd_192, kd_193, kd_194, kd_195, kd_196, kd_197, kd_198, ln_188, ln_189, ln_190, ln_191, ln_192, ln_193, ln_194, ln_195, ln_196, ln_197, ln_198, nz0, nz1, nzb, cmp0, cmpP, nl_n, nl_i, nl_r, nl_l, nl_nl, Nat.reduceAdd, Nat.reduceMul, Int32.reduceAdd, Int32.reduceSub, Int32.reduceMul, Int32.reduceLE, Int32.reduceLT, q_K_i, q_K_v, q_b0, q_bn, q_b1, z0, z1, q_bz, true_and, and_true, if_true, if_false, not_true_eq_false, not_false_eq_true, true_or, or_true, qsE_0, qsE_1, qsE_2, qsE_3, qsE_4, qsE_5, qsE_6, qsE_7, qsE_8, qsi_1, qsr_1, qsi_2, qsr_2, qsi_3, qsr_3, qsi_4, qsr_4, qsi_5, qsr_5, qsi_6, qsr_6, qsi_7, qsr_7, qsi_8, qsr_8, qsl_2, qsl_3, qsl_4, qsl_5, qsl_6, qsl_7, qsl_8, tc_0, tc_1, tc_2, tc_3, tc_4, tc_5, tc_6, tc_7, tc_8, tc_9, tc_10, tc_11, tc_12, tc_13, tc_14, tc_15, tc_16, tc_17, tc_18, tc_19, tc_20, tc_21, tc_22, tc_23, tc_24, tc_25, tc_26, tc_27, tc_28, tc_29, tc_30, tc_31, tc_32, tc_33, tc_34, tc_35, tc_36, tc_37, tc_38, tc_39, tc_40, tc_41, tc_42, tc_43, tc_44, tc_45, tc_46, tc_47, tc_48, tc_49, tc_50, tc_51, tc_52, tc_53, tc_54, tc_55, tc_56, tc_57, tc_58, tc_59, tc_60, tc_61, vq_0_48, vq_1_48, vq_2_48, vq_3_48, vq_4_48, vq_5_48, vq_6_48, vq_7_48, vq_8_48, vq_9_48, vq_10_48, vq_11_48, vq_12_48, vq_13_48, vq_14_48, vq_15_48, vq_16_48, vq_17_48, vq_18_48, vq_19_48, vq_20_48, vq_21_48, vq_22_48, vq_23_48, vq_24_48, vq_25_48, vq_26_48, vq_27_48, vq_28_48, vq_29_48, vq_30_48, vq_31_48, vq_32_48, vq_33_48, vq_34_48, vq_35_48, vq_36_48, vq_37_48, vq_38_48, vq_39_48, vq_40_48, vq_41_48, vq_42_48, vq_43_48, vq_44_48, vq_45_48, vq_46_48, vq_47_48, g.2.1, h3, s_over hx6, o2, on, s_letsBy g hxm hh, s_of0 hx6, s_of3 hx6, g1, g4, s_in, q_bF c3', s_state, i_nd, a1, a2, s_comesN hnd, nI_1]
            refine hq _ _ ?_
            exact l_spr hh hs r (x + 1) (by omega) _ _ _ _ gB hk
        · have hq : ∀ X Y : Prop, X → (if ¬ ltB so how x l (s / 7 % 64) then X else Y) := fun X Y z => by rw [if_pos c2]; exact z
          have e : spX so ea eb sp up how s l x (B, il) = (B, il) := by
            unfold spX
            rw [if_neg (not_not_intro c1), if_neg o99, if_pos c2]
          rw [e] at hk
          simp only [e_156_49, e_156_50, e_156_53, e_156_54, e_156_55, e_156_58, e_156_59, e_156_61, e_156_63, e_156_66, e_156_68, e_156_70, e_156_72, e_156_75, e_156_76, e_156_77, e_156_79, e_156_81, e_156_83, e_156_86, e_156_145, e_156_148, kd_187, kd_188, kd_189, kd_190, kd_191, kd_192, kd_193, kd_194, kd_195, kd_196, kd_197, kd_198, ln_188, ln_189, ln_190, ln_191, ln_192, ln_193, ln_194, ln_195, ln_196, ln_197, ln_198, nz0, nz1, nzb, cmp0, cmpP, nl_n, nl_i, nl_r, nl_l, nl_nl, Nat.reduceAdd, Nat.reduceMul, Int32.reduceAdd, Int32.reduceSub, Int32.reduceMul, Int32.reduceLE, Int32.reduceLT, q_K_i, q_K_v, q_b0, q_bn, q_b1, z0, z1, q_bz, true_and, and_true, if_true, if_false, not_true_eq_false, not_false_eq_true, true_or, or_true, qsE_0, qsE_1, qsE_2, qsE_3, qsE_4, qsE_5, qsE_6, qsE_7, qsE_8, qsi_1, qsr_1, qsi_2, qsr_2, qsi_3, qsr_3, qsi_4, qsr_4, qsi_5, qsr_5, qsi_6, qsr_6, qsi_7, qsr_7, qsi_8, qsr_8, qsl_2, qsl_3, qsl_4, qsl_5, qsl_6, qsl_7, qsl_8, tc_0, tc_1, tc_2, tc_3, tc_4, tc_5, tc_6, tc_7, tc_8, tc_9, tc_10, tc_11, tc_12, tc_13, tc_14, tc_15, tc_16, tc_17, tc_18, tc_19, tc_20, tc_21, tc_22, tc_23, tc_24, tc_25, tc_26, tc_27, tc_28, tc_29, tc_30, tc_31, tc_32, tc_33, tc_34, tc_35, tc_36, tc_37, tc_38, tc_39, tc_40, tc_41, tc_42, tc_43, tc_44, tc_45, tc_46, tc_47, tc_48, tc_49, tc_50, tc_51, tc_52, tc_53, tc_54, tc_55, tc_56, tc_57, tc_58, tc_59, tc_60, tc_61, vq_0_48, vq_1_48, vq_2_48, vq_3_48, vq_4_48, vq_5_48, vq_6_48, vq_7_48, vq_8_48, vq_9_48, vq_10_48, vq_11_48, vq_12_48, vq_13_48, vq_14_48, vq_15_48, vq_16_48, vq_17_48, vq_18_48, vq_19_48, vq_20_48, vq_21_48, vq_22_48, vq_23_48, vq_24_48, vq_25_48, vq_26_48, vq_27_48, vq_28_48, vq_29_48, vq_30_48, vq_31_48, vq_32_48, vq_33_48, vq_34_48, vq_35_48, vq_36_48, vq_37_48, vq_38_48, vq_39_48, vq_40_48, vq_41_48, vq_42_48, vq_43_48, vq_44_48, vq_45_48, vq_46_48, vq_47_48, g.2.1, h3, s_over hx6, o2, on, s_letsBy g hxm hh, nI_1]
          refine hq _ _ ?_
          exact l_spr hh hs r (x + 1) (by omega) _ _ _ _ g hk
    · have e : spX so ea eb sp up how s l x (B, il) = (B, il) := by
        unfold spX
        rw [if_pos c1]
      rw [e] at hk
      simp only [e_156_49, e_156_50, e_156_53, e_156_54, e_156_55, e_156_58, e_156_59, e_156_61, e_156_63, e_156_66, e_156_68, e_156_70, e_156_72, e_156_75, e_156_76, e_156_77, e_156_79, e_156_81, e_156_83, e_156_86, e_156_89, e_156_90, e_156_92, e_156_93, e_156_96, e_156_97, e_156_98, e_156_101, e_156_104, e_156_106, e_156_107, e_156_109, e_156_110, e_156_111, e_156_114, e_156_116, e_156_118, e_156_119, e_156_121, e_156_123, e_156_125, e_156_128, e_156_129, e_156_132, e_156_133, e_156_134, e_156_135, e_156_137, e_156_138, e_156_141, e_156_142, e_156_145, e_156_148, kd_187, kd_188, kd_189, kd_190, kd_191, kd_192, kd_193, kd_194, kd_195, kd_196, kd_197, kd_198, ln_188, ln_189, ln_190, ln_191, ln_192, ln_193, ln_194, ln_195, ln_196, ln_197, ln_198, nz0, nz1, nzb, cmp0, cmpP, nl_n, nl_i, nl_r, nl_l, nl_nl, Nat.reduceAdd, Nat.reduceMul, Int32.reduceAdd, Int32.reduceSub, Int32.reduceMul, Int32.reduceLE, Int32.reduceLT, q_K_i, q_K_v, q_b0, q_bn, q_b1, z0, z1, q_bz, true_and, and_true, if_true, if_false, not_true_eq_false, not_false_eq_true, true_or, or_true, qsE_0, qsE_1, qsE_2, qsE_3, qsE_4, qsE_5, qsE_6, qsE_7, qsE_8, qsi_1, qsr_1, qsi_2, qsr_2, qsi_3, qsr_3, qsi_4, qsr_4, qsi_5, qsr_5, qsi_6, qsr_6, qsi_7, qsr_7, qsi_8, qsr_8, qsl_2, qsl_3, qsl_4, qsl_5, qsl_6, qsl_7, qsl_8, tc_0, tc_1, tc_2, tc_3, tc_4, tc_5, tc_6, tc_7, tc_8, tc_9, tc_10, tc_11, tc_12, tc_13, tc_14, tc_15, tc_16, tc_17, tc_18, tc_19, tc_20, tc_21, tc_22, tc_23, tc_24, tc_25, tc_26, tc_27, tc_28, tc_29, tc_30, tc_31, tc_32, tc_33, tc_34, tc_35, tc_36, tc_37, tc_38, tc_39, tc_40, tc_41, tc_42, tc_43, tc_44, tc_45, tc_46, tc_47, tc_48, tc_49, tc_50, tc_51, tc_52, tc_53, tc_54, tc_55, tc_56, tc_57, tc_58, tc_59, tc_60, tc_61, vq_0_48, vq_1_48, vq_2_48, vq_3_48, vq_4_48, vq_5_48, vq_6_48, vq_7_48, vq_8_48, vq_9_48, vq_10_48, vq_11_48, vq_12_48, vq_13_48, vq_14_48, vq_15_48, vq_16_48, vq_17_48, vq_18_48, vq_19_48, vq_20_48, vq_21_48, vq_22_48, vq_23_48, vq_24_48, vq_25_48, vq_26_48, vq_27_48, vq_28_48, vq_29_48, vq_30_48, vq_31_48, vq_32_48, vq_33_48, vq_34_48, vq_35_48, vq_36_48, vq_37_48, vq_38_48, vq_39_48, vq_40_48, vq_41_48, vq_42_48, vq_43_48, vq_44_48, vq_45_48, vq_46_48, vq_47_48, g.2.1, h3, s_over hx6, mOt0 g c1, nI_1]
      exact l_spr hh hs r (x + 1) (by omega) _ _ _ _ g hk
end MS
