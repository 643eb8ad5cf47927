/-! literal places -/
theorem tc_0 : Int32.toNatClampNeg 0 = 0 := of_decide_eq_true rfl
theorem tc_1 : Int32.toNatClampNeg 1 = 1 := of_decide_eq_true rfl
theorem tc_2 : Int32.toNatClampNeg 2 = 2 := of_decide_eq_true rfl
theorem tc_3 : Int32.toNatClampNeg 3 = 3 := of_decide_eq_true rfl
theorem tc_4 : Int32.toNatClampNeg 4 = 4 := of_decide_eq_true rfl
theorem tc_5 : Int32.toNatClampNeg 5 = 5 := of_decide_eq_true rfl
theorem tc_6 : Int32.toNatClampNeg 6 = 6 := of_decide_eq_true rfl
theorem tc_7 : Int32.toNatClampNeg 7 = 7 := of_decide_eq_true rfl
theorem tc_8 : Int32.toNatClampNeg 8 = 8 := of_decide_eq_true rfl
theorem tc_9 : Int32.toNatClampNeg 9 = 9 := of_decide_eq_true rfl
theorem tc_10 : Int32.toNatClampNeg 10 = 10 := of_decide_eq_true rfl
theorem tc_11 : Int32.toNatClampNeg 11 = 11 := of_decide_eq_true rfl
theorem tc_12 : Int32.toNatClampNeg 12 = 12 := of_decide_eq_true rfl
theorem tc_13 : Int32.toNatClampNeg 13 = 13 := of_decide_eq_true rfl
theorem tc_14 : Int32.toNatClampNeg 14 = 14 := of_decide_eq_true rfl
theorem tc_15 : Int32.toNatClampNeg 15 = 15 := of_decide_eq_true rfl
theorem tc_16 : Int32.toNatClampNeg 16 = 16 := of_decide_eq_true rfl
theorem tc_17 : Int32.toNatClampNeg 17 = 17 := of_decide_eq_true rfl
theorem tc_18 : Int32.toNatClampNeg 18 = 18 := of_decide_eq_true rfl
theorem tc_19 : Int32.toNatClampNeg 19 = 19 := of_decide_eq_true rfl
theorem tc_20 : Int32.toNatClampNeg 20 = 20 := of_decide_eq_true rfl
theorem tc_21 : Int32.toNatClampNeg 21 = 21 := of_decide_eq_true rfl
theorem tc_22 : Int32.toNatClampNeg 22 = 22 := of_decide_eq_true rfl
theorem tc_23 : Int32.toNatClampNeg 23 = 23 := of_decide_eq_true rfl
theorem tc_24 : Int32.toNatClampNeg 24 = 24 := of_decide_eq_true rfl
theorem tc_25 : Int32.toNatClampNeg 25 = 25 := of_decide_eq_true rfl
theorem tc_26 : Int32.toNatClampNeg 26 = 26 := of_decide_eq_true rfl
theorem tc_27 : Int32.toNatClampNeg 27 = 27 := of_decide_eq_true rfl
theorem tc_28 : Int32.toNatClampNeg 28 = 28 := of_decide_eq_true rfl
theorem tc_29 : Int32.toNatClampNeg 29 = 29 := of_decide_eq_true rfl
theorem tc_30 : Int32.toNatClampNeg 30 = 30 := of_decide_eq_true rfl
theorem tc_31 : Int32.toNatClampNeg 31 = 31 := of_decide_eq_true rfl
theorem tc_32 : Int32.toNatClampNeg 32 = 32 := of_decide_eq_true rfl
theorem tc_33 : Int32.toNatClampNeg 33 = 33 := of_decide_eq_true rfl
theorem tc_34 : Int32.toNatClampNeg 34 = 34 := of_decide_eq_true rfl
theorem tc_35 : Int32.toNatClampNeg 35 = 35 := of_decide_eq_true rfl
theorem tc_36 : Int32.toNatClampNeg 36 = 36 := of_decide_eq_true rfl
theorem tc_37 : Int32.toNatClampNeg 37 = 37 := of_decide_eq_true rfl
theorem tc_38 : Int32.toNatClampNeg 38 = 38 := of_decide_eq_true rfl
theorem tc_39 : Int32.toNatClampNeg 39 = 39 := of_decide_eq_true rfl
theorem tc_40 : Int32.toNatClampNeg 40 = 40 := of_decide_eq_true rfl
theorem tc_41 : Int32.toNatClampNeg 41 = 41 := of_decide_eq_true rfl
theorem tc_42 : Int32.toNatClampNeg 42 = 42 := of_decide_eq_true rfl
theorem tc_43 : Int32.toNatClampNeg 43 = 43 := of_decide_eq_true rfl
theorem tc_44 : Int32.toNatClampNeg 44 = 44 := of_decide_eq_true rfl
theorem tc_45 : Int32.toNatClampNeg 45 = 45 := of_decide_eq_true rfl
theorem tc_46 : Int32.toNatClampNeg 46 = 46 := of_decide_eq_true rfl
theorem tc_47 : Int32.toNatClampNeg 47 = 47 := of_decide_eq_true rfl
theorem tc_48 : Int32.toNatClampNeg 48 = 48 := of_decide_eq_true rfl
theorem tc_49 : Int32.toNatClampNeg 49 = 49 := of_decide_eq_true rfl
theorem tc_50 : Int32.toNatClampNeg 50 = 50 := of_decide_eq_true rfl
theorem tc_51 : Int32.toNatClampNeg 51 = 51 := of_decide_eq_true rfl
theorem tc_52 : Int32.toNatClampNeg 52 = 52 := of_decide_eq_true rfl
theorem tc_53 : Int32.toNatClampNeg 53 = 53 := of_decide_eq_true rfl
theorem tc_54 : Int32.toNatClampNeg 54 = 54 := of_decide_eq_true rfl
theorem tc_55 : Int32.toNatClampNeg 55 = 55 := of_decide_eq_true rfl
theorem tc_56 : Int32.toNatClampNeg 56 = 56 := of_decide_eq_true rfl
theorem tc_57 : Int32.toNatClampNeg 57 = 57 := of_decide_eq_true rfl
theorem tc_58 : Int32.toNatClampNeg 58 = 58 := of_decide_eq_true rfl
theorem tc_59 : Int32.toNatClampNeg 59 = 59 := of_decide_eq_true rfl
theorem tc_60 : Int32.toNatClampNeg 60 = 60 := of_decide_eq_true rfl
theorem tc_61 : Int32.toNatClampNeg 61 = 61 := of_decide_eq_true rfl
theorem vq_0_48 : vp_in 0 48 := by unfold vp_in; decide
theorem vq_1_48 : vp_in 1 48 := by unfold vp_in; decide
theorem vq_2_48 : vp_in 2 48 := by unfold vp_in; decide
theorem vq_3_48 : vp_in 3 48 := by unfold vp_in; decide
theorem vq_4_48 : vp_in 4 48 := by unfold vp_in; decide
theorem vq_5_48 : vp_in 5 48 := by unfold vp_in; decide
theorem vq_6_48 : vp_in 6 48 := by unfold vp_in; decide
theorem vq_7_48 : vp_in 7 48 := by unfold vp_in; decide
theorem vq_8_48 : vp_in 8 48 := by unfold vp_in; decide
theorem vq_9_48 : vp_in 9 48 := by unfold vp_in; decide
theorem vq_10_48 : vp_in 10 48 := by unfold vp_in; decide
theorem vq_11_48 : vp_in 11 48 := by unfold vp_in; decide
theorem vq_12_48 : vp_in 12 48 := by unfold vp_in; decide
theorem vq_13_48 : vp_in 13 48 := by unfold vp_in; decide
theorem vq_14_48 : vp_in 14 48 := by unfold vp_in; decide
theorem vq_15_48 : vp_in 15 48 := by unfold vp_in; decide
theorem vq_16_48 : vp_in 16 48 := by unfold vp_in; decide
theorem vq_17_48 : vp_in 17 48 := by unfold vp_in; decide
theorem vq_18_48 : vp_in 18 48 := by unfold vp_in; decide
theorem vq_19_48 : vp_in 19 48 := by unfold vp_in; decide
theorem vq_20_48 : vp_in 20 48 := by unfold vp_in; decide
theorem vq_21_48 : vp_in 21 48 := by unfold vp_in; decide
theorem vq_22_48 : vp_in 22 48 := by unfold vp_in; decide
theorem vq_23_48 : vp_in 23 48 := by unfold vp_in; decide
theorem vq_24_48 : vp_in 24 48 := by unfold vp_in; decide
theorem vq_25_48 : vp_in 25 48 := by unfold vp_in; decide
theorem vq_26_48 : vp_in 26 48 := by unfold vp_in; decide
theorem vq_27_48 : vp_in 27 48 := by unfold vp_in; decide
theorem vq_28_48 : vp_in 28 48 := by unfold vp_in; decide
theorem vq_29_48 : vp_in 29 48 := by unfold vp_in; decide
theorem vq_30_48 : vp_in 30 48 := by unfold vp_in; decide
theorem vq_31_48 : vp_in 31 48 := by unfold vp_in; decide
theorem vq_32_48 : vp_in 32 48 := by unfold vp_in; decide
theorem vq_33_48 : vp_in 33 48 := by unfold vp_in; decide
theorem vq_34_48 : vp_in 34 48 := by unfold vp_in; decide
theorem vq_35_48 : vp_in 35 48 := by unfold vp_in; decide
theorem vq_36_48 : vp_in 36 48 := by unfold vp_in; decide
theorem vq_37_48 : vp_in 37 48 := by unfold vp_in; decide
theorem vq_38_48 : vp_in 38 48 := by unfold vp_in; decide
theorem vq_39_48 : vp_in 39 48 := by unfold vp_in; decide
theorem vq_40_48 : vp_in 40 48 := by unfold vp_in; decide
theorem vq_41_48 : vp_in 41 48 := by unfold vp_in; decide
theorem vq_42_48 : vp_in 42 48 := by unfold vp_in; decide
theorem vq_43_48 : vp_in 43 48 := by unfold vp_in; decide
theorem vq_44_48 : vp_in 44 48 := by unfold vp_in; decide
theorem vq_45_48 : vp_in 45 48 := by unfold vp_in; decide
theorem vq_46_48 : vp_in 46 48 := by unfold vp_in; decide
theorem vq_47_48 : vp_in 47 48 := by unfold vp_in; decide
theorem vq_0_3 : vp_in 0 3 := by unfold vp_in; decide
theorem vq_1_3 : vp_in 1 3 := by unfold vp_in; decide
theorem vq_2_3 : vp_in 2 3 := by unfold vp_in; decide
theorem vq_0_4 : vp_in 0 4 := by unfold vp_in; decide
theorem vq_1_4 : vp_in 1 4 := by unfold vp_in; decide
theorem vq_2_4 : vp_in 2 4 := by unfold vp_in; decide
theorem vq_3_4 : vp_in 3 4 := by unfold vp_in; decide
theorem vq_0_6 : vp_in 0 6 := by unfold vp_in; decide
theorem vq_1_6 : vp_in 1 6 := by unfold vp_in; decide
theorem vq_2_6 : vp_in 2 6 := by unfold vp_in; decide
theorem vq_3_6 : vp_in 3 6 := by unfold vp_in; decide
theorem vq_4_6 : vp_in 4 6 := by unfold vp_in; decide
theorem vq_5_6 : vp_in 5 6 := by unfold vp_in; decide
theorem vq_0_2 : vp_in 0 2 := by unfold vp_in; decide
theorem vq_1_2 : vp_in 1 2 := by unfold vp_in; decide
theorem vq_0_8 : vp_in 0 8 := by unfold vp_in; decide
theorem vq_1_8 : vp_in 1 8 := by unfold vp_in; decide
theorem vq_2_8 : vp_in 2 8 := by unfold vp_in; decide
theorem vq_3_8 : vp_in 3 8 := by unfold vp_in; decide
theorem vq_4_8 : vp_in 4 8 := by unfold vp_in; decide
theorem vq_5_8 : vp_in 5 8 := by unfold vp_in; decide
theorem vq_6_8 : vp_in 6 8 := by unfold vp_in; decide
theorem vq_7_8 : vp_in 7 8 := by unfold vp_in; decide
theorem vq_0_16 : vp_in 0 16 := by unfold vp_in; decide
theorem vq_1_16 : vp_in 1 16 := by unfold vp_in; decide
theorem vq_2_16 : vp_in 2 16 := by unfold vp_in; decide
theorem vq_3_16 : vp_in 3 16 := by unfold vp_in; decide
theorem vq_4_16 : vp_in 4 16 := by unfold vp_in; decide
theorem vq_5_16 : vp_in 5 16 := by unfold vp_in; decide
theorem vq_6_16 : vp_in 6 16 := by unfold vp_in; decide
theorem vq_7_16 : vp_in 7 16 := by unfold vp_in; decide
theorem vq_8_16 : vp_in 8 16 := by unfold vp_in; decide
theorem vq_9_16 : vp_in 9 16 := by unfold vp_in; decide
theorem vq_10_16 : vp_in 10 16 := by unfold vp_in; decide
theorem vq_11_16 : vp_in 11 16 := by unfold vp_in; decide
theorem vq_12_16 : vp_in 12 16 := by unfold vp_in; decide
theorem vq_13_16 : vp_in 13 16 := by unfold vp_in; decide
theorem vq_14_16 : vp_in 14 16 := by unfold vp_in; decide
theorem vq_15_16 : vp_in 15 16 := by unfold vp_in; decide
theorem qsE_0 : (q_cs [] ≤ 0) ↔ True := by simp [q_cs]
theorem qsE_1 : (q_cs [] ≤ 1) ↔ True := by simp [q_cs]
theorem qsi_1 (x : Int32) (st : List Value) : (q_cs (.int x :: st) ≤ 1) ↔ q_cs st ≤ 0 := by simp only [q_cs, List.map_cons, List.sum_cons, Value.category]; omega
theorem qsr_1 (x : Nat) (st : List Value) : (q_cs (.ref x :: st) ≤ 1) ↔ q_cs st ≤ 0 := by simp only [q_cs, List.map_cons, List.sum_cons, Value.category]; omega
theorem qsE_2 : (q_cs [] ≤ 2) ↔ True := by simp [q_cs]
theorem qsi_2 (x : Int32) (st : List Value) : (q_cs (.int x :: st) ≤ 2) ↔ q_cs st ≤ 1 := by simp only [q_cs, List.map_cons, List.sum_cons, Value.category]; omega
theorem qsr_2 (x : Nat) (st : List Value) : (q_cs (.ref x :: st) ≤ 2) ↔ q_cs st ≤ 1 := by simp only [q_cs, List.map_cons, List.sum_cons, Value.category]; omega
theorem qsl_2 (x : Int64) (st : List Value) : (q_cs (.long x :: st) ≤ 2) ↔ q_cs st ≤ 0 := by simp only [q_cs, List.map_cons, List.sum_cons, Value.category]; omega
theorem qsE_3 : (q_cs [] ≤ 3) ↔ True := by simp [q_cs]
theorem qsi_3 (x : Int32) (st : List Value) : (q_cs (.int x :: st) ≤ 3) ↔ q_cs st ≤ 2 := by simp only [q_cs, List.map_cons, List.sum_cons, Value.category]; omega
theorem qsr_3 (x : Nat) (st : List Value) : (q_cs (.ref x :: st) ≤ 3) ↔ q_cs st ≤ 2 := by simp only [q_cs, List.map_cons, List.sum_cons, Value.category]; omega
theorem qsl_3 (x : Int64) (st : List Value) : (q_cs (.long x :: st) ≤ 3) ↔ q_cs st ≤ 1 := by simp only [q_cs, List.map_cons, List.sum_cons, Value.category]; omega
theorem qsE_4 : (q_cs [] ≤ 4) ↔ True := by simp [q_cs]
theorem qsi_4 (x : Int32) (st : List Value) : (q_cs (.int x :: st) ≤ 4) ↔ q_cs st ≤ 3 := by simp only [q_cs, List.map_cons, List.sum_cons, Value.category]; omega
theorem qsr_4 (x : Nat) (st : List Value) : (q_cs (.ref x :: st) ≤ 4) ↔ q_cs st ≤ 3 := by simp only [q_cs, List.map_cons, List.sum_cons, Value.category]; omega
theorem qsl_4 (x : Int64) (st : List Value) : (q_cs (.long x :: st) ≤ 4) ↔ q_cs st ≤ 2 := by simp only [q_cs, List.map_cons, List.sum_cons, Value.category]; omega
theorem qsE_5 : (q_cs [] ≤ 5) ↔ True := by simp [q_cs]
theorem qsi_5 (x : Int32) (st : List Value) : (q_cs (.int x :: st) ≤ 5) ↔ q_cs st ≤ 4 := by simp only [q_cs, List.map_cons, List.sum_cons, Value.category]; omega
theorem qsr_5 (x : Nat) (st : List Value) : (q_cs (.ref x :: st) ≤ 5) ↔ q_cs st ≤ 4 := by simp only [q_cs, List.map_cons, List.sum_cons, Value.category]; omega
theorem qsl_5 (x : Int64) (st : List Value) : (q_cs (.long x :: st) ≤ 5) ↔ q_cs st ≤ 3 := by simp only [q_cs, List.map_cons, List.sum_cons, Value.category]; omega
theorem qsE_6 : (q_cs [] ≤ 6) ↔ True := by simp [q_cs]
theorem qsi_6 (x : Int32) (st : List Value) : (q_cs (.int x :: st) ≤ 6) ↔ q_cs st ≤ 5 := by simp only [q_cs, List.map_cons, List.sum_cons, Value.category]; omega
theorem qsr_6 (x : Nat) (st : List Value) : (q_cs (.ref x :: st) ≤ 6) ↔ q_cs st ≤ 5 := by simp only [q_cs, List.map_cons, List.sum_cons, Value.category]; omega
theorem qsl_6 (x : Int64) (st : List Value) : (q_cs (.long x :: st) ≤ 6) ↔ q_cs st ≤ 4 := by simp only [q_cs, List.map_cons, List.sum_cons, Value.category]; omega
theorem qsE_7 : (q_cs [] ≤ 7) ↔ True := by simp [q_cs]
theorem qsi_7 (x : Int32) (st : List Value) : (q_cs (.int x :: st) ≤ 7) ↔ q_cs st ≤ 6 := by simp only [q_cs, List.map_cons, List.sum_cons, Value.category]; omega
theorem qsr_7 (x : Nat) (st : List Value) : (q_cs (.ref x :: st) ≤ 7) ↔ q_cs st ≤ 6 := by simp only [q_cs, List.map_cons, List.sum_cons, Value.category]; omega
theorem qsl_7 (x : Int64) (st : List Value) : (q_cs (.long x :: st) ≤ 7) ↔ q_cs st ≤ 5 := by simp only [q_cs, List.map_cons, List.sum_cons, Value.category]; omega
theorem qsE_8 : (q_cs [] ≤ 8) ↔ True := by simp [q_cs]
theorem qsi_8 (x : Int32) (st : List Value) : (q_cs (.int x :: st) ≤ 8) ↔ q_cs st ≤ 7 := by simp only [q_cs, List.map_cons, List.sum_cons, Value.category]; omega
theorem qsr_8 (x : Nat) (st : List Value) : (q_cs (.ref x :: st) ≤ 8) ↔ q_cs st ≤ 7 := by simp only [q_cs, List.map_cons, List.sum_cons, Value.category]; omega
theorem qsl_8 (x : Int64) (st : List Value) : (q_cs (.long x :: st) ≤ 8) ↔ q_cs st ≤ 6 := by simp only [q_cs, List.map_cons, List.sum_cons, Value.category]; omega
theorem cmp0 {x y : Int64} : (lg_cmp x y = 0) ↔ x = y := by
  unfold lg_cmp
  by_cases h1 : y < x
  · have : ¬ x = y := fun e => by subst e; exact absurd h1 (by simp)
    simp [h1, this]
  · by_cases h2 : x = y <;> simp [h1, h2]
theorem cmpP {x y : Int64} : (0 < lg_cmp x y) ↔ y < x := by
  unfold lg_cmp
  by_cases h1 : y < x
  · simp [h1]
  · by_cases h2 : x = y <;> simp [h1, h2]
theorem nl_n : q_nl none = none := by simp [q_nl]
theorem nl_i (x : Int32) : q_nl (some (.int x)) = some (.int x) := by simp [q_nl, Value.category]
theorem nl_r (x : Nat) : q_nl (some (.ref x)) = some (.ref x) := by simp [q_nl, Value.category]
theorem nl_l (x : Int64) : q_nl (some (.long x)) = none := by simp [q_nl, Value.category]
theorem nl_nl (o : Option Value) : q_nl (q_nl o) = q_nl o := by
  cases o with
  | none => rfl
  | some v => cases v <;> rfl
