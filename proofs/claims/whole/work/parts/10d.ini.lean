/-! MAKING: Standing -/
abbrev zF : q_FT := fun _ _ => 0
abbrev zC : q_CT := fun _ _ => 0
abbrev eA (t n : Nat) : q_E := .inl (t, (n, .inl (fun _ => 0)))
def isS (g : Nat → q_E) (a : Nat) : Prop := g a = .inr (5, q_fs zF zC a 5) ∧ g (a + 1) = eA 0 3 ∧ g (a + 2) = eA 0 3 ∧ g (a + 3) = eA 0 3 ∧ g (a + 4) = eA 0 4
section IN
variable {S d r : Nat} {P : Option Value → q_H → Nat → Nat → Prop} {SL : Nat} {xs : Nat → Int32} {g : Nat → q_E}

theorem n_49 (hr : r + 5 < 900) (hg : g r = .inr (5, q_def 5)) (w0 : WG (r + 1) g) (K : ∀ g', (∀ a, a < r → g' a = g a) → isS g' r → WG (r + 5) g' → P none (hpN SL xs (r + 5) g') (r + 5) (S + 13)) : E (r + 1) S d 49 0 [some (.ref r)] [] (hpN SL xs (r + 1) g) P := by
  refine (E_lop (qd_49 dX5_init_0) rfl rfl rfl rfl rfl).mpr ?_
  refine (A_obj (o := 5) rfl (qd_49 dX5_init_1) rfl rfl (by simp [q_cs])).mpr ?_
  refine (E_lop (qd_49 dX5_init_4) rfl rfl rfl rfl rfl).mpr ?_
  refine (E_alu (qd_49 dX5_init_5) rfl rfl rfl).mpr ?_
  refine (A_arr (o := 5) (n := 3) rfl (qd_49 dX5_init_6) (by decide) rfl rfl (by omega) (wf1 (wLr (by omega) wL0) (wqi (wqr (by omega) wq0)) w0 rfl)).mpr ?_
  have w1 := WG_new (e := .inl (0, (3, .inl (fun _ => 0)))) w0 trivial
  refine (A_put (o := 5) rfl rfl (qd_49 dX5_init_8) rfl rfl (Nat.le_of_ble_eq_true rfl) fitA (by omega) ((up_ne (by omega)).trans hg)).mpr ?_
  have w2 := WG_up (a := r) (e := .inr (5, [.ref (r + 1), .null, .null, .null, .int 0, .int 0, .int 0])) w1 (wfO (wqr (by omega) (wqn (wqn (wqn (wqi (wqi (wqi wq0))))))))
  refine (E_lop (qd_49 dX5_init_11) rfl rfl rfl rfl rfl).mpr ?_
  refine (E_alu (qd_49 dX5_init_12) rfl rfl rfl).mpr ?_
  refine (A_arr (o := 5) (n := 3) rfl (qd_49 dX5_init_13) (by decide) rfl rfl (by omega) (wf1 (wLr (by omega) wL0) (wqi (wqr (by omega) wq0)) w2 rfl)).mpr ?_
  have w3 := WG_new (e := .inl (0, (3, .inl (fun _ => 0)))) w2 trivial
  refine (A_put (o := 5) rfl rfl (qd_49 dX5_init_15) rfl rfl (Nat.le_of_ble_eq_true rfl) fitA (by omega) ((up_ne (by omega)).trans up_eq)).mpr ?_
  have w4 := WG_up (a := r) (e := .inr (5, [.ref (r + 1), .ref (r + 2), .null, .null, .int 0, .int 0, .int 0])) w3 (wfO (wqr (by omega) (wqr (by omega) (wqn (wqn (wqi (wqi (wqi wq0))))))))
  refine (E_lop (qd_49 dX5_init_18) rfl rfl rfl rfl rfl).mpr ?_
  refine (E_alu (qd_49 dX5_init_19) rfl rfl rfl).mpr ?_
  refine (A_arr (o := 5) (n := 3) rfl (qd_49 dX5_init_20) (by decide) rfl rfl (by omega) (wf1 (wLr (by omega) wL0) (wqi (wqr (by omega) wq0)) w4 rfl)).mpr ?_
  have w5 := WG_new (e := .inl (0, (3, .inl (fun _ => 0)))) w4 trivial
  refine (A_put (o := 5) rfl rfl (qd_49 dX5_init_22) rfl rfl (Nat.le_of_ble_eq_true rfl) fitA (by omega) ((up_ne (by omega)).trans up_eq)).mpr ?_
  have w6 := WG_up (a := r) (e := .inr (5, [.ref (r + 1), .ref (r + 2), .ref (r + 3), .null, .int 0, .int 0, .int 0])) w5 (wfO (wqr (by omega) (wqr (by omega) (wqr (by omega) (wqn (wqi (wqi (wqi wq0))))))))
  refine (E_lop (qd_49 dX5_init_25) rfl rfl rfl rfl rfl).mpr ?_
  refine (E_alu (qd_49 dX5_init_26) rfl rfl rfl).mpr ?_
  refine (A_arr (o := 5) (n := 4) rfl (qd_49 dX5_init_27) (by decide) rfl rfl (by omega) (wf1 (wLr (by omega) wL0) (wqi (wqr (by omega) wq0)) w6 rfl)).mpr ?_
  have w7 := WG_new (e := .inl (0, (4, .inl (fun _ => 0)))) w6 trivial
  refine (A_put (o := 5) rfl rfl (qd_49 dX5_init_29) rfl rfl (Nat.le_of_ble_eq_true rfl) fitA (by omega) ((up_ne (by omega)).trans up_eq)).mpr ?_
  have w8 := WG_up (a := r) (e := .inr (5, [.ref (r + 1), .ref (r + 2), .ref (r + 3), .ref (r + 4), .int 0, .int 0, .int 0])) w7 (wfO (wqr (by omega) (wqr (by omega) (wqr (by omega) (wqr (by omega) (wqi (wqi (wqi wq0))))))))
  refine (E_ret (qd_49 dX5_init_32) rfl).mpr ?_
  refine K _ (fun a ha => ?_) ⟨up_eq, ?_, ?_, ?_, ?_⟩ w8
  · repeat rw [up_ne (by omega)]
  · repeat rw [up_ne (by omega)]
    exact up_eq
  · repeat rw [up_ne (by omega)]
    exact up_eq
  · repeat rw [up_ne (by omega)]
    exact up_eq
  · repeat rw [up_ne (by omega)]
    exact up_eq

theorem isS_c {g g' : Nat → q_E} {a : Nat} (h : ∀ b, a ≤ b → b ≤ a + 4 → g' b = g b) (s : isS g a) : isS g' a := by
  obtain ⟨s0, s1, s2, s3, s4⟩ := s
  exact ⟨(h _ (by omega) (by omega)).trans s0, (h _ (by omega) (by omega)).trans s1, (h _ (by omega) (by omega)).trans s2, (h _ (by omega) (by omega)).trans s3, (h _ (by omega) (by omega)).trans s4⟩
def isLn (g : Nat → q_E) (a : Nat) : Prop := g a = .inr (2, q_fs zF zC a 2) ∧ g (a + 1) = eA 0 6 ∧ g (a + 2) = eA 0 6 ∧ g (a + 3) = eA 0 6 ∧ g (a + 4) = eA 0 6 ∧ g (a + 5) = eA 0 4 ∧ isS g (a + 6)
theorem isLn_c {g g' : Nat → q_E} {a : Nat} (h : ∀ b, a ≤ b → b ≤ a + 10 → g' b = g b) (s : isLn g a) : isLn g' a := by
  obtain ⟨s0, s1, s2, s3, s4, s5, s6⟩ := s
  exact ⟨(h _ (by omega) (by omega)).trans s0, (h _ (by omega) (by omega)).trans s1, (h _ (by omega) (by omega)).trans s2, (h _ (by omega) (by omega)).trans s3, (h _ (by omega) (by omega)).trans s4, (h _ (by omega) (by omega)).trans s5, isS_c (fun b h1 h2 => h b (by omega) (by omega)) s6⟩
theorem n_18 (hr : r + 11 < 900) (hg : g r = .inr (2, q_def 2)) (w0 : WG (r + 1) g) (K : ∀ g', (∀ a, a < r → g' a = g a) → isLn g' r → WG (r + 11) g' → P none (hpN SL xs (r + 11) g') (r + 11) (S + 48)) : E (r + 1) S (d + 1) 18 0 [some (.ref r)] [] (hpN SL xs (r + 1) g) P := by
  refine (E_lop (qd_18 dX2_init_0) rfl rfl rfl rfl rfl).mpr ?_
  refine (A_obj (o := 2) rfl (qd_18 dX2_init_1) rfl rfl (by simp [q_cs])).mpr ?_
  refine (E_lop (qd_18 dX2_init_4) rfl rfl rfl rfl rfl).mpr ?_
  refine (E_alu (qd_18 dX2_init_5) rfl rfl rfl).mpr ?_
  refine (A_arr (o := 2) (n := 6) rfl (qd_18 dX2_init_7) (by decide) rfl rfl (by omega) (wf1 (wLr (by omega) wL0) (wqi (wqr (by omega) wq0)) w0 rfl)).mpr ?_
  have w1 := WG_new (e := .inl (0, (6, .inl (fun _ => 0)))) w0 trivial
  refine (A_put (o := 2) rfl rfl (qd_18 dX2_init_9) rfl rfl (Nat.le_of_ble_eq_true rfl) fitA (by omega) ((up_ne (by omega)).trans hg)).mpr ?_
  have w2 := WG_up (a := r) (e := .inr (2, [.int 0, .int 0, .ref (r + 1), .null, .null, .null, .int 0, .int 0, .null, .null])) w1 (wfO (wqi (wqi (wqr (by omega) (wqn (wqn (wqn (wqi (wqi (wqn (wqn wq0)))))))))))
  refine (E_lop (qd_18 dX2_init_12) rfl rfl rfl rfl rfl).mpr ?_
  refine (E_alu (qd_18 dX2_init_13) rfl rfl rfl).mpr ?_
  refine (A_arr (o := 2) (n := 6) rfl (qd_18 dX2_init_15) (by decide) rfl rfl (by omega) (wf1 (wLr (by omega) wL0) (wqi (wqr (by omega) wq0)) w2 rfl)).mpr ?_
  have w3 := WG_new (e := .inl (0, (6, .inl (fun _ => 0)))) w2 trivial
  refine (A_put (o := 2) rfl rfl (qd_18 dX2_init_17) rfl rfl (Nat.le_of_ble_eq_true rfl) fitA (by omega) ((up_ne (by omega)).trans up_eq)).mpr ?_
  have w4 := WG_up (a := r) (e := .inr (2, [.int 0, .int 0, .ref (r + 1), .ref (r + 2), .null, .null, .int 0, .int 0, .null, .null])) w3 (wfO (wqi (wqi (wqr (by omega) (wqr (by omega) (wqn (wqn (wqi (wqi (wqn (wqn wq0)))))))))))
  refine (E_lop (qd_18 dX2_init_20) rfl rfl rfl rfl rfl).mpr ?_
  refine (E_alu (qd_18 dX2_init_21) rfl rfl rfl).mpr ?_
  refine (A_arr (o := 2) (n := 6) rfl (qd_18 dX2_init_23) (by decide) rfl rfl (by omega) (wf1 (wLr (by omega) wL0) (wqi (wqr (by omega) wq0)) w4 rfl)).mpr ?_
  have w5 := WG_new (e := .inl (0, (6, .inl (fun _ => 0)))) w4 trivial
  refine (A_put (o := 2) rfl rfl (qd_18 dX2_init_25) rfl rfl (Nat.le_of_ble_eq_true rfl) fitA (by omega) ((up_ne (by omega)).trans up_eq)).mpr ?_
  have w6 := WG_up (a := r) (e := .inr (2, [.int 0, .int 0, .ref (r + 1), .ref (r + 2), .ref (r + 3), .null, .int 0, .int 0, .null, .null])) w5 (wfO (wqi (wqi (wqr (by omega) (wqr (by omega) (wqr (by omega) (wqn (wqi (wqi (wqn (wqn wq0)))))))))))
  refine (E_lop (qd_18 dX2_init_28) rfl rfl rfl rfl rfl).mpr ?_
  refine (E_alu (qd_18 dX2_init_29) rfl rfl rfl).mpr ?_
  refine (A_arr (o := 2) (n := 6) rfl (qd_18 dX2_init_31) (by decide) rfl rfl (by omega) (wf1 (wLr (by omega) wL0) (wqi (wqr (by omega) wq0)) w6 rfl)).mpr ?_
  have w7 := WG_new (e := .inl (0, (6, .inl (fun _ => 0)))) w6 trivial
  refine (A_put (o := 2) rfl rfl (qd_18 dX2_init_33) rfl rfl (Nat.le_of_ble_eq_true rfl) fitA (by omega) ((up_ne (by omega)).trans up_eq)).mpr ?_
  have w8 := WG_up (a := r) (e := .inr (2, [.int 0, .int 0, .ref (r + 1), .ref (r + 2), .ref (r + 3), .ref (r + 4), .int 0, .int 0, .null, .null])) w7 (wfO (wqi (wqi (wqr (by omega) (wqr (by omega) (wqr (by omega) (wqr (by omega) (wqi (wqi (wqn (wqn wq0)))))))))))
  refine (E_lop (qd_18 dX2_init_36) rfl rfl rfl rfl rfl).mpr ?_
  refine (E_alu (qd_18 dX2_init_37) rfl rfl rfl).mpr ?_
  refine (A_arr (o := 2) (n := 4) rfl (qd_18 dX2_init_38) (by decide) rfl rfl (by omega) (wf1 (wLr (by omega) wL0) (wqi (wqr (by omega) wq0)) w8 rfl)).mpr ?_
  have w9 := WG_new (e := .inl (0, (4, .inl (fun _ => 0)))) w8 trivial
  refine (A_put (o := 2) rfl rfl (qd_18 dX2_init_40) rfl rfl (Nat.le_of_ble_eq_true rfl) fitA (by omega) ((up_ne (by omega)).trans up_eq)).mpr ?_
  have w10 := WG_up (a := r) (e := .inr (2, [.int 0, .int 0, .ref (r + 1), .ref (r + 2), .ref (r + 3), .ref (r + 4), .int 0, .int 0, .ref (r + 5), .null])) w9 (wfO (wqi (wqi (wqr (by omega) (wqr (by omega) (wqr (by omega) (wqr (by omega) (wqi (wqi (wqr (by omega) (wqn wq0)))))))))))
  refine (E_lop (qd_18 dX2_init_43) rfl rfl rfl rfl rfl).mpr ?_
  refine (A_new (o := 2) (ci := 5) rfl (qd_18 dX2_init_44) rfl (by omega) (wf1 (wLr (by omega) wL0) (wqr (by omega) wq0) w10 rfl)).mpr ?_
  have w11 := WG_new (e := .inr (5, [.null, .null, .null, .null, .int 0, .int 0, .int 0])) w10 (wfO (wqn (wqn (wqn (wqn (wqi (wqi (wqi wq0))))))))
  refine (E_alu (qd_18 dX2_init_47) rfl rfl rfl).mpr ?_
  refine A_call (o := 2) rfl (qd_18 dX2_init_48) rfl rfl (wf1 (wLr (by omega) wL0) (wqr (by omega) (wqr (by omega) wq0)) w11 rfl) (fun Q hQ => ?_)
  refine n_49 (by omega) up_eq w11 (fun g12 a12 b12 w12 => hQ _ _ _ ?_)
  refine (A_put (o := 2) rfl rfl (qd_18 dX2_init_51) rfl rfl (Nat.le_of_ble_eq_true rfl) fitO (by omega) ((a12 _ (by omega)).trans ((up_ne (by omega)).trans up_eq))).mpr ?_
  have w13 := WG_up (a := r) (e := .inr (2, [.int 0, .int 0, .ref (r + 1), .ref (r + 2), .ref (r + 3), .ref (r + 4), .int 0, .int 0, .ref (r + 5), .ref (r + 6)])) w12 (wfO (wqi (wqi (wqr (by omega) (wqr (by omega) (wqr (by omega) (wqr (by omega) (wqi (wqi (wqr (by omega) (wqr (by omega) wq0)))))))))))
  refine (E_ret (qd_18 dX2_init_54) rfl).mpr ?_
  refine K _ (fun a ha => ?_) ⟨up_eq, ?_, ?_, ?_, ?_, ?_, isS_c (fun b h1 h2 => up_ne (by omega)) b12⟩ w13
  · rw [up_ne (by omega), a12 _ (by omega)]
    repeat rw [up_ne (by omega)]
  · rw [up_ne (by omega), a12 _ (by omega)]
    repeat rw [up_ne (by omega)]
    exact up_eq
  · rw [up_ne (by omega), a12 _ (by omega)]
    repeat rw [up_ne (by omega)]
    exact up_eq
  · rw [up_ne (by omega), a12 _ (by omega)]
    repeat rw [up_ne (by omega)]
    exact up_eq
  · rw [up_ne (by omega), a12 _ (by omega)]
    repeat rw [up_ne (by omega)]
    exact up_eq
  · rw [up_ne (by omega), a12 _ (by omega)]
    repeat rw [up_ne (by omega)]
    exact up_eq

theorem n_51 (hr : r + 13 < 900) (hg : g r = .inr (6, q_def 6)) (w0 : WG (r + 1) g) (K : ∀ g', (∀ a, a < r → g' a = g a) → (g' r = .inr (6, [.ref (r + 1), .int 0, .ref (r + 2), .int 0, .int 0, .int 0, .int 0, .int 0, .int 0]) ∧ g' (r + 1) = eA 1 400 ∧ isLn g' (r + 2)) → WG (r + 13) g' → P none (hpN SL xs (r + 13) g') (r + 13) (S + 458)) : E (r + 1) S (d + 2) 51 0 [some (.ref r)] [] (hpN SL xs (r + 1) g) P := by
  refine (E_lop (qd_51 dX6_init_0) rfl rfl rfl rfl rfl).mpr ?_
  refine (A_obj (o := 6) rfl (qd_51 dX6_init_1) rfl rfl (by simp [q_cs])).mpr ?_
  refine (E_lop (qd_51 dX6_init_4) rfl rfl rfl rfl rfl).mpr ?_
  refine (E_alu (qd_51 dX6_init_5) rfl rfl rfl).mpr ?_
  refine (A_arr (o := 6) (n := 400) rfl (qd_51 dX6_init_8) (by decide) rfl rfl (by omega) (wf1 (wLr (by omega) wL0) (wqi (wqr (by omega) wq0)) w0 rfl)).mpr ?_
  have w1 := WG_new (e := .inl (1, (400, .inl (fun _ => 0)))) w0 trivial
  refine (A_put (o := 6) rfl rfl (qd_51 dX6_init_10) rfl rfl (Nat.le_of_ble_eq_true rfl) fitA (by omega) ((up_ne (by omega)).trans hg)).mpr ?_
  have w2 := WG_up (a := r) (e := .inr (6, [.ref (r + 1), .int 0, .null, .int 0, .int 0, .int 0, .int 0, .int 0, .int 0])) w1 (wfO (wqr (by omega) (wqi (wqn (wqi (wqi (wqi (wqi (wqi (wqi wq0))))))))))
  refine (E_lop (qd_51 dX6_init_13) rfl rfl rfl rfl rfl).mpr ?_
  refine (A_new (o := 6) (ci := 2) rfl (qd_51 dX6_init_14) rfl (by omega) (wf1 (wLr (by omega) wL0) (wqr (by omega) wq0) w2 rfl)).mpr ?_
  have w3 := WG_new (e := .inr (2, [.int 0, .int 0, .null, .null, .null, .null, .int 0, .int 0, .null, .null])) w2 (wfO (wqi (wqi (wqn (wqn (wqn (wqn (wqi (wqi (wqn (wqn wq0)))))))))))
  refine (E_alu (qd_51 dX6_init_17) rfl rfl rfl).mpr ?_
  refine A_call (o := 6) rfl (qd_51 dX6_init_18) rfl rfl (wf1 (wLr (by omega) wL0) (wqr (by omega) (wqr (by omega) wq0)) w3 rfl) (fun Q hQ => ?_)
  refine n_18 (by omega) up_eq w3 (fun g4 a4 b4 w4 => hQ _ _ _ ?_)
  refine (A_put (o := 6) rfl rfl (qd_51 dX6_init_21) rfl rfl (Nat.le_of_ble_eq_true rfl) fitO (by omega) ((a4 _ (by omega)).trans ((up_ne (by omega)).trans up_eq))).mpr ?_
  have w5 := WG_up (a := r) (e := .inr (6, [.ref (r + 1), .int 0, .ref (r + 2), .int 0, .int 0, .int 0, .int 0, .int 0, .int 0])) w4 (wfO (wqr (by omega) (wqi (wqr (by omega) (wqi (wqi (wqi (wqi (wqi (wqi wq0))))))))))
  refine (E_ret (qd_51 dX6_init_24) rfl).mpr ?_
  refine K _ (fun a ha => ?_) ⟨up_eq, ?_, isLn_c (fun b h1 h2 => up_ne (by omega)) b4⟩ w5
  · rw [up_ne (by omega), a4 _ (by omega)]
    repeat rw [up_ne (by omega)]
  · rw [up_ne (by omega), a4 _ (by omega)]
    repeat rw [up_ne (by omega)]
    exact up_eq
end IN
