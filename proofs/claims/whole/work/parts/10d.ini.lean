/-! MAKING: Standing -/
abbrev zF : q_FT := fun _ _ => 0
abbrev zC : q_CT := fun _ _ => 0
abbrev eA (t n : Nat) : q_E := .inl (t, (n, .inl (fun _ => 0)))
def isS (g : Nat → q_E) (a : Nat) : Prop := g a = .inr (5, q_fs zF zC a 5) ∧ g (a + 1) = eA 0 3 ∧ g (a + 2) = eA 0 3 ∧ g (a + 3) = eA 0 3 ∧ g (a + 4) = eA 0 4
section IN
variable {S d r : Nat} {P : Option Value → q_H → Nat → Nat → Prop} {SL : Nat} {xs : Nat → Int32} {g : Nat → q_E}

theorem n_49 (hr : r + 5 < 900) (hg : g r = .inr (5, q_def 5)) (w0 : WG (r + 1) g) (K : ∀ g', (∀ a, a < r → g' a = g a) → isS g' r → WG (r + 5) g' → P none (hpN SL xs (r + 5) g') (r + 5) (S + 13)) : E (r + 1) S d 49 0 [some (.ref r)] [] (hpN SL xs (r + 1) g) P := by
  refine (E_lop (qd_49 dX5_init_0) rfl rfl rfl rfl rfl).mpr ?_
  refine (A_obj (o := 5) rfl (qd_49 dX5_init_1) rfl rfl (by simp [q_cs])).mpr ?_
  refine (E_lop (qd_49 dX5_init_4) rfl rfl rfl rfl rfl).mpr ?_
  refine (E_alu (qd_49 dX5_init_5) rfl rfl rfl).mpr ?_
  refine (A_arr (o := 5) (n := 3) rfl (qd_49 dX5_init_6) (by decide) rfl rfl (by omega) (wf1 (wLr (by omega) wL0) (wqi (wqr (by omega) wq0)) w0 rfl)).mpr ?_
  have w1 := WG_new (e := .inl (0, (3, .inl (fun _ => 0)))) w0 trivial
  refine (A_put (o := 5) rfl rfl (qd_49 dX5_init_8) rfl rfl (Nat.le_of_ble_eq_true rfl) fitA (by omega) ((up_ne (by omega)).trans hg)).mpr ?_
  have w2 := WG_up (a := r) (e := .inr (5, [.ref (r + 1), .null, .null, .null, .int 0, .int 0, .int 0])) w1 (wfO (wqr (by omega) (wqn (wqn (wqn (wqi (wqi (wqi wq0))))))))
  refine (E_lop (qd_49 dX5_init_11) rfl rfl rfl rfl rfl).mpr ?_
  refine (E_alu (qd_49 dX5_init_12) rfl rfl rfl).mpr ?_
  refine (A_arr (o := 5) (n := 3) rfl (qd_49 dX5_init_13) (by decide) rfl rfl (by omega) (wf1 (wLr (by omega) wL0) (wqi (wqr (by omega) wq0)) w2 rfl)).mpr ?_
  have w3 := WG_new (e := .inl (0, (3, .inl (fun _ => 0)))) w2 trivial
  refine (A_put (o := 5) rfl rfl (qd_49 dX5_init_15) rfl rfl (Nat.le_of_ble_eq_true rfl) fitA (by omega) ((up_ne (by omega)).trans up_eq)).mpr ?_
  have w4 := WG_up (a := r) (e := .inr (5, [.ref (r + 1), .ref (r + 2), .null, .null, .int 0, .int 0, .int 0])) w3 (wfO (wqr (by omega) (wqr (by omega) (wqn (wqn (wqi (wqi (wqi wq0))))))))
  refine (E_lop (qd_49 dX5_init_18) rfl rfl rfl rfl rfl).mpr ?_
  refine (E_alu (qd_49 dX5_init_19) rfl rfl rfl).mpr ?_
  refine (A_arr (o := 5) (n := 3) rfl (qd_49 dX5_init_20) (by decide) rfl rfl (by omega) (wf1 (wLr (by omega) wL0) (wqi (wqr (by omega) wq0)) w4 rfl)).mpr ?_
  have w5 := WG_new (e := .inl (0, (3, .inl (fun _ => 0)))) w4 trivial
  refine (A_put (o := 5) rfl rfl (qd_49 dX5_init_22) rfl rfl (Nat.le_of_ble_eq_true rfl) fitA (by omega) ((up_ne (by omega)).trans up_eq)).mpr ?_
  have w6 := WG_up (a := r) (e := .inr (5, [.ref (r + 1), .ref (r + 2), .ref (r + 3), .null, .int 0, .int 0, .int 0])) w5 (wfO (wqr (by omega) (wqr (by omega) (wqr (by omega) (wqn (wqi (wqi (wqi wq0))))))))
  refine (E_lop (qd_49 dX5_init_25) rfl rfl rfl rfl rfl).mpr ?_
  refine (E_alu (qd_49 dX5_init_26) rfl rfl rfl).mpr ?_
  refine (A_arr (o := 5) (n := 4) rfl (qd_49 dX5_init_27) (by decide) rfl rfl (by omega) (wf1 (wLr (by omega) wL0) (wqi (wqr (by omega) wq0)) w6 rfl)).mpr ?_
  have w7 := WG_new (e := .inl (0, (4, .inl (fun _ => 0)))) w6 trivial
  refine (A_put (o := 5) rfl rfl (qd_49 dX5_init_29) rfl rfl (Nat.le_of_ble_eq_true rfl) fitA (by omega) ((up_ne (by omega)).trans up_eq)).mpr ?_
  have w8 := WG_up (a := r) (e := .inr (5, [.ref (r + 1), .ref (r + 2), .ref (r + 3), .ref (r + 4), .int 0, .int 0, .int 0])) w7 (wfO (wqr (by omega) (wqr (by omega) (wqr (by omega) (wqr (by omega) (wqi (wqi (wqi wq0))))))))
  refine (E_ret (qd_49 dX5_init_32) rfl).mpr ?_
  refine K _ (fun a ha => ?_) ⟨up_eq, ?_, ?_, ?_, ?_⟩ w8
  · repeat rw [up_ne (by omega)]
  · repeat rw [up_ne (by omega)]
    exact up_eq
  · repeat rw [up_ne (by omega)]
    exact up_eq
  · repeat rw [up_ne (by omega)]
    exact up_eq
  · repeat rw [up_ne (by omega)]
    exact up_eq
end IN
