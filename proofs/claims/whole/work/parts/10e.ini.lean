/-! MAKING: Search, Asks, the model, Rows -/
def gM (g : Nat → q_E) (N : Nat) : Nat → q_E := fun a => if a = N then .inl (6, (8, .inr (.inr (.inr (.inr (fun j => if j < 8 then some (N + 1 + j) else none)))))) else if N < a ∧ a < N + 9 then .inl (0, (40, .inl (fun _ => 0))) else g a
theorem mna_ne {g : Nat → q_E} {N a : Nat} (h : ¬ (N ≤ a ∧ a < N + 9)) : gM g N a = g a := by
  unfold gM
  rw [if_neg (by omega), if_neg (by omega)]
theorem WG_mna {g : Nat → q_E} {N : Nat} (w : WG N g) : WG (N + 9) (gM g N) := fun k hk => by
  by_cases c : k = N
  · have e : gM g N k = .inl (6, (8, .inr (.inr (.inr (.inr (fun j => if j < 8 then some (N + 1 + j) else none)))))) := if_pos c
    rw [e]
    intro i q hq
    dsimp only at hq
    by_cases hi : i < 8
    · rw [if_pos hi] at hq
      cases hq
      omega
    · rw [if_neg hi] at hq
      cases hq
  · by_cases c2 : N < k
    · have e : gM g N k = .inl (0, (40, .inl (fun _ => 0))) := (if_neg c).trans (if_pos ⟨c2, hk⟩)
      rw [e]
      trivial
    · rw [mna_ne (by omega)]
      exact wfE_le (by omega) (w k (by omega))
section IN2
variable {S d r : Nat} {P : Option Value → q_H → Nat → Nat → Prop} {SL : Nat} {xs : Nat → Int32} {g : Nat → q_E}
theorem hN_mna {N : Nat} : (fun a => if a = N then .inl (6, (8, .inr (.inr (.inr (.inr (fun j => if j < 8 then some (N + 1 + j) else none)))))) else if N < a ∧ a < N + 9 then .inl (0, (40, .inl (fun _ => 0))) else hpN SL xs N g a) = hpN SL xs (N + 9) (gM g N) := by
  funext a
  unfold hpN gM
  by_cases c : a = N
  · rw [if_pos c, if_pos (by omega), if_pos c]
  · rw [if_neg c, if_neg c]
    by_cases c2 : N < a ∧ a < N + 9
    · rw [if_pos c2, if_pos (by omega), if_pos c2]
    · rw [if_neg c2, if_neg c2]
      by_cases z : a < N
      · rw [if_pos z, if_pos (by omega)]
      · rw [if_neg z, if_neg (by omega)]
theorem A_mna {M pc N : Nat} {L : q_L} {st : List Value} {x y : Int32} (ho : q_own M = 3) (hd : decode (q_code M) pc = .ok (.multianewarray 18 2, 4)) (hx : x = 40) (hy : y = 8) (hN9 : N + 9 < 900) (hw : q_wf N L (.int x :: .int y :: st) (hpN SL xs N g)) : E N S d M pc L (.int x :: .int y :: st) (hpN SL xs N g) P ↔ E (N + 9) (S + 328) d M (pc + 4) L (.ref N :: st) (hpN SL xs (N + 9) (gM g N)) P := by
  rw [← hN_mna]
  refine A_alo ho hd rfl rfl rfl rfl rfl rfl rfl ?_ hN9 hw
  show (if (3 : Nat) = 3 ∧ (18 : Nat) = 18 ∧ (2 : Nat) = 2 ∧ x = 40 ∧ y = 8 then _ else none) = _
  rw [if_pos ⟨rfl, rfl, rfl, hx, hy⟩]
theorem n_39 {l : Nat} (hr : r + 3 < 900) (hg : g r = .inr (4, q_def 4)) (w0 : WG (r + 1) g) (hl : l < r) (K : ∀ g', (∀ a, a < r → g' a = g a) → (g' r = .inr (4, [.ref l, .ref (r + 1), .ref (r + 2), .int 0, .int 0, .int 0]) ∧ g' (r + 1) = .inl (2, (480, .inr (.inl (fun _ => 0)))) ∧ g' (r + 2) = .inl (2, (48, .inr (.inl (fun _ => 0))))) → WG (r + 3) g' → P none (hpN SL xs (r + 3) g') (r + 3) (S + 528)) : E (r + 1) S d 39 0 [some (.ref r), some (.ref l)] [] (hpN SL xs (r + 1) g) P := by
  refine (E_lop (qd_39 dX4_init_0) rfl rfl rfl rfl rfl).mpr ?_
  refine (A_obj (o := 4) rfl (qd_39 dX4_init_1) rfl rfl (by simp [q_cs])).mpr ?_
  refine (E_lop (qd_39 dX4_init_4) rfl rfl rfl rfl rfl).mpr ?_
  refine (E_alu (qd_39 dX4_init_5) rfl rfl rfl).mpr ?_
  refine (A_arr (o := 4) (n := 480) rfl (qd_39 dX4_init_8) (by decide) rfl rfl (by omega) (wf1 (wLr (by omega) (wLr (by omega) wL0)) (wqi (wqr (by omega) wq0)) w0 rfl)).mpr ?_
  have w1 := WG_new (e := .inl (2, (480, .inr (.inl (fun _ => 0))))) w0 trivial
  refine (A_put (o := 4) rfl rfl (qd_39 dX4_init_10) rfl rfl (Nat.le_of_ble_eq_true rfl) fitA (by omega) ((up_ne (by omega)).trans hg)).mpr ?_
  have w2 := WG_up (a := r) (e := .inr (4, [.null, .ref (r + 1), .null, .int 0, .int 0, .int 0])) w1 (wfO (wqn (wqr (by omega) (wqn (wqi (wqi (wqi wq0)))))))
  refine (E_lop (qd_39 dX4_init_13) rfl rfl rfl rfl rfl).mpr ?_
  refine (E_alu (qd_39 dX4_init_14) rfl rfl rfl).mpr ?_
  refine (A_arr (o := 4) (n := 48) rfl (qd_39 dX4_init_16) (by decide) rfl rfl (by omega) (wf1 (wLr (by omega) (wLr (by omega) wL0)) (wqi (wqr (by omega) wq0)) w2 rfl)).mpr ?_
  have w3 := WG_new (e := .inl (2, (48, .inr (.inl (fun _ => 0))))) w2 trivial
  refine (A_put (o := 4) rfl rfl (qd_39 dX4_init_18) rfl rfl (Nat.le_of_ble_eq_true rfl) fitA (by omega) ((up_ne (by omega)).trans up_eq)).mpr ?_
  have w4 := WG_up (a := r) (e := .inr (4, [.null, .ref (r + 1), .ref (r + 2), .int 0, .int 0, .int 0])) w3 (wfO (wqn (wqr (by omega) (wqr (by omega) (wqi (wqi (wqi wq0)))))))
  refine (E_lop (qd_39 dX4_init_21) rfl rfl rfl rfl rfl).mpr ?_
  refine (E_lop (qd_39 dX4_init_22) rfl rfl rfl rfl rfl).mpr ?_
  refine (A_put (o := 4) rfl rfl (qd_39 dX4_init_23) rfl rfl (Nat.le_of_ble_eq_true rfl) fitO (by omega) up_eq).mpr ?_
  have w5 := WG_up (a := r) (e := .inr (4, [.ref l, .ref (r + 1), .ref (r + 2), .int 0, .int 0, .int 0])) w4 (wfO (wqr (by omega) (wqr (by omega) (wqr (by omega) (wqi (wqi (wqi wq0)))))))
  refine (E_ret (qd_39 dX4_init_26) rfl).mpr ?_
  refine K _ (fun a ha => ?_) ⟨up_eq, ?_, ?_⟩ w5
  · repeat rw [up_ne (by omega)]
  · repeat rw [up_ne (by omega)]
    exact up_eq
  · repeat rw [up_ne (by omega)]
    exact up_eq
theorem n_4 {l : Nat} (hr : r + 2 < 900) (hg : g r = .inr (1, q_def 1)) (w0 : WG (r + 1) g) (hl : l < r) (K : ∀ g', (∀ a, a < r → g' a = g a) → (g' r = .inr (1, [.ref l, .ref (r + 1), .int 0]) ∧ g' (r + 1) = eA 0 16) → WG (r + 2) g' → P none (hpN SL xs (r + 2) g') (r + 2) (S + 16)) : E (r + 1) S d 4 0 [some (.ref r), some (.ref l)] [] (hpN SL xs (r + 1) g) P := by
  refine (E_lop (qd_4 dX1_init_0) rfl rfl rfl rfl rfl).mpr ?_
  refine (A_obj (o := 1) rfl (qd_4 dX1_init_1) rfl rfl (by simp [q_cs])).mpr ?_
  refine (E_lop (qd_4 dX1_init_4) rfl rfl rfl rfl rfl).mpr ?_
  refine (E_alu (qd_4 dX1_init_5) rfl rfl rfl).mpr ?_
  refine (A_arr (o := 1) (n := 16) rfl (qd_4 dX1_init_7) (by decide) rfl rfl (by omega) (wf1 (wLr (by omega) (wLr (by omega) wL0)) (wqi (wqr (by omega) wq0)) w0 rfl)).mpr ?_
  have w1 := WG_new (e := .inl (0, (16, .inl (fun _ => 0)))) w0 trivial
  refine (A_put (o := 1) rfl rfl (qd_4 dX1_init_9) rfl rfl (Nat.le_of_ble_eq_true rfl) fitA (by omega) ((up_ne (by omega)).trans hg)).mpr ?_
  have w2 := WG_up (a := r) (e := .inr (1, [.null, .ref (r + 1), .int 0])) w1 (wfO (wqn (wqr (by omega) (wqi wq0))))
  refine (E_lop (qd_4 dX1_init_12) rfl rfl rfl rfl rfl).mpr ?_
  refine (E_lop (qd_4 dX1_init_13) rfl rfl rfl rfl rfl).mpr ?_
  refine (A_put (o := 1) rfl rfl (qd_4 dX1_init_14) rfl rfl (Nat.le_of_ble_eq_true rfl) fitO (by omega) up_eq).mpr ?_
  have w3 := WG_up (a := r) (e := .inr (1, [.ref l, .ref (r + 1), .int 0])) w2 (wfO (wqr (by omega) (wqr (by omega) (wqi wq0))))
  refine (E_ret (qd_4 dX1_init_17) rfl).mpr ?_
  refine K _ (fun a ha => ?_) ⟨up_eq, ?_⟩ w3
  · repeat rw [up_ne (by omega)]
  · repeat rw [up_ne (by omega)]
    exact up_eq
theorem l_i106 {N : Nat} {fs : List Value} (hr : r + 5 < N) (hv : fs[5]? = some (.ref (r + 5))) : ∀ (n i : Nat), i + n = 8 → ∀ (g : Nat → q_E) (f : Nat → Int32), g r = .inr (8, fs) → g (r + 5) = .inl (0, (8, .inl f)) → WG N g → (∀ (g' : Nat → q_E) (f' : Nat → Int32), (∀ b, ¬ b = r + 5 → g' b = g b) → g' (r + 5) = .inl (0, (8, .inl f')) → (∀ k, f' k = if i ≤ k ∧ k < 8 then (-1000000) else f k) → WG N g' → P none (hpN SL xs N g') N S) → E N S d 106 97 [some (.ref r), some (.int (nI i))] [] (hpN SL xs N g) P
  | 0, i, hi, g, f, hg, hf, w, K => by
    have e : i = 8 := by omega
    refine (E_lop (qd_106 dX8_init_97) rfl rfl rfl rfl rfl).mpr ?_
    refine (E_alu (qd_106 dX8_init_98) rfl rfl rfl).mpr ?_
    refine ((E_br (qd_106 dX8_init_100) rfl rfl rfl rfl rfl rfl).trans (E_c2 (k := (8 : Int32) ≤ nI i) rfl)).mpr ?_
    rw [if_pos (by rw [e]; decide)]
    refine (E_ret (qd_106 dX8_init_117) rfl).mpr ?_
    refine K g f (fun _ _ => rfl) hf (fun k => ?_) w
    rw [if_neg (by omega)]
  | n + 1, i, hi, g, f, hg, hf, w, K => by
    refine (E_lop (qd_106 dX8_init_97) rfl rfl rfl rfl rfl).mpr ?_
    refine (E_alu (qd_106 dX8_init_98) rfl rfl rfl).mpr ?_
    refine ((E_br (qd_106 dX8_init_100) rfl rfl rfl rfl rfl rfl).trans (E_c2 (k := (8 : Int32) ≤ nI i) rfl)).mpr ?_
    rw [if_neg (show ¬ (8 : Int32) ≤ nI i from (nI_ge (by omega) (by omega) : ¬ nI 8 ≤ nI i))]
    refine (E_lop (qd_106 dX8_init_103) rfl rfl rfl rfl rfl).mpr ?_
    refine (A_get (o := 8) rfl (qd_106 dX8_init_104) rfl (by omega) hg hv).mpr ?_
    refine (E_lop (qd_106 dX8_init_107) rfl rfl rfl rfl rfl).mpr ?_
    refine (E_cst (o := 8) rfl (qd_106 dX8_init_108) rfl rfl rfl rfl).mpr ?_
    refine (A_ist (o := 8) rfl (qd_106 dX8_init_110) (by omega) hf (by omega) (by omega)).mpr ?_
    refine (E_lop (qd_106 dX8_init_111) rfl rfl rfl rfl rfl).mpr ?_
    refine (E_br (qd_106 dX8_init_114) rfl rfl rfl rfl rfl rfl).mpr ?_
    show E N S d 106 97 [some (.ref r), some (.int (nI i + 1))] [] _ P
    rw [nI_1]
    refine l_i106 hr hv n (i + 1) (by omega) _ _ ((up_ne (by omega)).trans hg) up_eq (WG_up w trivial) (fun g' f' h1 h2 h3 h4 => K g' f' (fun b hb => (h1 b hb).trans (up_ne hb)) h2 (fun k => ?_) h4)
    rw [h3]
    unfold upd
    by_cases c : k = i
    · rw [if_neg (by omega), if_pos c, if_pos (by omega)]
      try rfl
    · rw [if_neg c]
      by_cases c2 : i + 1 ≤ k ∧ k < 8
      · rw [if_pos c2, if_pos (by omega)]
      · rw [if_neg c2, if_neg (by omega)]
theorem n_106 (hr : r + 12 < 900) (hg : g r = .inr (8, q_def 8)) (w0 : WG (r + 1) g) (K : ∀ g', (∀ a, a < r → g' a = g a) → g' r = .inr (8, [.ref (r + 1), .ref (r + 2), .ref (r + 3), .ref (r + 4), .int 0, .ref (r + 5), .ref (r + 6), .ref (r + 7), .int 0, .ref (r + 8), .int 0, .int 0, .int 0, .int 0, .int 0, .long 0, .int 0, .int 0, .ref (r + 9), .ref (r + 10), .int 0, .int 0, .int 0, .ref (r + 11), .int 0]) → (g' (r + 1) = eA 0 48 ∧ g' (r + 2) = eA 0 96 ∧ g' (r + 3) = eA 3 2 ∧ g' (r + 4) = eA 0 384 ∧ g' (r + 6) = eA 0 8 ∧ g' (r + 7) = eA 0 320 ∧ g' (r + 8) = eA 0 400 ∧ g' (r + 9) = eA 0 48 ∧ g' (r + 10) = eA 0 2688 ∧ g' (r + 11) = eA 0 16) → (∃ f : Nat → Int32, g' (r + 5) = .inl (0, (8, .inl f)) ∧ ∀ k, f k = if k < 8 then -1000000 else 0) → WG (r + 12) g' → P none (hpN SL xs (r + 12) g') (r + 12) (S + 4018)) : E (r + 1) S d 106 0 [some (.ref r), none] [] (hpN SL xs (r + 1) g) P := by
  refine (E_lop (qd_106 dX8_init_0) rfl rfl rfl rfl rfl).mpr ?_
  refine (A_obj (o := 8) rfl (qd_106 dX8_init_1) rfl rfl (by simp [q_cs])).mpr ?_
  refine (E_lop (qd_106 dX8_init_4) rfl rfl rfl rfl rfl).mpr ?_
  refine (E_alu (qd_106 dX8_init_5) rfl rfl rfl).mpr ?_
  refine (A_arr (o := 8) (n := 48) rfl (qd_106 dX8_init_7) (by decide) rfl rfl (by omega) (wf1 (wLr (by omega) (wLn wL0)) (wqi (wqr (by omega) wq0)) w0 rfl)).mpr ?_
  have w1 := WG_new (e := .inl (0, (48, .inl (fun _ => 0)))) w0 trivial
  refine (A_put (o := 8) rfl rfl (qd_106 dX8_init_9) rfl rfl (Nat.le_of_ble_eq_true rfl) fitA (by omega) ((up_ne (by omega)).trans hg)).mpr ?_
  have w2 := WG_up (a := r) (e := .inr (8, [.ref (r + 1), .null, .null, .null, .int 0, .null, .null, .null, .int 0, .null, .int 0, .int 0, .int 0, .int 0, .int 0, .long 0, .int 0, .int 0, .null, .null, .int 0, .int 0, .int 0, .null, .int 0])) w1 (wfO (wqr (by omega) (wqn (wqn (wqn (wqi (wqn (wqn (wqn (wqi (wqn (wqi (wqi (wqi (wqi (wqi (wql (wqi (wqi (wqn (wqn (wqi (wqi (wqi (wqn (wqi wq0))))))))))))))))))))))))))
  refine (E_lop (qd_106 dX8_init_12) rfl rfl rfl rfl rfl).mpr ?_
  refine (E_alu (qd_106 dX8_init_13) rfl rfl rfl).mpr ?_
  refine (A_arr (o := 8) (n := 96) rfl (qd_106 dX8_init_15) (by decide) rfl rfl (by omega) (wf1 (wLr (by omega) (wLn wL0)) (wqi (wqr (by omega) wq0)) w2 rfl)).mpr ?_
  have w3 := WG_new (e := .inl (0, (96, .inl (fun _ => 0)))) w2 trivial
  refine (A_put (o := 8) rfl rfl (qd_106 dX8_init_17) rfl rfl (Nat.le_of_ble_eq_true rfl) fitA (by omega) ((up_ne (by omega)).trans up_eq)).mpr ?_
  have w4 := WG_up (a := r) (e := .inr (8, [.ref (r + 1), .ref (r + 2), .null, .null, .int 0, .null, .null, .null, .int 0, .null, .int 0, .int 0, .int 0, .int 0, .int 0, .long 0, .int 0, .int 0, .null, .null, .int 0, .int 0, .int 0, .null, .int 0])) w3 (wfO (wqr (by omega) (wqr (by omega) (wqn (wqn (wqi (wqn (wqn (wqn (wqi (wqn (wqi (wqi (wqi (wqi (wqi (wql (wqi (wqi (wqn (wqn (wqi (wqi (wqi (wqn (wqi wq0))))))))))))))))))))))))))
  refine (E_lop (qd_106 dX8_init_20) rfl rfl rfl rfl rfl).mpr ?_
  refine (E_alu (qd_106 dX8_init_21) rfl rfl rfl).mpr ?_
  refine (A_arr (o := 8) (n := 2) rfl (qd_106 dX8_init_22) (by decide) rfl rfl (by omega) (wf1 (wLr (by omega) (wLn wL0)) (wqi (wqr (by omega) wq0)) w4 rfl)).mpr ?_
  have w5 := WG_new (e := .inl (3, (2, .inl (fun _ => 0)))) w4 trivial
  refine (A_put (o := 8) rfl rfl (qd_106 dX8_init_24) rfl rfl (Nat.le_of_ble_eq_true rfl) fitA (by omega) ((up_ne (by omega)).trans up_eq)).mpr ?_
  have w6 := WG_up (a := r) (e := .inr (8, [.ref (r + 1), .ref (r + 2), .ref (r + 3), .null, .int 0, .null, .null, .null, .int 0, .null, .int 0, .int 0, .int 0, .int 0, .int 0, .long 0, .int 0, .int 0, .null, .null, .int 0, .int 0, .int 0, .null, .int 0])) w5 (wfO (wqr (by omega) (wqr (by omega) (wqr (by omega) (wqn (wqi (wqn (wqn (wqn (wqi (wqn (wqi (wqi (wqi (wqi (wqi (wql (wqi (wqi (wqn (wqn (wqi (wqi (wqi (wqn (wqi wq0))))))))))))))))))))))))))
  refine (E_lop (qd_106 dX8_init_27) rfl rfl rfl rfl rfl).mpr ?_
  refine (E_alu (qd_106 dX8_init_28) rfl rfl rfl).mpr ?_
  refine (A_arr (o := 8) (n := 384) rfl (qd_106 dX8_init_31) (by decide) rfl rfl (by omega) (wf1 (wLr (by omega) (wLn wL0)) (wqi (wqr (by omega) wq0)) w6 rfl)).mpr ?_
  have w7 := WG_new (e := .inl (0, (384, .inl (fun _ => 0)))) w6 trivial
  refine (A_put (o := 8) rfl rfl (qd_106 dX8_init_33) rfl rfl (Nat.le_of_ble_eq_true rfl) fitA (by omega) ((up_ne (by omega)).trans up_eq)).mpr ?_
  have w8 := WG_up (a := r) (e := .inr (8, [.ref (r + 1), .ref (r + 2), .ref (r + 3), .ref (r + 4), .int 0, .null, .null, .null, .int 0, .null, .int 0, .int 0, .int 0, .int 0, .int 0, .long 0, .int 0, .int 0, .null, .null, .int 0, .int 0, .int 0, .null, .int 0])) w7 (wfO (wqr (by omega) (wqr (by omega) (wqr (by omega) (wqr (by omega) (wqi (wqn (wqn (wqn (wqi (wqn (wqi (wqi (wqi (wqi (wqi (wql (wqi (wqi (wqn (wqn (wqi (wqi (wqi (wqn (wqi wq0))))))))))))))))))))))))))
  refine (E_lop (qd_106 dX8_init_36) rfl rfl rfl rfl rfl).mpr ?_
  refine (E_alu (qd_106 dX8_init_37) rfl rfl rfl).mpr ?_
  refine (A_arr (o := 8) (n := 8) rfl (qd_106 dX8_init_39) (by decide) rfl rfl (by omega) (wf1 (wLr (by omega) (wLn wL0)) (wqi (wqr (by omega) wq0)) w8 rfl)).mpr ?_
  have w9 := WG_new (e := .inl (0, (8, .inl (fun _ => 0)))) w8 trivial
  refine (A_put (o := 8) rfl rfl (qd_106 dX8_init_41) rfl rfl (Nat.le_of_ble_eq_true rfl) fitA (by omega) ((up_ne (by omega)).trans up_eq)).mpr ?_
  have w10 := WG_up (a := r) (e := .inr (8, [.ref (r + 1), .ref (r + 2), .ref (r + 3), .ref (r + 4), .int 0, .ref (r + 5), .null, .null, .int 0, .null, .int 0, .int 0, .int 0, .int 0, .int 0, .long 0, .int 0, .int 0, .null, .null, .int 0, .int 0, .int 0, .null, .int 0])) w9 (wfO (wqr (by omega) (wqr (by omega) (wqr (by omega) (wqr (by omega) (wqi (wqr (by omega) (wqn (wqn (wqi (wqn (wqi (wqi (wqi (wqi (wqi (wql (wqi (wqi (wqn (wqn (wqi (wqi (wqi (wqn (wqi wq0))))))))))))))))))))))))))
  refine (E_lop (qd_106 dX8_init_44) rfl rfl rfl rfl rfl).mpr ?_
  refine (E_alu (qd_106 dX8_init_45) rfl rfl rfl).mpr ?_
  refine (A_arr (o := 8) (n := 8) rfl (qd_106 dX8_init_47) (by decide) rfl rfl (by omega) (wf1 (wLr (by omega) (wLn wL0)) (wqi (wqr (by omega) wq0)) w10 rfl)).mpr ?_
  have w11 := WG_new (e := .inl (0, (8, .inl (fun _ => 0)))) w10 trivial
  refine (A_put (o := 8) rfl rfl (qd_106 dX8_init_49) rfl rfl (Nat.le_of_ble_eq_true rfl) fitA (by omega) ((up_ne (by omega)).trans up_eq)).mpr ?_
  have w12 := WG_up (a := r) (e := .inr (8, [.ref (r + 1), .ref (r + 2), .ref (r + 3), .ref (r + 4), .int 0, .ref (r + 5), .ref (r + 6), .null, .int 0, .null, .int 0, .int 0, .int 0, .int 0, .int 0, .long 0, .int 0, .int 0, .null, .null, .int 0, .int 0, .int 0, .null, .int 0])) w11 (wfO (wqr (by omega) (wqr (by omega) (wqr (by omega) (wqr (by omega) (wqi (wqr (by omega) (wqr (by omega) (wqn (wqi (wqn (wqi (wqi (wqi (wqi (wqi (wql (wqi (wqi (wqn (wqn (wqi (wqi (wqi (wqn (wqi wq0))))))))))))))))))))))))))
  refine (E_lop (qd_106 dX8_init_52) rfl rfl rfl rfl rfl).mpr ?_
  refine (E_alu (qd_106 dX8_init_53) rfl rfl rfl).mpr ?_
  refine (A_arr (o := 8) (n := 320) rfl (qd_106 dX8_init_56) (by decide) rfl rfl (by omega) (wf1 (wLr (by omega) (wLn wL0)) (wqi (wqr (by omega) wq0)) w12 rfl)).mpr ?_
  have w13 := WG_new (e := .inl (0, (320, .inl (fun _ => 0)))) w12 trivial
  refine (A_put (o := 8) rfl rfl (qd_106 dX8_init_58) rfl rfl (Nat.le_of_ble_eq_true rfl) fitA (by omega) ((up_ne (by omega)).trans up_eq)).mpr ?_
  have w14 := WG_up (a := r) (e := .inr (8, [.ref (r + 1), .ref (r + 2), .ref (r + 3), .ref (r + 4), .int 0, .ref (r + 5), .ref (r + 6), .ref (r + 7), .int 0, .null, .int 0, .int 0, .int 0, .int 0, .int 0, .long 0, .int 0, .int 0, .null, .null, .int 0, .int 0, .int 0, .null, .int 0])) w13 (wfO (wqr (by omega) (wqr (by omega) (wqr (by omega) (wqr (by omega) (wqi (wqr (by omega) (wqr (by omega) (wqr (by omega) (wqi (wqn (wqi (wqi (wqi (wqi (wqi (wql (wqi (wqi (wqn (wqn (wqi (wqi (wqi (wqn (wqi wq0))))))))))))))))))))))))))
  refine (E_lop (qd_106 dX8_init_61) rfl rfl rfl rfl rfl).mpr ?_
  refine (E_alu (qd_106 dX8_init_62) rfl rfl rfl).mpr ?_
  refine (A_arr (o := 8) (n := 400) rfl (qd_106 dX8_init_65) (by decide) rfl rfl (by omega) (wf1 (wLr (by omega) (wLn wL0)) (wqi (wqr (by omega) wq0)) w14 rfl)).mpr ?_
  have w15 := WG_new (e := .inl (0, (400, .inl (fun _ => 0)))) w14 trivial
  refine (A_put (o := 8) rfl rfl (qd_106 dX8_init_67) rfl rfl (Nat.le_of_ble_eq_true rfl) fitA (by omega) ((up_ne (by omega)).trans up_eq)).mpr ?_
  have w16 := WG_up (a := r) (e := .inr (8, [.ref (r + 1), .ref (r + 2), .ref (r + 3), .ref (r + 4), .int 0, .ref (r + 5), .ref (r + 6), .ref (r + 7), .int 0, .ref (r + 8), .int 0, .int 0, .int 0, .int 0, .int 0, .long 0, .int 0, .int 0, .null, .null, .int 0, .int 0, .int 0, .null, .int 0])) w15 (wfO (wqr (by omega) (wqr (by omega) (wqr (by omega) (wqr (by omega) (wqi (wqr (by omega) (wqr (by omega) (wqr (by omega) (wqi (wqr (by omega) (wqi (wqi (wqi (wqi (wqi (wql (wqi (wqi (wqn (wqn (wqi (wqi (wqi (wqn (wqi wq0))))))))))))))))))))))))))
  refine (E_lop (qd_106 dX8_init_70) rfl rfl rfl rfl rfl).mpr ?_
  refine (E_alu (qd_106 dX8_init_71) rfl rfl rfl).mpr ?_
  refine (A_arr (o := 8) (n := 48) rfl (qd_106 dX8_init_73) (by decide) rfl rfl (by omega) (wf1 (wLr (by omega) (wLn wL0)) (wqi (wqr (by omega) wq0)) w16 rfl)).mpr ?_
  have w17 := WG_new (e := .inl (0, (48, .inl (fun _ => 0)))) w16 trivial
  refine (A_put (o := 8) rfl rfl (qd_106 dX8_init_75) rfl rfl (Nat.le_of_ble_eq_true rfl) fitA (by omega) ((up_ne (by omega)).trans up_eq)).mpr ?_
  have w18 := WG_up (a := r) (e := .inr (8, [.ref (r + 1), .ref (r + 2), .ref (r + 3), .ref (r + 4), .int 0, .ref (r + 5), .ref (r + 6), .ref (r + 7), .int 0, .ref (r + 8), .int 0, .int 0, .int 0, .int 0, .int 0, .long 0, .int 0, .int 0, .ref (r + 9), .null, .int 0, .int 0, .int 0, .null, .int 0])) w17 (wfO (wqr (by omega) (wqr (by omega) (wqr (by omega) (wqr (by omega) (wqi (wqr (by omega) (wqr (by omega) (wqr (by omega) (wqi (wqr (by omega) (wqi (wqi (wqi (wqi (wqi (wql (wqi (wqi (wqr (by omega) (wqn (wqi (wqi (wqi (wqn (wqi wq0))))))))))))))))))))))))))
  refine (E_lop (qd_106 dX8_init_78) rfl rfl rfl rfl rfl).mpr ?_
  refine (E_alu (qd_106 dX8_init_79) rfl rfl rfl).mpr ?_
  refine (A_arr (o := 8) (n := 2688) rfl (qd_106 dX8_init_82) (by decide) rfl rfl (by omega) (wf1 (wLr (by omega) (wLn wL0)) (wqi (wqr (by omega) wq0)) w18 rfl)).mpr ?_
  have w19 := WG_new (e := .inl (0, (2688, .inl (fun _ => 0)))) w18 trivial
  refine (A_put (o := 8) rfl rfl (qd_106 dX8_init_84) rfl rfl (Nat.le_of_ble_eq_true rfl) fitA (by omega) ((up_ne (by omega)).trans up_eq)).mpr ?_
  have w20 := WG_up (a := r) (e := .inr (8, [.ref (r + 1), .ref (r + 2), .ref (r + 3), .ref (r + 4), .int 0, .ref (r + 5), .ref (r + 6), .ref (r + 7), .int 0, .ref (r + 8), .int 0, .int 0, .int 0, .int 0, .int 0, .long 0, .int 0, .int 0, .ref (r + 9), .ref (r + 10), .int 0, .int 0, .int 0, .null, .int 0])) w19 (wfO (wqr (by omega) (wqr (by omega) (wqr (by omega) (wqr (by omega) (wqi (wqr (by omega) (wqr (by omega) (wqr (by omega) (wqi (wqr (by omega) (wqi (wqi (wqi (wqi (wqi (wql (wqi (wqi (wqr (by omega) (wqr (by omega) (wqi (wqi (wqi (wqn (wqi wq0))))))))))))))))))))))))))
  refine (E_lop (qd_106 dX8_init_87) rfl rfl rfl rfl rfl).mpr ?_
  refine (E_alu (qd_106 dX8_init_88) rfl rfl rfl).mpr ?_
  refine (A_arr (o := 8) (n := 16) rfl (qd_106 dX8_init_90) (by decide) rfl rfl (by omega) (wf1 (wLr (by omega) (wLn wL0)) (wqi (wqr (by omega) wq0)) w20 rfl)).mpr ?_
  have w21 := WG_new (e := .inl (0, (16, .inl (fun _ => 0)))) w20 trivial
  refine (A_put (o := 8) rfl rfl (qd_106 dX8_init_92) rfl rfl (Nat.le_of_ble_eq_true rfl) fitA (by omega) ((up_ne (by omega)).trans up_eq)).mpr ?_
  have w22 := WG_up (a := r) (e := .inr (8, [.ref (r + 1), .ref (r + 2), .ref (r + 3), .ref (r + 4), .int 0, .ref (r + 5), .ref (r + 6), .ref (r + 7), .int 0, .ref (r + 8), .int 0, .int 0, .int 0, .int 0, .int 0, .long 0, .int 0, .int 0, .ref (r + 9), .ref (r + 10), .int 0, .int 0, .int 0, .ref (r + 11), .int 0])) w21 (wfO (wqr (by omega) (wqr (by omega) (wqr (by omega) (wqr (by omega) (wqi (wqr (by omega) (wqr (by omega) (wqr (by omega) (wqi (wqr (by omega) (wqi (wqi (wqi (wqi (wqi (wql (wqi (wqi (wqr (by omega) (wqr (by omega) (wqi (wqi (wqi (wqr (by omega) (wqi wq0))))))))))))))))))))))))))
  refine (E_alu (qd_106 dX8_init_95) rfl rfl rfl).mpr ?_
  refine (E_lop (qd_106 dX8_init_96) rfl rfl rfl rfl rfl).mpr ?_
  refine l_i106 (r := r) (by omega) rfl 8 0 rfl _ (fun _ => 0) up_eq ?_ w22 (fun g' f' h1 h2 h3 h4 => K g' (fun a ha => ?_) ?_ ⟨?_, ?_, ?_, ?_, ?_, ?_, ?_, ?_, ?_, ?_⟩ ⟨f', h2, fun k => ?_⟩ h4)
  · repeat rw [up_ne (by omega)]
    exact up_eq
  · rw [h1 _ (by omega)]
    repeat rw [up_ne (by omega)]
  · exact (h1 _ (by omega)).trans up_eq
  · rw [h1 _ (by omega)]
    repeat rw [up_ne (by omega)]
    exact up_eq
  · rw [h1 _ (by omega)]
    repeat rw [up_ne (by omega)]
    exact up_eq
  · rw [h1 _ (by omega)]
    repeat rw [up_ne (by omega)]
    exact up_eq
  · rw [h1 _ (by omega)]
    repeat rw [up_ne (by omega)]
    exact up_eq
  · rw [h1 _ (by omega)]
    repeat rw [up_ne (by omega)]
    exact up_eq
  · rw [h1 _ (by omega)]
    repeat rw [up_ne (by omega)]
    exact up_eq
  · rw [h1 _ (by omega)]
    repeat rw [up_ne (by omega)]
    exact up_eq
  · rw [h1 _ (by omega)]
    repeat rw [up_ne (by omega)]
    exact up_eq
  · rw [h1 _ (by omega)]
    repeat rw [up_ne (by omega)]
    exact up_eq
  · rw [h1 _ (by omega)]
    repeat rw [up_ne (by omega)]
    exact up_eq
  · rw [h3]
    by_cases c : k < 8
    · rw [if_pos (by omega), if_pos c]
    · rw [if_neg (by omega), if_neg c]
theorem l_i33 {N : Nat} {fs : List Value} (hr : r + 2 < N) (hv : fs[1]? = some (.ref (r + 2))) : ∀ (n i : Nat), i + n = 8 → ∀ (g : Nat → q_E) (f : Nat → Int32), g r = .inr (3, fs) → g (r + 2) = .inl (0, (8, .inl f)) → WG N g → (∀ (g' : Nat → q_E) (f' : Nat → Int32), (∀ b, ¬ b = r + 2 → g' b = g b) → g' (r + 2) = .inl (0, (8, .inl f')) → (∀ k, f' k = if i ≤ k ∧ k < 8 then (-1) else f k) → WG N g' → P none (hpN SL xs N g') N S) → E N S d 33 34 [some (.ref r), some (.int (nI i))] [] (hpN SL xs N g) P
  | 0, i, hi, g, f, hg, hf, w, K => by
    have e : i = 8 := by omega
    refine (E_lop (qd_33 dX3_init_34) rfl rfl rfl rfl rfl).mpr ?_
    refine (E_alu (qd_33 dX3_init_35) rfl rfl rfl).mpr ?_
    refine ((E_br (qd_33 dX3_init_37) rfl rfl rfl rfl rfl rfl).trans (E_c2 (k := (8 : Int32) ≤ nI i) rfl)).mpr ?_
    rw [if_pos (by rw [e]; decide)]
    refine (E_ret (qd_33 dX3_init_53) rfl).mpr ?_
    refine K g f (fun _ _ => rfl) hf (fun k => ?_) w
    rw [if_neg (by omega)]
  | n + 1, i, hi, g, f, hg, hf, w, K => by
    refine (E_lop (qd_33 dX3_init_34) rfl rfl rfl rfl rfl).mpr ?_
    refine (E_alu (qd_33 dX3_init_35) rfl rfl rfl).mpr ?_
    refine ((E_br (qd_33 dX3_init_37) rfl rfl rfl rfl rfl rfl).trans (E_c2 (k := (8 : Int32) ≤ nI i) rfl)).mpr ?_
    rw [if_neg (show ¬ (8 : Int32) ≤ nI i from (nI_ge (by omega) (by omega) : ¬ nI 8 ≤ nI i))]
    refine (E_lop (qd_33 dX3_init_40) rfl rfl rfl rfl rfl).mpr ?_
    refine (A_get (o := 3) rfl (qd_33 dX3_init_41) rfl (by omega) hg hv).mpr ?_
    refine (E_lop (qd_33 dX3_init_44) rfl rfl rfl rfl rfl).mpr ?_
    refine (E_alu (qd_33 dX3_init_45) rfl rfl rfl).mpr ?_
    refine (A_ist (o := 3) rfl (qd_33 dX3_init_46) (by omega) hf (by omega) (by omega)).mpr ?_
    refine (E_lop (qd_33 dX3_init_47) rfl rfl rfl rfl rfl).mpr ?_
    refine (E_br (qd_33 dX3_init_50) rfl rfl rfl rfl rfl rfl).mpr ?_
    show E N S d 33 34 [some (.ref r), some (.int (nI i + 1))] [] _ P
    rw [nI_1]
    refine l_i33 hr hv n (i + 1) (by omega) _ _ ((up_ne (by omega)).trans hg) up_eq (WG_up w trivial) (fun g' f' h1 h2 h3 h4 => K g' f' (fun b hb => (h1 b hb).trans (up_ne hb)) h2 (fun k => ?_) h4)
    rw [h3]
    unfold upd
    by_cases c : k = i
    · rw [if_neg (by omega), if_pos c, if_pos (by omega)]
      try rfl
    · rw [if_neg c]
      by_cases c2 : i + 1 ≤ k ∧ k < 8
      · rw [if_pos c2, if_pos (by omega)]
      · rw [if_neg c2, if_neg (by omega)]
theorem n_33 (hr : r + 12 < 900) (hg : g r = .inr (3, q_def 3)) (w0 : WG (r + 1) g) (K : ∀ g', (∀ a, a < r → g' a = g a) → (g' r = .inr (3, [.ref (r + 1), .ref (r + 2), .ref (r + 3)]) ∧ g' (r + 1) = eA 0 8 ∧ g' (r + 3) = .inl (6, (8, .inr (.inr (.inr (.inr (fun j => if j < 8 then some (r + 3 + 1 + j) else none)))))) ∧ ∀ k, k < 8 → g' (r + 4 + k) = eA 0 40) → (∃ f : Nat → Int32, g' (r + 2) = .inl (0, (8, .inl f)) ∧ ∀ k, f k = if k < 8 then -1 else 0) → WG (r + 12) g' → P none (hpN SL xs (r + 12) g') (r + 12) (S + 344)) : E (r + 1) S d 33 0 [some (.ref r), none] [] (hpN SL xs (r + 1) g) P := by
  refine (E_lop (qd_33 dX3_init_0) rfl rfl rfl rfl rfl).mpr ?_
  refine (A_obj (o := 3) rfl (qd_33 dX3_init_1) rfl rfl (by simp [q_cs])).mpr ?_
  refine (E_lop (qd_33 dX3_init_4) rfl rfl rfl rfl rfl).mpr ?_
  refine (E_alu (qd_33 dX3_init_5) rfl rfl rfl).mpr ?_
  refine (A_arr (o := 3) (n := 8) rfl (qd_33 dX3_init_7) (by decide) rfl rfl (by omega) (wf1 (wLr (by omega) (wLn wL0)) (wqi (wqr (by omega) wq0)) w0 rfl)).mpr ?_
  have w1 := WG_new (e := .inl (0, (8, .inl (fun _ => 0)))) w0 trivial
  refine (A_put (o := 3) rfl rfl (qd_33 dX3_init_9) rfl rfl (Nat.le_of_ble_eq_true rfl) fitA (by omega) ((up_ne (by omega)).trans hg)).mpr ?_
  have w2 := WG_up (a := r) (e := .inr (3, [.ref (r + 1), .null, .null])) w1 (wfO (wqr (by omega) (wqn (wqn wq0))))
  refine (E_lop (qd_33 dX3_init_12) rfl rfl rfl rfl rfl).mpr ?_
  refine (E_alu (qd_33 dX3_init_13) rfl rfl rfl).mpr ?_
  refine (A_arr (o := 3) (n := 8) rfl (qd_33 dX3_init_15) (by decide) rfl rfl (by omega) (wf1 (wLr (by omega) (wLn wL0)) (wqi (wqr (by omega) wq0)) w2 rfl)).mpr ?_
  have w3 := WG_new (e := .inl (0, (8, .inl (fun _ => 0)))) w2 trivial
  refine (A_put (o := 3) rfl rfl (qd_33 dX3_init_17) rfl rfl (Nat.le_of_ble_eq_true rfl) fitA (by omega) ((up_ne (by omega)).trans up_eq)).mpr ?_
  have w4 := WG_up (a := r) (e := .inr (3, [.ref (r + 1), .ref (r + 2), .null])) w3 (wfO (wqr (by omega) (wqr (by omega) (wqn wq0))))
  refine (E_lop (qd_33 dX3_init_20) rfl rfl rfl rfl rfl).mpr ?_
  refine (E_alu (qd_33 dX3_init_21) rfl rfl rfl).mpr ?_
  refine (E_alu (qd_33 dX3_init_23) rfl rfl rfl).mpr ?_
  refine (A_mna rfl (qd_33 dX3_init_25) rfl rfl (by omega) (wf1 (wLr (by omega) (wLn wL0)) (wqi (wqi (wqr (by omega) wq0))) w4 rfl)).mpr ?_
  have w5 := WG_mna w4
  refine (A_put (o := 3) rfl rfl (qd_33 dX3_init_29) rfl rfl (Nat.le_of_ble_eq_true rfl) fitA (by omega) ((mna_ne (by omega)).trans up_eq)).mpr ?_
  have w6 := WG_up (a := r) (e := .inr (3, [.ref (r + 1), .ref (r + 2), .ref (r + 3)])) w5 (wfO (wqr (by omega) (wqr (by omega) (wqr (by omega) wq0))))
  refine (E_alu (qd_33 dX3_init_32) rfl rfl rfl).mpr ?_
  refine (E_lop (qd_33 dX3_init_33) rfl rfl rfl rfl rfl).mpr ?_
  refine l_i33 (r := r) (by omega) rfl 8 0 rfl _ (fun _ => 0) up_eq ?_ w6 (fun g' f' h1 h2 h3 h4 => K g' (fun a ha => ?_) ⟨(h1 _ (by omega)).trans up_eq, ?_, ?_, fun k hk => ?_⟩ ⟨f', h2, fun k => ?_⟩ h4)
  · rw [up_ne (by omega), mna_ne (by omega)]
    repeat rw [up_ne (by omega)]
    exact up_eq
  · rw [h1 _ (by omega), up_ne (by omega), mna_ne (by omega)]
    repeat rw [up_ne (by omega)]
  · rw [h1 _ (by omega), up_ne (by omega), mna_ne (by omega)]
    repeat rw [up_ne (by omega)]
    exact up_eq
  · rw [h1 _ (by omega), up_ne (by omega)]
    exact if_pos rfl
  · rw [h1 _ (by omega), up_ne (by omega)]
    exact (if_neg (by omega)).trans (if_pos (by omega))
  · rw [h3]
    by_cases c : k < 8
    · rw [if_pos (by omega), if_pos c]
    · rw [if_neg (by omega), if_neg c]
end IN2
