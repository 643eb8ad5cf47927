/-! MAKING: LadenEmpty -/
def isRo (g : Nat → q_E) (r : Nat) : Prop := (g r = .inr (3, [.ref (r + 1), .ref (r + 2), .ref (r + 3)]) ∧ g (r + 1) = eA 0 8 ∧ g (r + 3) = .inl (6, (8, .inr (.inr (.inr (.inr (fun j => if j < 8 then some (r + 3 + 1 + j) else none)))))) ∧ ∀ k, k < 8 → g (r + 4 + k) = eA 0 40) ∧ ∃ f : Nat → Int32, g (r + 2) = .inl (0, (8, .inl f)) ∧ ∀ k, f k = if k < 8 then -1 else 0
theorem isRo_c {g g' : Nat → q_E} {r : Nat} (h : ∀ b, r ≤ b → b ≤ r + 11 → g' b = g b) (s : isRo g r) : isRo g' r := by
  obtain ⟨⟨s0, s1, s2, s3⟩, f, s4, s5⟩ := s
  exact ⟨⟨(h _ (by omega) (by omega)).trans s0, (h _ (by omega) (by omega)).trans s1, (h _ (by omega) (by omega)).trans s2, fun k hk => (h _ (by omega) (by omega)).trans (s3 k hk)⟩, f, (h _ (by omega) (by omega)).trans s4, s5⟩
def isTa (g : Nat → q_E) (r : Nat) : Prop := g r = .inr (6, [.ref (r + 1), .int 0, .ref (r + 2), .int 0, .int 0, .int 0, .int 0, .int 0, .int 0]) ∧ g (r + 1) = eA 1 400 ∧ isLn g (r + 2)
theorem isTa_c {g g' : Nat → q_E} {r : Nat} (h : ∀ b, r ≤ b → b ≤ r + 12 → g' b = g b) (s : isTa g r) : isTa g' r :=
  ⟨(h _ (by omega) (by omega)).trans s.1, (h _ (by omega) (by omega)).trans s.2.1, isLn_c (fun b h1 h2 => h b (by omega) (by omega)) s.2.2⟩
def isSe (l : Nat) (g : Nat → q_E) (r : Nat) : Prop := g r = .inr (4, [.ref l, .ref (r + 1), .ref (r + 2), .int 0, .int 0, .int 0]) ∧ g (r + 1) = .inl (2, (480, .inr (.inl (fun _ => 0)))) ∧ g (r + 2) = .inl (2, (48, .inr (.inl (fun _ => 0))))
theorem isSe_c {l : Nat} {g g' : Nat → q_E} {r : Nat} (h : ∀ b, r ≤ b → b ≤ r + 2 → g' b = g b) (s : isSe l g r) : isSe l g' r :=
  ⟨(h _ (by omega) (by omega)).trans s.1, (h _ (by omega) (by omega)).trans s.2.1, (h _ (by omega) (by omega)).trans s.2.2⟩
def isAk (l : Nat) (g : Nat → q_E) (r : Nat) : Prop := g r = .inr (1, [.ref l, .ref (r + 1), .int 0]) ∧ g (r + 1) = eA 0 16
theorem isAk_c {l : Nat} {g g' : Nat → q_E} {r : Nat} (h : ∀ b, r ≤ b → b ≤ r + 1 → g' b = g b) (s : isAk l g r) : isAk l g' r :=
  ⟨(h _ (by omega) (by omega)).trans s.1, (h _ (by omega) (by omega)).trans s.2⟩
section IN4
variable {S d r : Nat} {P : Option Value → q_H → Nat → Nat → Prop} {SL : Nat} {xs : Nat → Int32} {g : Nat → q_E}
theorem n_68 (hr : r + 187 < 900) (hg : g r = .inr (7, q_def 7)) (w0 : WG (r + 1) g) (K : ∀ g', (∀ a, a < r → g' a = g a) → g' r = .inr (7, [.ref (r + 1), .ref (r + 13), .ref (r + 26), .ref (r + 37), .ref (r + 159), .ref (r + 182), .ref (r + 185), .int 0]) → isRo g' (r + 1) → isTa g' (r + 13) → isLn g' (r + 26) → isAc g' (r + 37) → (g' (r + 159) = .inl (5, (2, .inr (.inr (.inr (.inr (va_up (va_up (fun _ => none) 0 (some (r + 160))) 1 (some (r + 171)))))))) ∧ ∀ j, (va_up (va_up (fun _ => none) 0 (some (r + 160))) 1 (some (r + 171))) j = if j < 2 then some (r + 160 + 11 * j) else none) → isLn g' (r + 160) → isLn g' (r + 171) → isSe (r + 26) g' (r + 182) → isAk (r + 26) g' (r + 185) → WG (r + 187) g' → P none (hpN SL xs (r + 187) g') (r + 187) (S + 2050)) : E (r + 1) S (d + 3) 68 0 [some (.ref r), none] [] (hpN SL xs (r + 1) g) P := by
  refine (E_lop (qd_68 dX7_init_0) rfl rfl rfl rfl rfl).mpr ?_
  refine (A_obj (o := 7) rfl (qd_68 dX7_init_1) rfl rfl (by simp [q_cs])).mpr ?_
  refine (E_lop (qd_68 dX7_init_4) rfl rfl rfl rfl rfl).mpr ?_
  refine (A_new (o := 7) (ci := 3) rfl (qd_68 dX7_init_5) rfl (by omega) (wf1 (wLr (by omega) (wLn wL0)) (wqr (by omega) wq0) w0 rfl)).mpr ?_
  have w1 := WG_new (e := .inr (3, [.null, .null, .null])) w0 (wfO (wqn (wqn (wqn wq0))))
  refine (E_alu (qd_68 dX7_init_8) rfl rfl rfl).mpr ?_
  refine A_call (o := 7) rfl (qd_68 dX7_init_9) rfl rfl (wf1 (wLr (by omega) (wLn wL0)) (wqr (by omega) (wqr (by omega) wq0)) w1 rfl) (fun Q hQ => ?_)
  refine n_33 (by omega) up_eq w1 (fun g2 a2 b2 c2 v2 => hQ _ _ _ ?_)
  refine (A_put (o := 7) rfl rfl (qd_68 dX7_init_12) rfl rfl (Nat.le_of_ble_eq_true rfl) fitO (by omega) ((a2 _ (by omega)).trans ((up_ne (by omega)).trans hg))).mpr ?_
  have w3 := WG_up (a := r) (e := .inr (7, [.ref (r + 1), .null, .null, .null, .null, .null, .null, .int 0])) v2 (wfO (wqr (by omega) (wqn (wqn (wqn (wqn (wqn (wqn (wqi wq0)))))))))
  refine (E_lop (qd_68 dX7_init_15) rfl rfl rfl rfl rfl).mpr ?_
  refine (A_new (o := 7) (ci := 6) rfl (qd_68 dX7_init_16) rfl (by omega) (wf1 (wLr (by omega) (wLn wL0)) (wqr (by omega) wq0) w3 rfl)).mpr ?_
  have w4 := WG_new (e := .inr (6, [.null, .int 0, .null, .int 0, .int 0, .int 0, .int 0, .int 0, .int 0])) w3 (wfO (wqn (wqi (wqn (wqi (wqi (wqi (wqi (wqi (wqi wq0))))))))))
  refine (E_alu (qd_68 dX7_init_19) rfl rfl rfl).mpr ?_
  refine A_call (o := 7) rfl (qd_68 dX7_init_20) rfl rfl (wf1 (wLr (by omega) (wLn wL0)) (wqr (by omega) (wqr (by omega) wq0)) w4 rfl) (fun Q hQ => ?_)
  refine n_51 (by omega) up_eq w4 (fun g5 a5 b5 v5 => hQ _ _ _ ?_)
  refine (A_put (o := 7) rfl rfl (qd_68 dX7_init_23) rfl rfl (Nat.le_of_ble_eq_true rfl) fitO (by omega) ((a5 _ (by omega)).trans ((up_ne (by omega)).trans up_eq))).mpr ?_
  have w6 := WG_up (a := r) (e := .inr (7, [.ref (r + 1), .ref (r + 13), .null, .null, .null, .null, .null, .int 0])) v5 (wfO (wqr (by omega) (wqr (by omega) (wqn (wqn (wqn (wqn (wqn (wqi wq0)))))))))
  refine (E_lop (qd_68 dX7_init_26) rfl rfl rfl rfl rfl).mpr ?_
  refine (A_new (o := 7) (ci := 2) rfl (qd_68 dX7_init_27) rfl (by omega) (wf1 (wLr (by omega) (wLn wL0)) (wqr (by omega) wq0) w6 rfl)).mpr ?_
  have w7 := WG_new (e := .inr (2, [.int 0, .int 0, .null, .null, .null, .null, .int 0, .int 0, .null, .null])) w6 (wfO (wqi (wqi (wqn (wqn (wqn (wqn (wqi (wqi (wqn (wqn wq0)))))))))))
  refine (E_alu (qd_68 dX7_init_30) rfl rfl rfl).mpr ?_
  refine A_call (o := 7) rfl (qd_68 dX7_init_31) rfl rfl (wf1 (wLr (by omega) (wLn wL0)) (wqr (by omega) (wqr (by omega) wq0)) w7 rfl) (fun Q hQ => ?_)
  refine n_18 (by omega) up_eq w7 (fun g8 a8 b8 v8 => hQ _ _ _ ?_)
  refine (A_put (o := 7) rfl rfl (qd_68 dX7_init_34) rfl rfl (Nat.le_of_ble_eq_true rfl) fitO (by omega) ((a8 _ (by omega)).trans ((up_ne (by omega)).trans up_eq))).mpr ?_
  have w9 := WG_up (a := r) (e := .inr (7, [.ref (r + 1), .ref (r + 13), .ref (r + 26), .null, .null, .null, .null, .int 0])) v8 (wfO (wqr (by omega) (wqr (by omega) (wqr (by omega) (wqn (wqn (wqn (wqn (wqi wq0)))))))))
  refine (E_lop (qd_68 dX7_init_37) rfl rfl rfl rfl rfl).mpr ?_
  refine (A_new (o := 7) (ci := 0) rfl (qd_68 dX7_init_38) rfl (by omega) (wf1 (wLr (by omega) (wLn wL0)) (wqr (by omega) wq0) w9 rfl)).mpr ?_
  have w10 := WG_new (e := .inr (0, [.null, .int 0, .int 0])) w9 (wfO (wqn (wqi (wqi wq0))))
  refine (E_alu (qd_68 dX7_init_41) rfl rfl rfl).mpr ?_
  refine A_call (o := 7) rfl (qd_68 dX7_init_42) rfl rfl (wf1 (wLr (by omega) (wLn wL0)) (wqr (by omega) (wqr (by omega) wq0)) w10 rfl) (fun Q hQ => ?_)
  refine n_0 (by omega) up_eq w10 (fun g11 a11 b11 v11 => hQ _ _ _ ?_)
  refine (A_put (o := 7) rfl rfl (qd_68 dX7_init_45) rfl rfl (Nat.le_of_ble_eq_true rfl) fitO (by omega) ((a11 _ (by omega)).trans ((up_ne (by omega)).trans up_eq))).mpr ?_
  have w12 := WG_up (a := r) (e := .inr (7, [.ref (r + 1), .ref (r + 13), .ref (r + 26), .ref (r + 37), .null, .null, .null, .int 0])) v11 (wfO (wqr (by omega) (wqr (by omega) (wqr (by omega) (wqr (by omega) (wqn (wqn (wqn (wqi wq0)))))))))
  refine (E_lop (qd_68 dX7_init_48) rfl rfl rfl rfl rfl).mpr ?_
  refine (E_alu (qd_68 dX7_init_49) rfl rfl rfl).mpr ?_
  refine (A_anw (o := 7) (n := 2) (t := 5) rfl (qd_68 dX7_init_50) (by decide) rfl rfl (by omega) (wf1 (wLr (by omega) (wLn wL0)) (wqi (wqr (by omega) wq0)) w12 rfl)).mpr ?_
  have w13 := WG_new (e := .inl (5, (2, .inr (.inr (.inr (.inr (fun _ => none))))))) w12 (fun i k h => by cases h)
  refine (A_put (o := 7) rfl rfl (qd_68 dX7_init_53) rfl rfl (Nat.le_of_ble_eq_true rfl) fitA (by omega) ((up_ne (by omega)).trans up_eq)).mpr ?_
  have w14 := WG_up (a := r) (e := .inr (7, [.ref (r + 1), .ref (r + 13), .ref (r + 26), .ref (r + 37), .ref (r + 159), .null, .null, .int 0])) w13 (wfO (wqr (by omega) (wqr (by omega) (wqr (by omega) (wqr (by omega) (wqr (by omega) (wqn (wqn (wqi wq0)))))))))
  refine (E_alu (qd_68 dX7_init_56) rfl rfl rfl).mpr ?_
  refine (E_lop (qd_68 dX7_init_57) rfl rfl rfl rfl rfl).mpr ?_
  refine (E_lop (qd_68 dX7_init_58) rfl rfl rfl rfl rfl).mpr ?_
  refine (E_alu (qd_68 dX7_init_59) rfl rfl rfl).mpr ?_
  refine ((E_br (qd_68 dX7_init_60) rfl rfl rfl rfl rfl rfl).trans (E_c2 (k := (2 : Int32) ≤ nI 0) rfl)).mpr ?_
  rw [if_neg (by decide)]
  refine (E_lop (qd_68 dX7_init_63) rfl rfl rfl rfl rfl).mpr ?_
  refine (A_get (o := 7) rfl (qd_68 dX7_init_64) rfl (by omega) up_eq rfl).mpr ?_
  refine (E_lop (qd_68 dX7_init_67) rfl rfl rfl rfl rfl).mpr ?_
  refine (A_new (o := 7) (ci := 2) rfl (qd_68 dX7_init_68) rfl (by omega) (wf1 (wLr (by omega) (wLi wL0)) (wqi (wqr (by omega) wq0)) w14 rfl)).mpr ?_
  have w15 := WG_new (e := .inr (2, [.int 0, .int 0, .null, .null, .null, .null, .int 0, .int 0, .null, .null])) w14 (wfO (wqi (wqi (wqn (wqn (wqn (wqn (wqi (wqi (wqn (wqn wq0)))))))))))
  refine (E_alu (qd_68 dX7_init_71) rfl rfl rfl).mpr ?_
  refine A_call (o := 7) rfl (qd_68 dX7_init_72) rfl rfl (wf1 (wLr (by omega) (wLi wL0)) (wqr (by omega) (wqi (wqr (by omega) wq0))) w15 rfl) (fun Q hQ => ?_)
  refine n_18 (by omega) up_eq w15 (fun g16 a16 b16 v16 => hQ _ _ _ ?_)
  refine (A_ast (o := 7) (i := 0) (b := r + 160) rfl (qd_68 dX7_init_75) (by omega) (by omega) ((a16 _ (by omega)).trans ((up_ne (by omega)).trans ((up_ne (by omega)).trans up_eq))) b16.1 (by omega) (by omega) (Or.inr ⟨rfl, rfl⟩)).mpr ?_
  have w17 := WG_up (a := r + 159) (e := .inl (5, (2, .inr (.inr (.inr (.inr (va_up (fun _ => none) 0 (some (r + 160))))))))) v16 (fun j k hk => by
    unfold va_up at hk
    dsimp only at hk
    split at hk
    · cases hk
      omega
    · cases hk)
  refine (E_lop (qd_68 dX7_init_76) rfl rfl rfl rfl rfl).mpr ?_
  refine (E_br (qd_68 dX7_init_79) rfl rfl rfl rfl rfl rfl).mpr ?_
  refine (E_lop (qd_68 dX7_init_58) rfl rfl rfl rfl rfl).mpr ?_
  refine (E_alu (qd_68 dX7_init_59) rfl rfl rfl).mpr ?_
  refine ((E_br (qd_68 dX7_init_60) rfl rfl rfl rfl rfl rfl).trans (E_c2 (k := (2 : Int32) ≤ nI 1) rfl)).mpr ?_
  rw [if_neg (by decide)]
  refine (E_lop (qd_68 dX7_init_63) rfl rfl rfl rfl rfl).mpr ?_
  refine (A_get (o := 7) rfl (qd_68 dX7_init_64) rfl (by omega) ((up_ne (by omega)).trans ((a16 _ (by omega)).trans ((up_ne (by omega)).trans up_eq))) rfl).mpr ?_
  refine (E_lop (qd_68 dX7_init_67) rfl rfl rfl rfl rfl).mpr ?_
  refine (A_new (o := 7) (ci := 2) rfl (qd_68 dX7_init_68) rfl (by omega) (wf1 (wLr (by omega) (wLi wL0)) (wqi (wqr (by omega) wq0)) w17 rfl)).mpr ?_
  have w18 := WG_new (e := .inr (2, [.int 0, .int 0, .null, .null, .null, .null, .int 0, .int 0, .null, .null])) w17 (wfO (wqi (wqi (wqn (wqn (wqn (wqn (wqi (wqi (wqn (wqn wq0)))))))))))
  refine (E_alu (qd_68 dX7_init_71) rfl rfl rfl).mpr ?_
  refine A_call (o := 7) rfl (qd_68 dX7_init_72) rfl rfl (wf1 (wLr (by omega) (wLi wL0)) (wqr (by omega) (wqi (wqr (by omega) wq0))) w18 rfl) (fun Q hQ => ?_)
  refine n_18 (by omega) up_eq w18 (fun g19 a19 b19 v19 => hQ _ _ _ ?_)
  refine (A_ast (o := 7) (i := 1) (b := r + 171) rfl (qd_68 dX7_init_75) (by omega) (by omega) ((a19 _ (by omega)).trans ((up_ne (by omega)).trans up_eq)) b19.1 (by omega) (by omega) (Or.inr ⟨rfl, rfl⟩)).mpr ?_
  have w20 := WG_up (a := r + 159) (e := .inl (5, (2, .inr (.inr (.inr (.inr (va_up (va_up (fun _ => none) 0 (some (r + 160))) 1 (some (r + 171))))))))) v19 (fun j k hk => by
    unfold va_up at hk
    dsimp only at hk
    split at hk
    · cases hk
      omega
    · split at hk
      · cases hk
        omega
      · cases hk)
  refine (E_lop (qd_68 dX7_init_76) rfl rfl rfl rfl rfl).mpr ?_
  refine (E_br (qd_68 dX7_init_79) rfl rfl rfl rfl rfl rfl).mpr ?_
  refine (E_lop (qd_68 dX7_init_58) rfl rfl rfl rfl rfl).mpr ?_
  refine (E_alu (qd_68 dX7_init_59) rfl rfl rfl).mpr ?_
  refine ((E_br (qd_68 dX7_init_60) rfl rfl rfl rfl rfl rfl).trans (E_c2 (k := (2 : Int32) ≤ nI 2) rfl)).mpr ?_
  rw [if_pos (by decide)]
  refine (E_lop (qd_68 dX7_init_82) rfl rfl rfl rfl rfl).mpr ?_
  refine (A_new (o := 7) (ci := 4) rfl (qd_68 dX7_init_83) rfl (by omega) (wf1 (wLr (by omega) (wLi wL0)) (wqr (by omega) wq0) w20 rfl)).mpr ?_
  have w21 := WG_new (e := .inr (4, [.null, .null, .null, .int 0, .int 0, .int 0])) w20 (wfO (wqn (wqn (wqn (wqi (wqi (wqi wq0)))))))
  refine (E_alu (qd_68 dX7_init_86) rfl rfl rfl).mpr ?_
  refine (E_lop (qd_68 dX7_init_87) rfl rfl rfl rfl rfl).mpr ?_
  refine (A_get (o := 7) rfl (qd_68 dX7_init_88) rfl (by omega) ((up_ne (by omega)).trans ((up_ne (by omega)).trans ((a19 _ (by omega)).trans ((up_ne (by omega)).trans ((up_ne (by omega)).trans ((a16 _ (by omega)).trans ((up_ne (by omega)).trans up_eq))))))) rfl).mpr ?_
  refine A_call (o := 7) rfl (qd_68 dX7_init_91) rfl rfl (wf1 (wLr (by omega) (wLi wL0)) (wqr (by omega) (wqr (by omega) wq0)) w21 rfl) (fun Q hQ => ?_)
  refine n_39 (by omega) up_eq w21 (by omega) (fun g22 a22 b22 v22 => hQ _ _ _ ?_)
  refine (A_put (o := 7) rfl rfl (qd_68 dX7_init_94) rfl rfl (Nat.le_of_ble_eq_true rfl) fitO (by omega) ((a22 _ (by omega)).trans ((up_ne (by omega)).trans ((up_ne (by omega)).trans ((a19 _ (by omega)).trans ((up_ne (by omega)).trans ((up_ne (by omega)).trans ((a16 _ (by omega)).trans ((up_ne (by omega)).trans up_eq))))))))).mpr ?_
  have w23 := WG_up (a := r) (e := .inr (7, [.ref (r + 1), .ref (r + 13), .ref (r + 26), .ref (r + 37), .ref (r + 159), .ref (r + 182), .null, .int 0])) v22 (wfO (wqr (by omega) (wqr (by omega) (wqr (by omega) (wqr (by omega) (wqr (by omega) (wqr (by omega) (wqn (wqi wq0)))))))))
  refine (E_lop (qd_68 dX7_init_97) rfl rfl rfl rfl rfl).mpr ?_
  refine (A_new (o := 7) (ci := 1) rfl (qd_68 dX7_init_98) rfl (by omega) (wf1 (wLr (by omega) (wLi wL0)) (wqr (by omega) wq0) w23 rfl)).mpr ?_
  have w24 := WG_new (e := .inr (1, [.null, .null, .int 0])) w23 (wfO (wqn (wqn (wqi wq0))))
  refine (E_alu (qd_68 dX7_init_101) rfl rfl rfl).mpr ?_
  refine (E_lop (qd_68 dX7_init_102) rfl rfl rfl rfl rfl).mpr ?_
  refine (A_get (o := 7) rfl (qd_68 dX7_init_103) rfl (by omega) ((up_ne (by omega)).trans up_eq) rfl).mpr ?_
  refine A_call (o := 7) rfl (qd_68 dX7_init_106) rfl rfl (wf1 (wLr (by omega) (wLi wL0)) (wqr (by omega) (wqr (by omega) wq0)) w24 rfl) (fun Q hQ => ?_)
  refine n_4 (by omega) up_eq w24 (by omega) (fun g25 a25 b25 v25 => hQ _ _ _ ?_)
  refine (A_put (o := 7) rfl rfl (qd_68 dX7_init_109) rfl rfl (Nat.le_of_ble_eq_true rfl) fitO (by omega) ((a25 _ (by omega)).trans ((up_ne (by omega)).trans up_eq))).mpr ?_
  have w26 := WG_up (a := r) (e := .inr (7, [.ref (r + 1), .ref (r + 13), .ref (r + 26), .ref (r + 37), .ref (r + 159), .ref (r + 182), .ref (r + 185), .int 0])) v25 (wfO (wqr (by omega) (wqr (by omega) (wqr (by omega) (wqr (by omega) (wqr (by omega) (wqr (by omega) (wqr (by omega) (wqi wq0)))))))))
  refine (E_ret (qd_68 dX7_init_112) rfl).mpr ?_
  refine K _ (fun b hb => ((up_ne (by omega)).trans ((a25 _ (by omega)).trans ((up_ne (by omega)).trans ((up_ne (by omega)).trans ((a22 _ (by omega)).trans ((up_ne (by omega)).trans ((up_ne (by omega)).trans ((a19 _ (by omega)).trans ((up_ne (by omega)).trans ((up_ne (by omega)).trans ((a16 _ (by omega)).trans ((up_ne (by omega)).trans ((up_ne (by omega)).trans ((up_ne (by omega)).trans ((up_ne (by omega)).trans ((a11 _ (by omega)).trans ((up_ne (by omega)).trans ((up_ne (by omega)).trans ((a8 _ (by omega)).trans ((up_ne (by omega)).trans ((up_ne (by omega)).trans ((a5 _ (by omega)).trans ((up_ne (by omega)).trans ((up_ne (by omega)).trans ((a2 _ (by omega)).trans (up_ne (by omega)))))))))))))))))))))))))))) up_eq (isRo_c (fun b h1 h2 => ((up_ne (by omega)).trans ((a25 _ (by omega)).trans ((up_ne (by omega)).trans ((up_ne (by omega)).trans ((a22 _ (by omega)).trans ((up_ne (by omega)).trans ((up_ne (by omega)).trans ((a19 _ (by omega)).trans ((up_ne (by omega)).trans ((up_ne (by omega)).trans ((a16 _ (by omega)).trans ((up_ne (by omega)).trans ((up_ne (by omega)).trans ((up_ne (by omega)).trans ((up_ne (by omega)).trans ((a11 _ (by omega)).trans ((up_ne (by omega)).trans ((up_ne (by omega)).trans ((a8 _ (by omega)).trans ((up_ne (by omega)).trans ((up_ne (by omega)).trans ((a5 _ (by omega)).trans ((up_ne (by omega)).trans (up_ne (by omega)))))))))))))))))))))))))) ⟨b2, c2⟩) (isTa_c (fun b h1 h2 => ((up_ne (by omega)).trans ((a25 _ (by omega)).trans ((up_ne (by omega)).trans ((up_ne (by omega)).trans ((a22 _ (by omega)).trans ((up_ne (by omega)).trans ((up_ne (by omega)).trans ((a19 _ (by omega)).trans ((up_ne (by omega)).trans ((up_ne (by omega)).trans ((a16 _ (by omega)).trans ((up_ne (by omega)).trans ((up_ne (by omega)).trans ((up_ne (by omega)).trans ((up_ne (by omega)).trans ((a11 _ (by omega)).trans ((up_ne (by omega)).trans ((up_ne (by omega)).trans ((a8 _ (by omega)).trans ((up_ne (by omega)).trans (up_ne (by omega))))))))))))))))))))))) b5) (isLn_c (fun b h1 h2 => ((up_ne (by omega)).trans ((a25 _ (by omega)).trans ((up_ne (by omega)).trans ((up_ne (by omega)).trans ((a22 _ (by omega)).trans ((up_ne (by omega)).trans ((up_ne (by omega)).trans ((a19 _ (by omega)).trans ((up_ne (by omega)).trans ((up_ne (by omega)).trans ((a16 _ (by omega)).trans ((up_ne (by omega)).trans ((up_ne (by omega)).trans ((up_ne (by omega)).trans ((up_ne (by omega)).trans ((a11 _ (by omega)).trans ((up_ne (by omega)).trans (up_ne (by omega)))))))))))))))))))) b8) (isAc_c (fun b h1 h2 => ((up_ne (by omega)).trans ((a25 _ (by omega)).trans ((up_ne (by omega)).trans ((up_ne (by omega)).trans ((a22 _ (by omega)).trans ((up_ne (by omega)).trans ((up_ne (by omega)).trans ((a19 _ (by omega)).trans ((up_ne (by omega)).trans ((up_ne (by omega)).trans ((a16 _ (by omega)).trans ((up_ne (by omega)).trans ((up_ne (by omega)).trans ((up_ne (by omega)).trans (up_ne (by omega))))))))))))))))) b11) ⟨((up_ne (by omega)).trans ((a25 _ (by omega)).trans ((up_ne (by omega)).trans ((up_ne (by omega)).trans ((a22 _ (by omega)).trans ((up_ne (by omega)).trans up_eq)))))), ?_⟩ (isLn_c (fun b h1 h2 => ((up_ne (by omega)).trans ((a25 _ (by omega)).trans ((up_ne (by omega)).trans ((up_ne (by omega)).trans ((a22 _ (by omega)).trans ((up_ne (by omega)).trans ((up_ne (by omega)).trans ((a19 _ (by omega)).trans ((up_ne (by omega)).trans (up_ne (by omega)))))))))))) b16) (isLn_c (fun b h1 h2 => ((up_ne (by omega)).trans ((a25 _ (by omega)).trans ((up_ne (by omega)).trans ((up_ne (by omega)).trans ((a22 _ (by omega)).trans ((up_ne (by omega)).trans (up_ne (by omega))))))))) b19) (isSe_c (fun b h1 h2 => ((up_ne (by omega)).trans ((a25 _ (by omega)).trans ((up_ne (by omega)).trans (up_ne (by omega)))))) b22) (isAk_c (fun b h1 h2 => (up_ne (by omega))) b25) w26
  intro j
  unfold va_up
  dsimp only
  by_cases c1 : j = 1
  · rw [if_pos c1, if_pos (by omega), c1]
  · rw [if_neg c1]
    by_cases c2 : j = 0
    · rw [if_pos c2, if_pos (by omega), c2]
    · rw [if_neg c2, if_neg (by omega)]
end IN4
