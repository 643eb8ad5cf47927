/-! MAKING: Acts -/
section IN3
variable {S d r : Nat} {P : Option Value → q_H → Nat → Nat → Prop} {SL : Nat} {xs : Nat → Int32} {g : Nat → q_E}
theorem l_i0 : ∀ (n i : Nat), i + n = 24 → ∀ (S : Nat) (g : Nat → q_E) (f : Nat → Option Nat), r + 122 < 900 → g r = .inr (0, [.ref (r + 1), .int 0, .int 0]) → g (r + 1) = .inl (4, (24, .inr (.inr (.inr (.inr f))))) → (∀ j, f j = if j < i then some (r + 2 + 5 * j) else none) → (∀ j, j < i → isS g (r + 2 + 5 * j)) → WG (r + 2 + 5 * i) g → (∀ (g' : Nat → q_E) (f' : Nat → Option Nat) (S' : Nat), (∀ a, a < r → g' a = g a) → g' r = .inr (0, [.ref (r + 1), .int 0, .int 0]) → g' (r + 1) = .inl (4, (24, .inr (.inr (.inr (.inr f'))))) → (∀ j, f' j = if j < 24 then some (r + 2 + 5 * j) else none) → (∀ j, j < 24 → isS g' (r + 2 + 5 * j)) → WG (r + 122) g' → S' = S + 20 * n → P none (hpN SL xs (r + 122) g') (r + 122) S') → E (r + 2 + 5 * i) S (d + 1) 0 15 [some (.ref r), some (.int (nI i))] [] (hpN SL xs (r + 2 + 5 * i) g) P
  | 0, i, hi, S, g, f, hr, hg, hf, hff, hs, w, K => by
    have e : i = 24 := by omega
    refine (E_lop (qd_0 dX0_init_15) rfl rfl rfl rfl rfl).mpr ?_
    refine (E_alu (qd_0 dX0_init_16) rfl rfl rfl).mpr ?_
    refine ((E_br (qd_0 dX0_init_18) rfl rfl rfl rfl rfl rfl).trans (E_c2 (k := (24 : Int32) ≤ nI i) rfl)).mpr ?_
    rw [if_pos (by rw [e]; decide)]
    refine (E_ret (qd_0 dX0_init_40) rfl).mpr ?_
    subst e
    exact K g f S (fun _ _ => rfl) hg hf hff hs w rfl
  | n + 1, i, hi, S, g, f, hr, hg, hf, hff, hs, w, K => by
    refine (E_lop (qd_0 dX0_init_15) rfl rfl rfl rfl rfl).mpr ?_
    refine (E_alu (qd_0 dX0_init_16) rfl rfl rfl).mpr ?_
    refine ((E_br (qd_0 dX0_init_18) rfl rfl rfl rfl rfl rfl).trans (E_c2 (k := (24 : Int32) ≤ nI i) rfl)).mpr ?_
    rw [if_neg (show ¬ (24 : Int32) ≤ nI i from (nI_ge (by omega) (by omega) : ¬ nI 24 ≤ nI i))]
    refine (E_lop (qd_0 dX0_init_21) rfl rfl rfl rfl rfl).mpr ?_
    refine (A_get (o := 0) rfl (qd_0 dX0_init_22) rfl (by omega) hg rfl).mpr ?_
    refine (E_lop (qd_0 dX0_init_25) rfl rfl rfl rfl rfl).mpr ?_
    refine (A_new (o := 0) (ci := 5) rfl (qd_0 dX0_init_26) rfl (by omega) (wf1 (wLr (by omega) (wLi wL0)) (wqi (wqr (by omega) wq0)) w rfl)).mpr ?_
    have w1 := WG_new (e := .inr (5, [.null, .null, .null, .null, .int 0, .int 0, .int 0])) w (wfO (wqn (wqn (wqn (wqn (wqi (wqi (wqi wq0))))))))
    refine (E_alu (qd_0 dX0_init_29) rfl rfl rfl).mpr ?_
    refine A_call (o := 0) rfl (qd_0 dX0_init_30) rfl rfl (wf1 (wLr (by omega) (wLi wL0)) (wqr (by omega) (wqi (wqr (by omega) wq0))) w1 rfl) (fun Q hQ => ?_)
    refine n_49 (by omega) up_eq w1 (fun g1 a1 b1 w2 => hQ _ _ _ ?_)
    refine (A_ast (o := 0) rfl (qd_0 dX0_init_33) (by omega) (by omega) ((a1 _ (by omega)).trans ((up_ne (by omega)).trans hf)) b1.1 (by omega) (by omega) (Or.inl ⟨rfl, rfl⟩)).mpr ?_
    have hv : ∀ j, va_up f i (some (r + 2 + 5 * i)) j = if j < i + 1 then some (r + 2 + 5 * j) else none := fun j => by
      unfold va_up
      by_cases c : j = i
      · rw [if_pos c, if_pos (by omega), c]
      · rw [if_neg c, hff]
        by_cases c2 : j < i
        · rw [if_pos c2, if_pos (by omega)]
        · rw [if_neg c2, if_neg (by omega)]
    have w3 : WG (r + 2 + 5 * i + 5) (q_up g1 (r + 1) (.inl (4, (24, .inr (.inr (.inr (.inr (va_up f i (some (r + 2 + 5 * i)))))))))) := WG_up w2 (fun j k hk => by
      rw [hv] at hk
      by_cases c : j < i + 1
      · rw [if_pos c] at hk
        cases hk
        omega
      · rw [if_neg c] at hk
        cases hk)
    refine (E_lop (qd_0 dX0_init_34) rfl rfl rfl rfl rfl).mpr ?_
    refine (E_br (qd_0 dX0_init_37) rfl rfl rfl rfl rfl rfl).mpr ?_
    show E (r + 2 + 5 * i + 5) _ (d + 1) 0 15 [some (.ref r), some (.int (nI i + 1))] [] (hpN SL xs (r + 2 + 5 * i + 5) _) P
    rw [nI_1]
    have e5 : r + 2 + 5 * i + 5 = r + 2 + 5 * (i + 1) := by omega
    rw [e5] at w3 ⊢
    refine l_i0 n (i + 1) (by omega) _ _ _ hr ((up_ne (by omega)).trans ((a1 _ (by omega)).trans ((up_ne (by omega)).trans hg))) up_eq hv (fun j hj => ?_) w3 (fun g' f' S' h1 h2 h3 h4 h5 h6 h7 => K g' f' S' (fun a ha => ?_) h2 h3 h4 h5 h6 ?_)
    · by_cases c : j = i
      · rw [c]
        exact isS_c (fun b h1 h2 => up_ne (by omega)) b1
      · exact isS_c (fun b h1 h2 => (up_ne (by omega)).trans ((a1 _ (by omega)).trans (up_ne (by omega)))) (hs j (by omega))
    · exact (h1 a ha).trans ((up_ne (by omega)).trans ((a1 _ (by omega)).trans (up_ne (by omega))))
    · have hq : q_fN 5 = 7 := rfl
      rw [hq] at h7
      omega
def isAc (g : Nat → q_E) (r : Nat) : Prop := g r = .inr (0, [.ref (r + 1), .int 0, .int 0]) ∧ (∃ f : Nat → Option Nat, g (r + 1) = .inl (4, (24, .inr (.inr (.inr (.inr f))))) ∧ ∀ j, f j = if j < 24 then some (r + 2 + 5 * j) else none) ∧ ∀ j, j < 24 → isS g (r + 2 + 5 * j)
theorem isAc_c {g g' : Nat → q_E} {r : Nat} (h : ∀ b, r ≤ b → b ≤ r + 121 → g' b = g b) (s : isAc g r) : isAc g' r := by
  obtain ⟨s0, ⟨f, s1, s2⟩, s3⟩ := s
  exact ⟨(h _ (by omega) (by omega)).trans s0, ⟨f, (h _ (by omega) (by omega)).trans s1, s2⟩, fun j hj => isS_c (fun b h1 h2 => h b (by omega) (by omega)) (s3 j hj)⟩
theorem n_0 (hr : r + 122 < 900) (hg : g r = .inr (0, q_def 0)) (w0 : WG (r + 1) g) (K : ∀ g', (∀ a, a < r → g' a = g a) → isAc g' r → WG (r + 122) g' → P none (hpN SL xs (r + 122) g') (r + 122) (S + 504)) : E (r + 1) S (d + 1) 0 0 [some (.ref r), none] [] (hpN SL xs (r + 1) g) P := by
  refine (E_lop (qd_0 dX0_init_0) rfl rfl rfl rfl rfl).mpr ?_
  refine (A_obj (o := 0) rfl (qd_0 dX0_init_1) rfl rfl (by simp [q_cs])).mpr ?_
  refine (E_lop (qd_0 dX0_init_4) rfl rfl rfl rfl rfl).mpr ?_
  refine (E_alu (qd_0 dX0_init_5) rfl rfl rfl).mpr ?_
  refine (A_anw (o := 0) (n := 24) (t := 4) rfl (qd_0 dX0_init_7) (by decide) rfl rfl (by omega) (wf1 (wLr (by omega) (wLn wL0)) (wqi (wqr (by omega) wq0)) w0 rfl)).mpr ?_
  have w1 := WG_new (e := .inl (4, (24, .inr (.inr (.inr (.inr (fun _ => none))))))) w0 (fun i k h => by cases h)
  refine (A_put (o := 0) rfl rfl (qd_0 dX0_init_10) rfl rfl (Nat.le_of_ble_eq_true rfl) fitA (by omega) ((up_ne (by omega)).trans hg)).mpr ?_
  have w2 := WG_up (a := r) (e := .inr (0, [.ref (r + 1), .int 0, .int 0])) w1 (wfO (wqr (by omega) (wqi (wqi wq0))))
  refine (E_alu (qd_0 dX0_init_13) rfl rfl rfl).mpr ?_
  refine (E_lop (qd_0 dX0_init_14) rfl rfl rfl rfl rfl).mpr ?_
  refine l_i0 24 0 rfl _ _ (fun _ => none) hr up_eq ((up_ne (by omega)).trans up_eq) (fun j => by rw [if_neg (by omega)]) (fun j hj => absurd hj (by omega)) w2 (fun g' f' S' h1 h2 h3 h4 h5 h6 h7 => ?_)
  rw [h7]
  exact K g' (fun a ha => (h1 a ha).trans ((up_ne (by omega)).trans (up_ne (by omega)))) ⟨h2, ⟨f', h3, h4⟩, h5⟩ h6
end IN3
