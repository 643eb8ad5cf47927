/-! METHODS: the model reads its tape: data -/
def eC (B : q_FT) (b : Nat → Int32) (n x : Nat) : Prop := ∀ k, k < x → B 196 (4 + 4 * k) = srA b n (nx b n (pC b n k)) ∧ B 196 (5 + 4 * k) = tkV b n (nx b n (nx b n (pC b n k))) ∧ B 196 (6 + 4 * k) = tkV b n (nx b n (nx b n (nx b n (pC b n k)))) ∧ B 196 (7 + 4 * k) = tkV b n (nx b n (nx b n (nx b n (nx b n (pC b n k)))))
def eM (B : q_FT) (b : Nat → Int32) (n c : Nat) : Prop := ∀ k, k < c → B 196 (32 + k) = tkV b n (nx b n (pM b n k)) ∧ B 196 (38 + k) = tkV b n (nx b n (nx b n (pM b n k))) ∧ B 196 (35 + k) = -1000000
def eL (B : q_FT) (b : Nat → Int32) (n l : Nat) : Prop := ∀ k, k < l → B 196 (43 + k) = tkV b n (nx b n (pL b n k)) ∧ B 196 (28 + k) = tkV b n (nx b n (nx b n (pL b n k)))
def fBm (B0 B : q_FT) : Prop := ∀ a k : Nat, a ≠ 196 → B a k = B0 a k
theorem fBm_u {B0 B : q_FT} {k : Nat} {x : Int32} (h : fBm B0 B) : fBm B0 (u2 B 196 k x) := fun a j q => by
  rw [← h a j q]
  exact if_neg (fun z => q z.1)
def mI (B0 B : q_FT) (b : Nat → Int32) (n x c l : Nat) : Prop := fBm B0 B ∧ B 196 1 = nI x ∧ B 196 2 = nI c ∧ B 196 3 = nI l ∧ B 196 41 = 0 ∧ B 196 47 = 0 ∧ eC B b n x ∧ eM B b n c ∧ eL B b n l
theorem u6_ne {B : q_FT} {i j : Nat} {x : Int32} (h : ¬ j = i) : u2 B 196 i x 196 j = B 196 j := if_neg (fun z => h z.2)
theorem mI_c {B0 B : q_FT} {b : Nat → Int32} {n x : Nat} (hx : x < 6) (h : mI B0 B b n x 0 0) : mI B0 (rB B b n x (pC b n x)) b n (x + 1) 0 0 := by
  obtain ⟨h1, h2, h3, h4, h5, h6, h7, h8, h9⟩ := h
  unfold rB
  refine ⟨fBm_u (fBm_u (fBm_u (fBm_u (fBm_u h1)))), u2_s, ?_, ?_, ?_, ?_, fun k hk => ?_, fun k hk => absurd hk (by omega), fun k hk => absurd hk (by omega)⟩
  · rw [← h3, u6_ne (by omega), u6_ne (by omega), u6_ne (by omega), u6_ne (by omega), u6_ne (by omega)]
  · rw [← h4, u6_ne (by omega), u6_ne (by omega), u6_ne (by omega), u6_ne (by omega), u6_ne (by omega)]
  · rw [← h5, u6_ne (by omega), u6_ne (by omega), u6_ne (by omega), u6_ne (by omega), u6_ne (by omega)]
  · rw [← h6, u6_ne (by omega), u6_ne (by omega), u6_ne (by omega), u6_ne (by omega), u6_ne (by omega)]
  · rcases Nat.lt_or_ge k x with z | z
    · obtain ⟨q1, q2, q3, q4⟩ := h7 k z
      refine ⟨?_, ?_, ?_, ?_⟩
      · rw [← q1, u6_ne (by omega), u6_ne (by omega), u6_ne (by omega), u6_ne (by omega), u6_ne (by omega)]
      · rw [← q2, u6_ne (by omega), u6_ne (by omega), u6_ne (by omega), u6_ne (by omega), u6_ne (by omega)]
      · rw [← q3, u6_ne (by omega), u6_ne (by omega), u6_ne (by omega), u6_ne (by omega), u6_ne (by omega)]
      · rw [← q4, u6_ne (by omega), u6_ne (by omega), u6_ne (by omega), u6_ne (by omega), u6_ne (by omega)]
    · have e : k = x := by omega
      subst e
      refine ⟨?_, ?_, ?_, ?_⟩
      · rw [u6_ne (by omega), u6_ne (by omega), u6_ne (by omega), u6_ne (by omega), u2_s]
      · rw [show 5 + 4 * k = 4 + 4 * k + 1 by omega, u6_ne (by omega), u6_ne (by omega), u6_ne (by omega), u2_s]
      · rw [show 6 + 4 * k = 4 + 4 * k + 2 by omega, u6_ne (by omega), u6_ne (by omega), u2_s]
      · rw [show 7 + 4 * k = 4 + 4 * k + 3 by omega, u6_ne (by omega), u2_s]
theorem mI_m {B0 B : q_FT} {b : Nat → Int32} {n x c : Nat} (hx : x ≤ 6) (hc : c < 3) (h : mI B0 B b n x c 0) : mI B0 (rBm B b n c (pM b n c)) b n x (c + 1) 0 := by
  obtain ⟨h1, h2, h3, h4, h5, h6, h7, h8, h9⟩ := h
  unfold rBm
  refine ⟨fBm_u (fBm_u (fBm_u (fBm_u h1))), ?_, u2_s, ?_, ?_, ?_, fun k hk => ?_, fun k hk => ?_, fun k hk => absurd hk (by omega)⟩
  · rw [← h2, u6_ne (by omega), u6_ne (by omega), u6_ne (by omega), u6_ne (by omega)]
  · rw [← h4, u6_ne (by omega), u6_ne (by omega), u6_ne (by omega), u6_ne (by omega)]
  · rw [← h5, u6_ne (by omega), u6_ne (by omega), u6_ne (by omega), u6_ne (by omega)]
  · rw [← h6, u6_ne (by omega), u6_ne (by omega), u6_ne (by omega), u6_ne (by omega)]
  · obtain ⟨q1, q2, q3, q4⟩ := h7 k hk
    refine ⟨?_, ?_, ?_, ?_⟩
    · rw [← q1, u6_ne (by omega), u6_ne (by omega), u6_ne (by omega), u6_ne (by omega)]
    · rw [← q2, u6_ne (by omega), u6_ne (by omega), u6_ne (by omega), u6_ne (by omega)]
    · rw [← q3, u6_ne (by omega), u6_ne (by omega), u6_ne (by omega), u6_ne (by omega)]
    · rw [← q4, u6_ne (by omega), u6_ne (by omega), u6_ne (by omega), u6_ne (by omega)]
  · rcases Nat.lt_or_ge k c with z | z
    · obtain ⟨q1, q2, q3⟩ := h8 k z
      refine ⟨?_, ?_, ?_⟩
      · rw [← q1, u6_ne (by omega), u6_ne (by omega), u6_ne (by omega), u6_ne (by omega)]
      · rw [← q2, u6_ne (by omega), u6_ne (by omega), u6_ne (by omega), u6_ne (by omega)]
      · rw [← q3, u6_ne (by omega), u6_ne (by omega), u6_ne (by omega), u6_ne (by omega)]
    · have e : k = c := by omega
      subst e
      refine ⟨?_, ?_, ?_⟩
      · rw [u6_ne (by omega), u6_ne (by omega), u6_ne (by omega), u2_s]
      · rw [u6_ne (by omega), u2_s]
      · rw [u6_ne (by omega), u6_ne (by omega), u2_s]
theorem mI_l {B0 B : q_FT} {b : Nat → Int32} {n x c l : Nat} (hx : x ≤ 6) (hc : c ≤ 3) (hl : l < 4) (h : mI B0 B b n x c l) : mI B0 (rBl B b n l (pL b n l)) b n x c (l + 1) := by
  obtain ⟨h1, h2, h3, h4, h5, h6, h7, h8, h9⟩ := h
  unfold rBl
  refine ⟨fBm_u (fBm_u (fBm_u h1)), ?_, ?_, u2_s, ?_, ?_, fun k hk => ?_, fun k hk => ?_, fun k hk => ?_⟩
  · rw [← h2, u6_ne (by omega), u6_ne (by omega), u6_ne (by omega)]
  · rw [← h3, u6_ne (by omega), u6_ne (by omega), u6_ne (by omega)]
  · rw [← h5, u6_ne (by omega), u6_ne (by omega), u6_ne (by omega)]
  · rw [← h6, u6_ne (by omega), u6_ne (by omega), u6_ne (by omega)]
  · obtain ⟨q1, q2, q3, q4⟩ := h7 k hk
    refine ⟨?_, ?_, ?_, ?_⟩
    · rw [← q1, u6_ne (by omega), u6_ne (by omega), u6_ne (by omega)]
    · rw [← q2, u6_ne (by omega), u6_ne (by omega), u6_ne (by omega)]
    · rw [← q3, u6_ne (by omega), u6_ne (by omega), u6_ne (by omega)]
    · rw [← q4, u6_ne (by omega), u6_ne (by omega), u6_ne (by omega)]
  · obtain ⟨q1, q2, q3⟩ := h8 k hk
    refine ⟨?_, ?_, ?_⟩
    · rw [← q1, u6_ne (by omega), u6_ne (by omega), u6_ne (by omega)]
    · rw [← q2, u6_ne (by omega), u6_ne (by omega), u6_ne (by omega)]
    · rw [← q3, u6_ne (by omega), u6_ne (by omega), u6_ne (by omega)]
  · rcases Nat.lt_or_ge k l with z | z
    · obtain ⟨q1, q2⟩ := h9 k z
      refine ⟨?_, ?_⟩
      · rw [← q1, u6_ne (by omega), u6_ne (by omega), u6_ne (by omega)]
      · rw [← q2, u6_ne (by omega), u6_ne (by omega), u6_ne (by omega)]
    · have e : k = l := by omega
      subst e
      refine ⟨?_, ?_⟩
      · rw [u6_ne (by omega), u6_ne (by omega), u2_s]
      · rw [u6_ne (by omega), u2_s]
/-- faults are 1 to 3 -/
theorem nuO_r {b : Nat → Int32} {n p : Nat} {lo hi : Int32} (h : ¬ nuO b n p lo hi = 0) : 0 < nuO b n p lo hi := by
  unfold nuO at h ⊢
  split at h
  · split at h
    · exact absurd rfl h
    · rename_i c1 c2
      rw [if_pos c1, if_neg c2]
      decide
  · rename_i c1
    rw [if_neg c1]
    decide
theorem z1p : (0 : Int32) < 1 := by decide
theorem z2p : (0 : Int32) < 2 := by decide
theorem z3p : (0 : Int32) < 3 := by decide
theorem rcO_r {b : Nat → Int32} {n x p : Nat} (h : ¬ (rcO b n x p).1 = 0) : 0 < (rcO b n x p).1 := by
  unfold rcO at h ⊢
  split
  · first | exact z1p | exact z2p | exact z3p
  · split
    · first | exact z1p | exact z2p | exact z3p
    · split
      · rename_i c; exact nuO_r c
      · split
        · rename_i c; exact nuO_r c
        · split
          · first | exact z1p | exact z2p | exact z3p
          · split
            · rename_i c; exact nuO_r c
            · split
              · first | exact z1p | exact z2p | exact z3p
              · rename_i c1 c2 c3 c4 c5 c6 c7
                rw [if_neg c1, if_neg c2, if_neg c3, if_neg c4, if_neg c5, if_neg c6, if_neg c7] at h
                exact absurd rfl h
theorem rmO_r {b : Nat → Int32} {n x p : Nat} {up : Int32} (h : ¬ (rmO b n up x p).1 = 0) : 0 < (rmO b n up x p).1 := by
  unfold rmO at h ⊢
  split
  · first | exact z1p | exact z2p | exact z3p
  · split
    · rename_i c; exact nuO_r c
    · split
      · rename_i c; exact nuO_r c
      · split
        · first | exact z1p | exact z2p | exact z3p
        · rename_i c1 c2 c3 c4
          rw [if_neg c1, if_neg c2, if_neg c3, if_neg c4] at h
          exact absurd rfl h
theorem rlO_r {b : Nat → Int32} {n x p : Nat} (h : ¬ (rlO b n x p).1 = 0) : 0 < (rlO b n x p).1 := by
  unfold rlO at h ⊢
  split
  · first | exact z1p | exact z2p | exact z3p
  · split
    · rename_i c; exact nuO_r c
    · split
      · rename_i c; exact nuO_r c
      · split
        · first | exact z1p | exact z2p | exact z3p
        · rename_i c1 c2 c3 c4
          rw [if_neg c1, if_neg c2, if_neg c3, if_neg c4] at h
          exact absurd rfl h
theorem prs_r {isw : Nat → Prop} [DecidablePred isw] {st : Nat → Nat → Int32 × Nat} (hs : ∀ i p, ¬ (st i p).1 = 0 → 0 < (st i p).1) : ∀ (r i p : Nat), ¬ (prs isw st r i p).1 = 0 → 0 < (prs isw st r i p).1
  | 0, i, p, h => absurd rfl h
  | r + 1, i, p, h => by
    unfold prs at h ⊢
    by_cases c1 : isw p
    · rw [if_pos c1] at h ⊢
      by_cases c2 : (st i p).1 = 0
      · rw [if_pos c2] at h ⊢
        exact prs_r hs r (i + 1) _ h
      · rw [if_neg c2]
        exact hs i p c2
    · rw [if_neg c1] at h
      exact absurd rfl h
theorem rcO_6' {b : Nat → Int32} {n x p : Nat} (h : (rcO b n x p).1 = 0) : x < 6 := by
  rcases Nat.lt_or_ge x 6 with z | z
  · exact z
  · unfold rcO at h
    rw [if_pos (by omega)] at h
    exact absurd (show (3 : Int32) = 0 from h) (by decide)
theorem rmO_3' {b : Nat → Int32} {n x p : Nat} {up : Int32} (h : (rmO b n up x p).1 = 0) : x < 3 := by
  rcases Nat.lt_or_ge x 3 with z | z
  · exact z
  · unfold rmO at h
    rw [if_pos (by omega)] at h
    exact absurd (show (3 : Int32) = 0 from h) (by decide)
theorem rlO_4' {b : Nat → Int32} {n x p : Nat} (h : (rlO b n x p).1 = 0) : x < 4 := by
  rcases Nat.lt_or_ge x 4 with z | z
  · exact z
  · unfold rlO at h
    rw [if_pos (by omega)] at h
    exact absurd (show (3 : Int32) = 0 from h) (by decide)
