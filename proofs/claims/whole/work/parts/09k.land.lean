/-! OPS: land -/
section OK
variable {b b' : Nat → Int32} {n p x : Nat}
theorem prO_0 (h : (prO b n).1 = 0) : (r1 b n).1 = 0 ∧ (r2 b n).1 = 0 ∧ (r3 b n).1 = 0 := by
  unfold prO at h
  by_cases w : wdA b n (skp b n 0) 0
  · rw [if_neg (not_not_intro w)] at h
    by_cases h1 : (r1 b n).1 = 0
    · rw [if_neg (not_not_intro h1)] at h
      by_cases h2 : (r2 b n).1 = 0
      · rw [if_neg (not_not_intro h2)] at h
        by_cases h3 : (r3 b n).1 = 0
        · exact ⟨h1, h2, h3⟩
        · rw [if_pos h3] at h
          exact absurd h h3
      · rw [if_pos h2] at h
        exact absurd h h2
    · rw [if_pos h1] at h
      exact absurd h h1
  · rw [if_pos w] at h
    exact absurd (show (1 : Int32) = 0 from h) (by decide)
theorem nuO_0 {lo hi : Int32} (h : nuO b n p lo hi = 0) : lo ≤ tkV b n p ∧ tkV b n p ≤ hi := by
  unfold nuO at h
  by_cases k : tkK b n p = 2
  · rw [if_pos k] at h
    by_cases c : lo ≤ tkV b n p ∧ tkV b n p ≤ hi
    · exact c
    · rw [if_neg c] at h
      exact absurd h (by decide)
  · rw [if_neg k] at h
    exact absurd h (by decide)
theorem n05 {v : Int32} (h : 0 ≤ v ∧ v ≤ 5) : ∃ e, e < 6 ∧ v = nI e := by
  obtain ⟨i, hi, e⟩ := q_rng (n := 6) (by omega) (r := v) ⟨h.1, Int32.lt_of_le_of_lt h.2 (by decide)⟩
  exact ⟨i, hi, e⟩
theorem n19 {v : Int32} (h : 1 ≤ v ∧ v ≤ 9) : ∃ s, 1 ≤ s ∧ s ≤ 9 ∧ v = nI s := by
  obtain ⟨i, hi, e⟩ := q_rng (n := 10) (by omega) (r := v) ⟨Int32.le_trans (by decide) h.1, Int32.lt_of_le_of_lt h.2 (by decide)⟩
  refine ⟨i, ?_, by omega, e⟩
  rcases Nat.eq_zero_or_pos i with z | z
  · rw [e, z] at h
    exact absurd h.1 (by decide)
  · exact z
theorem rc_0 (h : (rcO b n x p).1 = 0) : ¬ srA b n (nx b n p) = 0 ∧ nuO b n (nx b n (nx b n p)) 0 5 = 0 ∧ nuO b n (nx b n (nx b n (nx b n p))) 0 5 = 0 ∧ nuO b n (nx b n (nx b n (nx b n (nx b n p)))) 1 9 = 0 := by
  unfold rcO at h
  by_cases c0 : x < 6
  · rw [if_neg (not_not_intro c0)] at h
    by_cases c1 : srA b n (nx b n p) = 0
    · rw [if_pos c1] at h
      exact absurd (show (1 : Int32) = 0 from h) (by decide)
    · rw [if_neg c1] at h
      by_cases c2 : nuO b n (nx b n (nx b n p)) 0 5 = 0
      · rw [if_neg (not_not_intro c2)] at h
        by_cases c3 : nuO b n (nx b n (nx b n (nx b n p))) 0 5 = 0
        · rw [if_neg (not_not_intro c3)] at h
          by_cases c4 : tkV b n (nx b n (nx b n (nx b n p))) = tkV b n (nx b n (nx b n p))
          · rw [if_pos c4] at h
            exact absurd (show (2 : Int32) = 0 from h) (by decide)
          · rw [if_neg c4] at h
            by_cases c5 : nuO b n (nx b n (nx b n (nx b n (nx b n p)))) 1 9 = 0
            · exact ⟨c1, c2, c3, c5⟩
            · rw [if_pos c5] at h
              exact absurd h c5
        · rw [if_pos c3] at h
          exact absurd h c3
      · rw [if_pos c2] at h
        exact absurd h c2
  · rw [if_pos c0] at h
    exact absurd (show (3 : Int32) = 0 from h) (by decide)
theorem rm_0 {up : Int32} (h : (rmO b n up x p).1 = 0) : nuO b n (nx b n p) 0 5 = 0 := by
  unfold rmO at h
  by_cases c0 : x < 3
  · rw [if_neg (not_not_intro c0)] at h
    by_cases c2 : nuO b n (nx b n p) 0 5 = 0
    · exact c2
    · rw [if_pos c2] at h
      exact absurd h c2
  · rw [if_pos c0] at h
    exact absurd (show (3 : Int32) = 0 from h) (by decide)
theorem rl_0 (h : (rlO b n x p).1 = 0) : nuO b n (nx b n p) 0 5 = 0 ∧ nuO b n (nx b n (nx b n p)) 0 5 = 0 := by
  unfold rlO at h
  by_cases c0 : x < 4
  · rw [if_neg (not_not_intro c0)] at h
    by_cases c2 : nuO b n (nx b n p) 0 5 = 0
    · rw [if_neg (not_not_intro c2)] at h
      by_cases c3 : nuO b n (nx b n (nx b n p)) 0 5 = 0
      · exact ⟨c2, c3⟩
      · rw [if_pos c3] at h
        exact absurd h c3
    · rw [if_pos c2] at h
      exact absurd h c2
  · rw [if_pos c0] at h
    exact absurd (show (3 : Int32) = 0 from h) (by decide)
/-- what is read, told twice -/
theorem td_GR {F F' B B' Bm0 Bm : q_FT} (hb : ∀ k, bR (b k) (b' k)) (h0 : (prO b n).1 = 0) (hx : xDone F B F' B' b n) (hm : mI Bm0 Bm b' n (r1 b' n).2.1 (r2 b' n).2.1 (r3 b' n).2.1) (h8 : R8 F) : GR F' B' 15 (Bm 196) (r1 b n).2.1 (r2 b n).2.1 (r3 b n).2.1 ∧ SR F' B' 21 (fun j => if j = 10 then upO (r1 b n).2.1 else Bm 196 (32 + j)) (r1 b n).2.1 (r2 b n).2.1 (r3 b n).2.1 (B' 16) := by
  obtain ⟨z1, z2, z3⟩ := prO_0 h0
  rw [← bR_r1 hb, ← bR_r2 hb, ← bR_r3 hb] at hm
  obtain ⟨-, m1, m2, m3, m41, m47, mC, mM, mL⟩ := hm
  obtain ⟨⟨x1, -, -, x2, x3, x4, xC, xM, xL⟩, xu⟩ := hx
  have c6 := r1_6 z1
  have c3 := r2_3 z2
  have c4 := r3_4 z3
  have kC := (prs_ok (isw := fun p => wdA b n p 0) (st := rcO b n) (p0 := skp b n 0) 7 0 z1 (fun k hk => absurd hk (by omega))).2
  have kM := (prs_ok (isw := fun p => wdA b n p 1) (st := rmO b n (upO (r1 b n).2.1)) (p0 := (r1 b n).2.2) 4 0 z2 (fun k hk => absurd hk (by omega))).2
  have kL := (prs_ok (isw := fun p => wdA b n p 2) (st := rlO b n) (p0 := (r2 b n).2.2) 5 0 z3 (fun k hk => absurd hk (by omega))).2
  have hV : ∀ p, tkV b' n p = tkV b n p := fun p => (bR_V hb n p).symm
  refine ⟨⟨⟨c6, c3, c4⟩, ⟨x2, x3, x4⟩, ⟨m1, m2, m3⟩, fun k hk => ?_, fun k hk => ?_⟩, fun k hk => ?_, fun j j' hj hj' => ?_, fun k hk => ?_, ?_, ?_, ?_⟩
  · obtain ⟨q1, q2, q3, q4⟩ := xC k hk
    obtain ⟨w1, w2, w3, w4⟩ := mC k hk
    rw [← bR_sr hb, ← bR_nx hb, ← bR_pC hb] at w1
    rw [hV, ← bR_nx hb, ← bR_pC hb] at w2 w3 w4
    obtain ⟨e1, e2, e3, e4⟩ := rc_0 (kC k hk)
    refine ⟨⟨w1.trans q1.symm, w2.trans q2.symm, w3.trans q3.symm, w4.trans q4.symm⟩, ?_, ?_, ?_, ?_⟩
    · rw [q1]
      exact (srA_r (b := b) (n := n) (p := nx b n (pC b n k))).elim (fun z => absurd z e1) id
    · rw [q2]
      exact n05 (nuO_0 e2)
    · rw [q3]
      exact n05 (nuO_0 e3)
    · rw [q4]
      exact n19 (nuO_0 e4)
  · obtain ⟨q1, q2⟩ := xL k hk
    obtain ⟨w1, w2⟩ := mL k hk
    rw [hV, ← bR_nx hb, ← bR_pL hb] at w2
    refine ⟨w2.trans q2.symm, ?_⟩
    rw [q2]
    exact n05 (nuO_0 (rl_0 (kL k hk)).2)
  · obtain ⟨q1, q2, q3⟩ := xM k hk
    obtain ⟨w1, w2, w3⟩ := mM k hk
    rw [hV, ← bR_nx hb, ← bR_pM hb] at w1 w2
    dsimp only
    rw [if_neg (by omega), if_neg (by omega), if_neg (by omega), show 32 + (3 + k) = 35 + k by omega, show 32 + (6 + k) = 38 + k by omega, w1, w2, w3]
    refine ⟨?_, q1.symm, q3.symm, Or.inl q3, q2⟩
    rw [q1]
    exact n05 (nuO_0 (rm_0 (kM k hk)))
  · intro _ hne
    exact absurd (xM j hj).2.2 hne
  · obtain ⟨q1, q2⟩ := xL k hk
    obtain ⟨w1, w2⟩ := mL k hk
    rw [hV, ← bR_nx hb, ← bR_pL hb] at w1
    dsimp only
    rw [if_neg (by omega), show 32 + (11 + k) = 43 + k by omega, w1]
    refine ⟨q1.symm, Or.inl ?_⟩
    rw [q1]
    exact n05 (nuO_0 (rl_0 (kL k hk)).1)
  · dsimp only
    rw [if_pos rfl]
    exact xu
  · dsimp only
    rw [if_neg (by omega), show 32 + 9 = 41 by omega, m41, x1 21 5 (by omega) (by omega) (by omega), h8.1]
    exact Int32.zero_and.symm
  · dsimp only
    rw [if_neg (by omega), show 32 + 15 = 47 by omega, m47, x1 21 6 (by omega) (by omega) (by omega), h8.2]
end OK
section OL
variable {S SL : Nat} {xs : Nat → Int32} {F B : q_FT} {C : q_CT}
theorem o_land (r : RE F B) : OK2 S SL xs 10 10 74 129 [some (.ref (0 : Nat)), none] [some (.ref (187 : Nat)), none, none] F B C := fun Pc k0 => by
  obtain ⟨r1', r2', ⟨⟨t, ht, t1, t2⟩, tb⟩, r4, r5, r6, r7, r8⟩ := id r
  have h0 : ∀ k, k < t → 0 ≤ B 195 k := fun k _ => (tb k).elim (fun z => z.1 ▸ z.2) (fun z => Int32.le_trans (by decide : (0 : Int32) ≤ 127) (Int32.le_of_lt z.2))
  refine s_xland (d := 2) t1 ht rfl (fun z F' B' hx => ?_) (fun z F' B' hf => ?_)
  · obtain ⟨hI, hu⟩ := id hx
    have hFF := hI.1
    have hBB : ∀ a, ¬ (16 ≤ a ∧ a ≤ 25) → B' a = B a := fun a h => funext fun k => hI.2.1 a k h
    have e195 : ldB B' 26 15 195 = B 195 := (ldB_o (by omega)).trans (hBB 195 (by omega))
    have fo : ∀ a j, ¬ (a = 13 ∧ ¬ j = 7) → ¬ a = 15 → ¬ (a = 21 ∧ j = 4) → ¬ a = 26 → ¬ a = 32 → ¬ (a = 37 ∧ j = 1) → u2 (ldF (u2 F' 13 1 0) 26 15) 37 1 0 a j = F a j := fun a j h1 h2 h3 h4 h5 h6 => by
      rw [u2_at2, if_neg h6, ldF_o (by omega) (by omega), u2_at2, if_neg (by omega), hFF a j (by omega) h2 h3]
    have e10 : u2 (ldF (u2 F' 13 1 0) 26 15) 37 1 0 187 10 = nI t := (fo _ _ (by omega) (by omega) (by omega) (by omega) (by omega) (by omega)).trans t2
    have ans : ldF (u2 F' 13 1 0) 26 15 26 1 = nI (r1 (B 195) t).2.1 := by
      rw [ldF_a (by omega) (by omega), u2_at2, if_neg (by omega), hI.2.2.2.1, bR_r1 tb]
    rw [ans]
    refine k0 _ _ _ _ (fun Pm km => ?_)
    rw [← c15self (C := C)]
    refine s_mland (d := 5) e10 ht e195 h0 (fun z' Bm num' v' hm => ?_) (fun z' => absurd ((congrArg Prod.fst (bR_pr tb t)).symm.trans z) z')
    obtain ⟨g, s⟩ := td_GR tb z hx hm r8
    have mB : ∀ a, ¬ a = 196 → Bm a = ldB B' 26 15 a := fun a h => funext fun k => hm.1 a k h
    have g' : GR (u2 F' 13 1 0) B' 15 (Bm 196) (r1 (B 14) t).2.1 (r2 (B 14) t).2.1 (r3 (B 14) t).2.1 := GR_s (fun j => by rw [u2_at2, if_neg (by omega)]) (fun _ _ _ => rfl) g
    have s' : SR (u2 F' 13 1 0) B' (15 + 6) (fun j => if j = 10 then upO (r1 (B 14) t).2.1 else Bm 196 (32 + j)) (r1 (B 14) t).2.1 (r2 (B 14) t).2.1 (r3 (B 14) t).2.1 (B' (15 + 1)) := SR_s g.1.2.1 g.1.2.2 (fun j => by rw [u2_at2, if_neg (by omega)]) (fun _ _ _ => rfl) s
    have eX : (r1 (B 195) t).2.1 = (r1 (B 14) t).2.1 := by rw [bR_r1 tb]
    rw [eX] at km ⊢
    generalize hG : u2 (u2 (bc Bm 196 0 188 0 48) 188 0 1) 188 42 (upO (r1 (B 14) t).2.1) = G
    generalize hH : u2 (u2 (mS (u2 (u2 (ldF (u2 F' 13 1 0) 26 15) 37 1 0) 187 16 0) (B 195) t (prO (B 195) t).2 num') 187 10 0) 187 4 0 = H
    have h188 : ∀ j, j < 48 → G 188 j = if j = 42 then upO (r1 (B 14) t).2.1 else if j = 0 then 1 else Bm 196 j := fun j hj => by
      rw [← hG, u2_at, u2_at, bc_at, if_pos (by omega : 0 ≤ j ∧ j < 0 + 48), Nat.sub_zero, Nat.zero_add]
    have hB : ∀ a, ¬ a = 188 → ¬ a = 196 → G a = ldB B' 26 15 a := fun a h1 h2 => by
      rw [← hG, u2_r h1, u2_r h1, bc_f h1, mB a h2]
    have hF : ∀ a j, ¬ (a = 187 ∧ (j = 4 ∨ 10 ≤ j ∧ j ≤ 16)) → H a j = u2 (ldF (u2 F' 13 1 0) 26 15) 37 1 0 a j := fun a j h => by
      rw [← hH, u2_at2, if_neg (by omega), u2_at2, if_neg (by omega), mS_ne (by omega), u2_at2, if_neg (by omega)]
    have h4 : H 187 4 = 0 := by rw [← hH, u2_s]
    have h10 : H 187 10 = 0 := by rw [← hH, u2_at2, if_neg (by omega), u2_s]
    have e37 : ∀ j, u2 (ldF (u2 F' 13 1 0) 26 15) 37 1 0 26 j = ldF (u2 F' 13 1 0) 26 15 26 j := fun j => by rw [u2_at2, if_neg (by omega)]
    have e38 : ∀ j, u2 (ldF (u2 F' 13 1 0) 26 15) 37 1 0 32 j = ldF (u2 F' 13 1 0) 26 15 32 j := fun j => by rw [u2_at2, if_neg (by omega)]
    refine km _ _ _ (RE_new (n := (r1 (B 14) t).2.1) (m := (r2 (B 14) t).2.1) (p := (r3 (B 14) t).2.1) r (fun a j q1 q2 q3 q4 q5 q6 q7 => (hF a j (by omega)).trans (fo a j q1 q2 q3 q4 q5 q6)) (fun a q1 q2 q3 => (hB a q2 q3).trans ((ldB_o (by omega)).trans (hBB a (by omega)))) ⟨⟨0, by omega, ?_, h10⟩, fun i => ?_⟩ ?_ ?_ ?_ ?_ ?_ h4)
    · rw [hF _ _ (by omega), u2_at2, if_neg (by omega), ldF_o (by omega) (by omega), u2_s]
      rfl
    · rw [hB 14 (by omega) (by omega), hB 195 (by omega) (by omega), ldB_o (by omega), ldB_o (by omega), hBB 14 (by omega), hBB 195 (by omega)]
      exact tb i
    · rw [hF _ _ (by omega), e37, ldF_a (by omega) (by omega), u2_at2, if_neg (by omega)]
      exact hI.2.2.1
    · rw [h188 0 (by omega), if_neg (by omega), if_pos rfl]
    · exact ld_GR (b := 15) (by omega) (fun j _ => (hF _ _ (by omega)).trans (e37 j)) (fun c q1 q2 => hB _ (by omega) (by omega)) (fun j q1 q2 => by rw [h188 j (by omega), if_neg (by omega), if_neg (by omega)]) g'
    · refine ld_SR (b := 15) (a := 26) g.1.1 g.1.2.1 g.1.2.2 (by omega) (fun j _ => (hF _ _ (by omega)).trans (e38 j)) (fun c q1 q2 => hB _ (by omega) (by omega)) (fun j q1 => ?_) s'
      rw [h188 (32 + j) (by omega)]
      by_cases e : j = 10
      · rw [if_pos e, if_pos (by omega)]
      · rw [if_neg e, if_neg (by omega), if_neg (by omega)]
    · rw [hF _ _ (by omega), u2_s]
  · have hFF := hf.2.2.1
    have hBB : ∀ a, ¬ (16 ≤ a ∧ a ≤ 25) → B' a = B a := fun a h => funext fun k => hf.2.2.2 a k h
    have e195 : B' 195 = B 195 := hBB 195 (by omega)
    have fo : ∀ a j, ¬ a = 13 → ¬ a = 15 → ¬ (a = 21 ∧ j = 4) → u2 F' 13 1 0 a j = F a j := fun a j h1 h2 h3 => by
      rw [u2_at2, if_neg (by omega), hFF a j (by omega) h2 h3]
    have e10 : u2 F' 13 1 0 187 10 = nI t := (fo _ _ (by omega) (by omega) (by omega)).trans t2
    rw [bR_pr tb]
    refine k0 _ _ _ _ (fun Pm km => ?_)
    rw [← c15self (C := C)]
    refine s_mland (d := 5) e10 ht e195 h0 (fun z' => absurd ((congrArg Prod.fst (bR_pr tb t)).trans z') z) (fun z' Bm num' v' hm => ?_)
    generalize hH : u2 (u2 (mS (u2 (u2 (u2 F' 13 1 0) 187 16 0) 187 16 (prO (B 195) t).1) (B 195) t (prO (B 195) t).2 num') 187 10 0) 187 17 (prO (B 195) t).1 = H
    have hF : ∀ a j, ¬ (a = 187 ∧ 10 ≤ j ∧ j ≤ 17) → H a j = u2 F' 13 1 0 a j := fun a j h => by
      rw [← hH, u2_at2, if_neg (by omega), u2_at2, if_neg (by omega), mS_ne (by omega), u2_at2, if_neg (by omega), u2_at2, if_neg (by omega)]
    have hF' : ∀ a j, ¬ (a = 187 ∧ 10 ≤ j ∧ j ≤ 17) → ¬ (a = 13 ∨ a = 15 ∨ (a = 21 ∧ j = 4)) → H a j = F a j := fun a j h h2 => (hF a j h).trans (fo a j (by omega) (by omega) (by omega))
    have hB : ∀ a, ¬ (16 ≤ a ∧ a ≤ 25) → ¬ a = 196 → Bm a = B a := fun a h1 h2 => (funext fun k => hm a k h2).trans (hBB a h1)
    have h10 : H 187 10 = 0 := by rw [← hH, u2_at2, if_neg (by omega), u2_s]
    have h17 : H 187 17 = (prO (B 195) t).1 := by rw [← hH, u2_s]
    refine km _ _ _ ⟨R1_c (fun a h => hB a (by omega) (by omega)) r1', ?_, ⟨⟨0, by omega, ?_, h10⟩, fun i => ?_⟩, ?_, R5_c (fun a j h1 h2 => hF' _ _ (by omega) (by omega)) (hF' _ _ (by omega) (by omega)) (fun a h1 h2 => hB _ (by omega) (by omega)) (hB _ (by omega) (by omega)) (hB _ (by omega) (by omega)) r5, R6_c (fun a j h1 h2 => hF' _ _ (by omega) (by omega)) (fun a h1 h2 => hB _ (by omega) (by omega)) (hB _ (by omega) (by omega)) (hB _ (by omega) (by omega)) r6, R7_c (hF' _ _ (by omega) (by omega)) (hF' _ _ (by omega) (by omega)) (hB _ (by omega) (by omega)) (hB _ (by omega) (by omega)) r7, ⟨(hF' _ _ (by omega) (by omega)).trans r8.1, (hF' _ _ (by omega) (by omega)).trans r8.2⟩⟩
    · rw [hF' _ _ (by omega) (by omega), hF' _ _ (by omega) (by omega)]
      exact r2'
    · rw [hF _ _ (by omega), u2_s]
      rfl
    · rw [hB 14 (by omega) (by omega), hB 195 (by omega) (by omega)]
      exact tb i
    · rw [hF _ _ (by omega), u2_at2, if_neg (by omega), hf.1, h17, bR_pr tb]
end OL
