/-! MAKING: the law's objects, all 199 -/
def bF : q_FT := fun a i => if a = 3 ∧ i < 8 then -1 else if a = 192 ∧ i < 8 then -1000000 else 0
theorem bF_0 {a : Nat} (h : ¬ a = 3) (h2 : ¬ a = 192) : bF a = fun _ => 0 := funext fun i => by
  unfold bF
  rw [if_neg (fun z => h z.1), if_neg (fun z => h2 z.1)]
abbrev atK (g : Nat → q_E) (a : Nat) : Prop := g a = hpc zF bF zC a (q_kd a)
theorem at_a {g : Nat → q_E} {a n : Nat} (h : g a = eA 0 n) (hk : q_kd a = 10) (hl : q_ln a = n) (h3 : ¬ a = 3) (h4 : ¬ a = 192) : atK g a := by
  unfold atK
  rw [h, hk]
  show _ = Sum.inl (0, (q_ln a, Sum.inl (bF a)))
  rw [hl, bF_0 h3 h4]
theorem at_S {g : Nat → q_E} {a : Nat} (s : isS g a) (t : isSt a) (h : 4 ≤ a) (h2 : a + 4 < 192) : ∀ b, a ≤ b → b ≤ a + 4 → atK g b := by
  obtain ⟨s0, s1, s2, s3, s4⟩ := s
  obtain ⟨t0, t1, t2, t3, t4, l1, l2, l3, l4⟩ := t
  intro b hb hb2
  rcases (show b = a ∨ b = a + 1 ∨ b = a + 2 ∨ b = a + 3 ∨ b = a + 4 by omega) with rfl | rfl | rfl | rfl | rfl
  · unfold atK
    rw [s0, t0]
    rfl
  · exact at_a s1 t1 l1 (by omega) (by omega)
  · exact at_a s2 t2 l2 (by omega) (by omega)
  · exact at_a s3 t3 l3 (by omega) (by omega)
  · exact at_a s4 t4 l4 (by omega) (by omega)
theorem at_L {g : Nat → q_E} {a : Nat} (s : isLn g a) (t : isLd a) (h : 4 ≤ a) (h2 : a + 10 < 192) : ∀ b, a ≤ b → b ≤ a + 10 → atK g b := by
  obtain ⟨s0, s1, s2, s3, s4, s5, s6⟩ := s
  obtain ⟨t0, t1, t2, t3, t4, t5, l1, l2, l3, l4, l5, t6⟩ := t
  intro b hb hb2
  rcases (show b = a ∨ b = a + 1 ∨ b = a + 2 ∨ b = a + 3 ∨ b = a + 4 ∨ b = a + 5 ∨ (a + 6 ≤ b ∧ b ≤ a + 6 + 4) by omega) with rfl | rfl | rfl | rfl | rfl | rfl | hc
  · unfold atK
    rw [s0, t0]
    rfl
  · exact at_a s1 t1 l1 (by omega) (by omega)
  · exact at_a s2 t2 l2 (by omega) (by omega)
  · exact at_a s3 t3 l3 (by omega) (by omega)
  · exact at_a s4 t4 l4 (by omega) (by omega)
  · exact at_a s5 t5 l5 (by omega) (by omega)
  · exact at_S s6 t6 (by omega) (by omega) b hc.1 hc.2
theorem rows_k : ∀ k, k < 8 → q_kd (5 + k) = 10 ∧ q_ln (5 + k) = 40 := by decide
section IH
variable {d : Nat} {P : Option Value → q_H → Nat → Nat → Prop} {SL : Nat} {xs : Nat → Int32}
theorem n_start (K : E 199 6101 11 201 18 [some (.ref (1300 : Nat)), some (.ref (0 : Nat)), some (.ref (187 : Nat)), some (.int (nI 0))] [] (hp SL xs zF bF zC) P) : E 0 0 11 201 0 [some (.ref (1300 : Nat)), none, none, none] [] (q_ro SL xs) P := by
  have h0 : q_ro SL xs = hpN SL xs 0 (fun _ => .inr (99, [])) := funext fun a => (if_neg (by omega)).symm
  rw [h0]
  have w0 : WG 0 (fun _ => (.inr (99, []) : q_E)) := fun k hk => absurd hk (by omega)
  refine (A_new (o := 14) (ci := 7) rfl (qd_201 dL_law_0) rfl (by omega) (wf1 (wLr (by omega) (wLn (wLn (wLn wL0)))) wq0 w0 rfl)).mpr ?_
  have w1 := WG_new (e := .inr (7, [.null, .null, .null, .null, .null, .null, .null, .int 0])) w0 (wfO (wqn (wqn (wqn (wqn (wqn (wqn (wqn (wqi wq0)))))))))
  refine (E_alu (qd_201 dL_law_3) rfl rfl rfl).mpr ?_
  refine A_call (o := 14) (d := 10) rfl (qd_201 dL_law_4) rfl rfl (wf1 (wLr (by omega) (wLn (wLn (wLn wL0)))) (wqr (by omega) wq0) w1 rfl) (fun Q hQ => ?_)
  refine n_68 (d := 7) (by omega) up_eq w1 (fun g1 x0 x1 x2 x3 x4 x5 x6 x7 x8 x9 x10 w2 => hQ _ _ _ ?_)
  refine (E_lop (qd_201 dL_law_7) rfl rfl rfl rfl rfl).mpr ?_
  refine (A_new (o := 14) (ci := 8) rfl (qd_201 dL_law_8) rfl (by omega) (wf1 (wLr (by omega) (wLr (by omega) (wLn (wLn wL0)))) wq0 w2 rfl)).mpr ?_
  have w3 := WG_new (e := .inr (8, [.null, .null, .null, .null, .int 0, .null, .null, .null, .int 0, .null, .int 0, .int 0, .int 0, .int 0, .int 0, .long 0, .int 0, .int 0, .null, .null, .int 0, .int 0, .int 0, .null, .int 0])) w2 (wfO (wqn (wqn (wqn (wqn (wqi (wqn (wqn (wqn (wqi (wqn (wqi (wqi (wqi (wqi (wqi (wql (wqi (wqi (wqn (wqn (wqi (wqi (wqi (wqn (wqi wq0))))))))))))))))))))))))))
  refine (E_alu (qd_201 dL_law_11) rfl rfl rfl).mpr ?_
  refine A_call (o := 14) (d := 10) rfl (qd_201 dL_law_12) rfl rfl (wf1 (wLr (by omega) (wLr (by omega) (wLn (wLn wL0)))) (wqr (by omega) wq0) w3 rfl) (fun Q hQ => ?_)
  refine n_106 (d := 10) (by omega) up_eq w3 (fun g2 y0 y1 y2 y3 w4 => hQ _ _ _ ?_)
  refine (E_lop (qd_201 dL_law_15) rfl rfl rfl rfl rfl).mpr ?_
  refine (E_alu (qd_201 dL_law_16) rfl rfl rfl).mpr ?_
  refine (E_lop (qd_201 dL_law_17) rfl rfl rfl rfl rfl).mpr ?_
  have c0 : ∀ a, a < 187 → g2 a = g1 a := fun a ha => (y0 a (by omega)).trans (up_ne (by omega))
  have hh : hpN SL xs 199 g2 = hp SL xs zF bF zC := by
    funext a
    by_cases ha : a < 199
    · have e1 : hpN SL xs 199 g2 a = g2 a := if_pos ha
      have e2 : hp SL xs zF bF zC a = hpc zF bF zC a (q_kd a) := if_neg (by omega)
      rw [e1, e2]
      show atK g2 a
      have x2' : isRo g2 1 := isRo_c (r := 1) (fun b h1 h2 => c0 b (by omega)) x2
      have x3' : isTa g2 13 := isTa_c (r := 13) (fun b h1 h2 => c0 b (by omega)) x3
      have x4' : isLn g2 26 := isLn_c (a := 26) (fun b h1 h2 => c0 b (by omega)) x4
      have x5' : isAc g2 37 := isAc_c (r := 37) (fun b h1 h2 => c0 b (by omega)) x5
      have x7' : isLn g2 160 := isLn_c (a := 160) (fun b h1 h2 => c0 b (by omega)) x7
      have x8' : isLn g2 171 := isLn_c (a := 171) (fun b h1 h2 => c0 b (by omega)) x8
      have x9' : isSe 26 g2 182 := isSe_c (r := 182) (fun b h1 h2 => c0 b (by omega)) x9
      have x10' : isAk 26 g2 185 := isAk_c (r := 185) (fun b h1 h2 => c0 b (by omega)) x10
      obtain ⟨⟨r1, r2, r3, r4⟩, f, r5, r6⟩ := x2'
      obtain ⟨t1, t2, t3⟩ := x3'
      obtain ⟨a1, ⟨f2, a2, a3⟩, a4⟩ := x5'
      obtain ⟨s1, s2, s3⟩ := x9'
      obtain ⟨k1, k2⟩ := x10'
      obtain ⟨z1, z2, z3, z4, z6, z7, z8, z9, z10, z11⟩ := y2
      obtain ⟨fm, m1, m2⟩ := y3
      rcases (show a = 0 ∨ a = 1 ∨ a = 2 ∨ a = 3 ∨ a = 4 ∨ (5 ≤ a ∧ a ≤ 12) ∨ a = 13 ∨ a = 14 ∨ (15 ≤ a ∧ a ≤ 25) ∨ (26 ≤ a ∧ a ≤ 36) ∨ a = 37 ∨ a = 38 ∨ (39 ≤ a ∧ a ≤ 158) ∨ a = 159 ∨ (160 ≤ a ∧ a ≤ 170) ∨ (171 ≤ a ∧ a ≤ 181) ∨ a = 182 ∨ a = 183 ∨ a = 184 ∨ a = 185 ∨ a = 186 ∨ a = 187 ∨ a = 188 ∨ a = 189 ∨ a = 190 ∨ a = 191 ∨ a = 192 ∨ a = 193 ∨ a = 194 ∨ a = 195 ∨ a = 196 ∨ a = 197 ∨ a = 198 by omega) with rfl | rfl | rfl | rfl | rfl | h | rfl | rfl | h | h | rfl | rfl | h | rfl | h | h | rfl | rfl | rfl | rfl | rfl | rfl | rfl | rfl | rfl | rfl | rfl | rfl | rfl | rfl | rfl | rfl | rfl
      · exact (c0 0 (by omega)).trans x1
      · exact r1
      · exact at_a r2 (by decide) (by decide) (by omega) (by omega)
      · unfold atK
        have e : f = bF 3 := funext fun i => by
          rw [r6]
          unfold bF
          by_cases c : i < 8
          · rw [if_pos c, if_pos ⟨rfl, c⟩]
          · rw [if_neg c, if_neg (fun z => c z.2), if_neg (fun z => absurd z.1 (by omega))]
        rw [show g2 3 = _ from r5, e]
        rfl
      · unfold atK
        have e : (fun j => if j < 8 then some (1 + 3 + 1 + j) else none) = q_rf 8 5 1 := funext fun j => by
          unfold q_rf
          by_cases c : j < 8
          · rw [if_pos c, if_pos c, show 1 + 3 + 1 + j = 5 + 1 * j by omega]
          · rw [if_neg c, if_neg c]
        rw [show g2 4 = _ from r3, e]
        rfl
      · have e := r4 (a - 5) (by omega)
        have hk := rows_k (a - 5) (by omega)
        rw [show 1 + 4 + (a - 5) = a by omega] at e
        rw [show 5 + (a - 5) = a by omega] at hk
        exact at_a e hk.1 hk.2 (by omega) (by omega)
      · exact t1
      · unfold atK
        rw [show g2 14 = _ from t2]
        show _ = Sum.inl (1, (q_ln 14, Sum.inl (bF 14)))
        rw [bF_0 (by omega) (by omega)]
        rfl
      · exact at_L t3 isLd_15 (by omega) (by omega) a h.1 h.2
      · exact at_L x4' isLd_26 (by omega) (by omega) a h.1 h.2
      · exact a1
      · unfold atK
        have e : f2 = q_rf 24 39 5 := funext fun j => by
          rw [a3]
          unfold q_rf
          by_cases c : j < 24
          · rw [if_pos c]
          · rw [if_neg c]
        rw [show g2 38 = _ from a2, e]
        rfl
      · have hq : (a - 39) / 5 < 24 := by omega
        have hs := at_S (a4 ((a - 39) / 5) hq) (by rw [show 37 + 2 + 5 * ((a - 39) / 5) = 39 + 5 * ((a - 39) / 5) by omega]; exact isSt_kept hq) (by omega) (by omega)
        exact hs a (by omega) (by omega)
      · unfold atK
        rw [(c0 159 (by omega)).trans x6.1]
        have e : va_up (va_up (fun _ => none) 0 (some (0 + 160))) 1 (some (0 + 171)) = q_rf 2 160 11 := funext fun j => (x6.2 j).trans (by
          unfold q_rf
          by_cases c : j < 2
          · rw [if_pos c]
          · rw [if_neg c])
        rw [e]
        rfl
      · exact at_L x7' (isLd_im (k := 0) (by omega)) (by omega) (by omega) a h.1 h.2
      · exact at_L x8' (isLd_im (k := 1) (by omega)) (by omega) (by omega) a h.1 h.2
      · exact s1
      · exact s2
      · exact s3
      · exact k1
      · exact at_a k2 (by decide) (by decide) (by omega) (by omega)
      · exact y1
      · exact at_a z1 (by decide) (by decide) (by omega) (by omega)
      · exact at_a z2 (by decide) (by decide) (by omega) (by omega)
      · unfold atK
        rw [show g2 190 = _ from z3]
        show _ = Sum.inl (3, (q_ln 190, Sum.inl (bF 190)))
        rw [bF_0 (by omega) (by omega)]
        rfl
      · exact at_a z4 (by decide) (by decide) (by omega) (by omega)
      · unfold atK
        have e : fm = bF 192 := funext fun i => by
          rw [m2]
          unfold bF
          rw [if_neg (fun z : (192 : Nat) = 3 ∧ i < 8 => absurd z.1 (by omega))]
          by_cases c : i < 8
          · rw [if_pos c, if_pos ⟨rfl, c⟩]
          · rw [if_neg c, if_neg (fun z => c z.2)]
        rw [show g2 192 = _ from m1, e]
        rfl
      · exact at_a z6 (by decide) (by decide) (by omega) (by omega)
      · exact at_a z7 (by decide) (by decide) (by omega) (by omega)
      · exact at_a z8 (by decide) (by decide) (by omega) (by omega)
      · exact at_a z9 (by decide) (by decide) (by omega) (by omega)
      · exact at_a z10 (by decide) (by decide) (by omega) (by omega)
      · exact at_a z11 (by decide) (by decide) (by omega) (by omega)
    · rw [show hpN SL xs 199 g2 a = q_ro SL xs a from if_neg ha]
      exact (if_pos (by omega)).symm
  rw [← hh] at K
  exact K
end IH
