/-! OPS: take, lay, hand, put, go, feast, undo -/
section OG
variable {S SL : Nat} {xs : Nat → Int32} {F B F2 B1 B2 : q_FT} {C : q_CT} {k c n m p : Nat}
theorem RE_do (r : RE F B) (g : GR F B 26 (B 188) n m p) (s : SR F B 32 (fun j => B 188 (32 + j)) n m p (B 27)) (a : AR F B k c n m p) (hF2 : ∀ x j, ¬ x = 32 → F2 x j = mF (kF F k c) c x j) (hB1 : ∀ x, ¬ (33 ≤ x ∧ x ≤ 36) → B1 x = kB B k x) (hB2 : ∀ x, ¬ x = 188 → B2 x = mK B1 c x) (h188 : ∀ j, j < 32 → B2 188 j = B1 188 j) (s' : SR F2 B2 32 (fun j => B2 188 (32 + j)) n m p (B 27)) : RE F2 B2 := by
  have hk := a.1
  have b188 : B1 188 = B 188 := (hB1 _ (by omega)).trans (kB_o (by omega))
  have b191 : B1 191 = B 191 := (hB1 _ (by omega)).trans (kB_o (by omega))
  have hm : ∀ x j, ¬ (x = 187 ∧ j = 4) → mF (kF F k c) c x j = kF F k c x j := fun x j h => if_neg h
  refine RE_act r (fun x j h1 h2 => ?_) (fun x h1 h2 h3 => ?_) (fun j hj => (h188 j hj).trans (by rw [b188])) g s' (AR_keep g.1.2.1 g.1.2.2 a s (fun x j h1 h2 => ?_) ?_ (fun x h1 h2 => ?_) ?_ ?_)
  · rw [hF2 x j (by omega), hm x j h2, kF_o (by omega) (by omega)]
  · rw [hB2 x h2, mK_f h3, hB1 x (by omega), kB_o (by omega)]
  · rw [hF2 x j (by omega), hm x j (by omega)]
  · rw [hF2 187 4 (by omega)]
    exact u2_s
  · rw [hB2 x (by omega), mK_f (by omega), hB1 x (by omega)]
  · rw [hB2 191 (by omega)]
    exact mK_c b188 b191
  · rw [hB2 27 (by omega), mK_f (by omega), hB1 27 (by omega), kB_o (by omega)]
theorem kB_33 {a : Nat} (h1 : 33 ≤ a) (h2 : a ≤ 36) : kB B k a = B a := kB_o (by omega)
theorem kF_32 {j : Nat} : mF (kF F k c) c 32 j = F 32 j := by
  unfold mF
  rw [show ∀ (A : q_FT) v, u2 A 187 4 v 32 j = A 32 j from fun A v => if_neg (by omega)]
  exact kF_o (by omega) (by omega)
theorem u2_at {G : q_FT} {a j q : Nat} {x : Int32} : u2 G a j x a q = if q = j then x else G a q := by
  by_cases h : q = j
  · subst h
    rw [u2_s, if_pos rfl]
  · rw [if_neg h]
    exact if_neg (fun z => h z.2)
theorem o_take (r : RE F B) {x l : Int32} : OK2 S SL xs 10 10 77 143 [some (.ref (0 : Nat)), some (.int x), some (.int l)] [some (.ref (187 : Nat)), some (.int x), some (.int l)] F B C := fun Pc k0 => by
  obtain ⟨-, -, n, m, p, g, s, k, c, a⟩ := r.2.2.2.2.1
  have hm3 := g.1.2.1
  have hp4 := g.1.2.2
  refine (s_xtake (d := 7) (xA_of g a)).mpr ?_
  by_cases c1 : (0 ≤ x ∧ x < nI m) ∧ 0 ≤ l ∧ l < nI p
  · rw [if_neg (not_not_intro c1)]
    obtain ⟨i, hi, rfl⟩ := q_rng (n := m) (by omega) c1.1
    obtain ⟨q, hq, rfl⟩ := q_rng (n := p) (by omega) c1.2
    rw [nI_clamp (n := i) (by omega), nI_clamp (n := q) (by omega)]
    obtain ⟨⟨t, ht, e33⟩, e1, e2, e3, e4⟩ := s.1 i hi
    obtain ⟨e5, e6⟩ := s.2.2.1 q hq
    have e1' : B 188 (32 + i) = B 33 i := e1
    have e2' : B 188 (35 + i) = B 34 i := by rw [show 35 + i = 32 + (3 + i) by omega]; exact e2
    have e5' : B 188 (43 + q) = B 36 q := by rw [show 43 + q = 32 + (11 + q) by omega]; exact e5
    by_cases c2 : B 34 i = -1000000 ∧ B 36 q = B 33 i
    · rw [if_neg (not_not_intro c2)]
      have b1 : ∀ y, ¬ (33 ≤ y ∧ y ≤ 36) → u2 (u2 (kB B k) 34 i (nI q)) 36 q (-1000000) y = kB B k y := fun y h => by rw [u2_r (by omega), u2_r (by omega)]
      have b188 : u2 (u2 (kB B k) 34 i (nI q)) 36 q (-1000000) 188 = B 188 := (b1 _ (by omega)).trans (kB_o (by have := a.1; omega))
      refine k0 _ _ _ _ (fun Pm km => (s_mtake (d := 8) (mA_of g a (kF_o (by have := a.1; omega) (by omega)) b188)).mpr ?_)
      rw [if_neg (not_not_intro c1), nI_clamp (n := i) (by omega), nI_clamp (n := q) (by omega), b188, e1', e2', e5', if_neg (not_not_intro c2)]
      refine km _ _ _ (RE_do r g s a (fun _ _ _ => rfl) b1 (fun y h => by rw [u2_r h, u2_r h]) (fun j hj => ?_) ?_)
      · rw [u2_at, if_neg (by omega), u2_at, if_neg (by omega), mK_f (by omega)]
      · generalize hG : u2 (u2 (mK (u2 (u2 (kB B k) 34 i (nI q)) 36 q (-1000000)) c) 188 (35 + i) (nI q)) 188 (43 + q) (-1000000) = G
        have w : ∀ y, G 188 y = if y = 43 + q then -1000000 else if y = 35 + i then nI q else B 188 y := fun y => by
          rw [← hG, u2_at, u2_at, mK_f (by omega), b188]
        have h33 : ∀ y, G 33 y = B 33 y := fun y => by
          rw [← hG, u2_r (by omega), u2_r (by omega), mK_f (by omega), u2_r (by omega), u2_r (by omega), kB_33 (by omega) (by omega)]
        have h35 : ∀ y, G 35 y = B 35 y := fun y => by
          rw [← hG, u2_r (by omega), u2_r (by omega), mK_f (by omega), u2_r (by omega), u2_r (by omega), kB_33 (by omega) (by omega)]
        have h34 : ∀ y, G 34 y = if y = i then nI q else B 34 y := fun y => by
          rw [← hG, u2_r (by omega), u2_r (by omega), mK_f (by omega), u2_r (by omega), u2_at, kB_33 (by omega) (by omega)]
        have h36 : ∀ y, G 36 y = if y = q then -1000000 else B 36 y := fun y => by
          rw [← hG, u2_r (by omega), u2_r (by omega), mK_f (by omega), u2_at, u2_r (by omega), kB_33 (by omega) (by omega)]
        have hlq : ¬ B 36 q = -1000000 := by
          have e33' : B 33 i = nI t := e33
          rw [c2.2, e33']
          exact nI_none (by omega)
        refine ⟨fun j hj => ?_, fun j j' hj hj' => ?_, fun y hy => ?_, ?_, ?_, ?_⟩
        · obtain ⟨p1, p2, p3, p4, p5⟩ := s.1 j hj
          dsimp only at p2 p3 p5 ⊢
          have wa : G 188 (32 + j) = B 188 (32 + j) := by rw [w, if_neg (by omega), if_neg (by omega)]
          have wc : G 188 (32 + (6 + j)) = B 188 (32 + (6 + j)) := by rw [w, if_neg (by omega), if_neg (by omega)]
          have wb : G 188 (32 + (3 + j)) = if j = i then nI q else B 188 (32 + (3 + j)) := by
            rw [w, if_neg (by omega)]
            by_cases e : j = i
            · rw [if_pos e, if_pos (by omega)]
            · rw [if_neg e, if_neg (by omega)]
          rw [h33, h34, h35, wa, wb, wc]
          refine ⟨p1, p2, ?_, ?_, p5⟩
          · by_cases e : j = i
            · rw [if_pos e, if_pos e]
            · rw [if_neg e, if_neg e]
              exact p3
          · by_cases e : j = i
            · rw [if_pos e]
              exact Or.inr ⟨q, hq, rfl, by rw [h36, if_pos rfl]⟩
            · rw [if_neg e]
              refine p4.elim Or.inl (fun ⟨l', z1, z2, z3⟩ => Or.inr ⟨l', z1, z2, ?_⟩)
              rw [h36]
              split
              · rfl
              · exact z3
        · rw [h34, h34]
          have no : ∀ j, j < m → ¬ j = i → ¬ B 34 j = nI q := fun j hj hne hz => by
            rcases (s.1 j hj).2.2.2.1 with y | ⟨l', y1, y2, y3⟩
            · exact nI_none (k := q) (by omega) (hz.symm.trans y)
            · have : l' = q := (nI_eq (by omega) (by omega)).mp (y2.symm.trans hz)
              rw [this] at y3
              exact hlq y3
          by_cases e : j = i
          · by_cases e' : j' = i
            · exact fun _ _ => e.trans e'.symm
            · rw [if_pos e, if_neg e']
              exact fun z => absurd z.symm (no j' hj' e')
          · by_cases e' : j' = i
            · rw [if_neg e, if_pos e']
              exact fun z => absurd z (no j hj e)
            · rw [if_neg e, if_neg e']
              exact s.2.1 j j' hj hj'
        · obtain ⟨p1, p2⟩ := s.2.2.1 y hy
          dsimp only at p1 ⊢
          rw [h36, w]
          by_cases e : y = q
          · rw [if_pos e, if_pos (by omega)]
            exact ⟨rfl, Or.inr ⟨rfl, i, hi, by rw [h34, if_pos rfl, e]⟩⟩
          · rw [if_neg e, if_neg (by omega), if_neg (by omega)]
            refine ⟨p1, p2.elim Or.inl (fun ⟨z1, j, z2, z3⟩ => Or.inr ⟨z1, j, z2, ?_⟩)⟩
            have e' : ¬ j = i := fun z => by
              have z3' : B 34 j = nI y := z3
              rw [z, c2.1] at z3'
              exact nI_none (k := y) (by omega) z3'.symm
            rw [h34, if_neg e']
            exact z3
        · dsimp only
          rw [kF_32, w, if_neg (by omega), if_neg (by omega)]
          exact s.2.2.2.1
        · dsimp only
          rw [kF_32, w, if_neg (by omega), if_neg (by omega)]
          exact s.2.2.2.2.1
        · dsimp only
          rw [kF_32, w, if_neg (by omega), if_neg (by omega)]
          exact s.2.2.2.2.2
    · rw [if_pos c2]
      refine k0 _ _ _ _ (fun Pm km => (s_mtake (d := 8) (mA_of g a rfl rfl)).mpr ?_)
      rw [if_neg (not_not_intro c1), nI_clamp (n := i) (by omega), nI_clamp (n := q) (by omega), e1', e2', e5', if_pos c2]
      exact km _ _ _ r
  · rw [if_pos c1]
    refine k0 _ _ _ _ (fun Pm km => (s_mtake (d := 8) (mA_of g a rfl rfl)).mpr ?_)
    rw [if_pos c1]
    exact km _ _ _ r
theorem o_lay (r : RE F B) {x : Int32} : OK2 S SL xs 10 10 78 144 [some (.ref (0 : Nat)), some (.int x), none] [some (.ref (187 : Nat)), some (.int x), none] F B C := fun Pc k0 => by
  obtain ⟨-, -, n, m, p, g, s, k, c, a⟩ := r.2.2.2.2.1
  have hm3 := g.1.2.1
  have hp4 := g.1.2.2
  have e2a : ∀ i, i < m → B 188 (35 + i) = B 34 i := fun i hi => by rw [show 35 + i = 32 + (3 + i) by omega]; exact (s.1 i hi).2.2.1
  have hh : ∀ i, i < m → B 188 (35 + i) = -1000000 ∨ (0 ≤ B 188 (35 + i) ∧ B 188 (35 + i) < nI p) := fun i hi => by
    rw [e2a i hi]
    refine (s.1 i hi).2.2.2.1.elim Or.inl (fun ⟨l', z1, z2, z3⟩ => Or.inr ?_)
    have z2' : B 34 i = nI l' := z2
    rw [z2']
    exact ⟨nI_pos' (by omega), nI_lt z1 (by omega)⟩
  refine (s_xlay (d := 7) (xA_of g a)).mpr ?_
  by_cases c1 : 0 ≤ x ∧ x < nI m
  · rw [if_neg (not_not_intro c1)]
    obtain ⟨i, hi, rfl⟩ := q_rng (n := m) (by omega) c1
    rw [nI_clamp (n := i) (by omega)]
    obtain ⟨⟨t, ht, e33⟩, e1, e2, e3, e4⟩ := s.1 i hi
    have e1' : B 188 (32 + i) = B 33 i := e1
    rcases e3 with e3 | ⟨q, hq, e3, e3'⟩
    · have e3a : B 34 i = -1000000 := e3
      rw [if_pos (fun z => absurd z.1 (by rw [e3a]; decide))]
      refine k0 _ _ _ _ (fun Pm km => (s_mlay (d := 8) (mA_of g a rfl rfl) hh).mpr ?_)
      rw [if_neg (not_not_intro c1), nI_clamp (n := i) (by omega), e2a i hi, if_pos e3a]
      exact km _ _ _ r
    · have e3a : B 34 i = nI q := e3
      have e3b : B 36 q = -1000000 := e3'
      rw [e3a, if_neg (not_not_intro ⟨nI_pos' (by omega), nI_lt hq (by omega)⟩), nI_clamp (n := q) (by omega)]
      have b1 : ∀ y, ¬ (33 ≤ y ∧ y ≤ 36) → u2 (u2 (kB B k) 34 i (-1000000)) 36 q (B 33 i) y = kB B k y := fun y h => by rw [u2_r (by omega), u2_r (by omega)]
      have b188 : u2 (u2 (kB B k) 34 i (-1000000)) 36 q (B 33 i) 188 = B 188 := (b1 _ (by omega)).trans (kB_o (by have := a.1; omega))
      refine k0 _ _ _ _ (fun Pm km => (s_mlay (d := 8) (mA_of g a (kF_o (by have := a.1; omega) (by omega)) b188) (by rw [b188]; exact hh)).mpr ?_)
      rw [if_neg (not_not_intro c1), nI_clamp (n := i) (by omega), b188, e2a i hi, e3a, if_neg (nI_none (by omega)), e1', nI_clamp (n := q) (by omega)]
      refine km _ _ _ (RE_do r g s a (fun _ _ _ => rfl) b1 (fun y h => by rw [u2_r h, u2_r h]) (fun j hj => ?_) ?_)
      · rw [u2_at, if_neg (by omega), u2_at, if_neg (by omega), mK_f (by omega)]
      · generalize hG : u2 (u2 (mK (u2 (u2 (kB B k) 34 i (-1000000)) 36 q (B 33 i)) c) 188 (35 + i) (-1000000)) 188 (43 + q) (B 33 i) = G
        have w : ∀ y, G 188 y = if y = 43 + q then B 33 i else if y = 35 + i then -1000000 else B 188 y := fun y => by
          rw [← hG, u2_at, u2_at, mK_f (by omega), b188]
        have h33 : ∀ y, G 33 y = B 33 y := fun y => by
          rw [← hG, u2_r (by omega), u2_r (by omega), mK_f (by omega), u2_r (by omega), u2_r (by omega), kB_33 (by omega) (by omega)]
        have h35 : ∀ y, G 35 y = B 35 y := fun y => by
          rw [← hG, u2_r (by omega), u2_r (by omega), mK_f (by omega), u2_r (by omega), u2_r (by omega), kB_33 (by omega) (by omega)]
        have h34 : ∀ y, G 34 y = if y = i then -1000000 else B 34 y := fun y => by
          rw [← hG, u2_r (by omega), u2_r (by omega), mK_f (by omega), u2_r (by omega), u2_at, kB_33 (by omega) (by omega)]
        have h36 : ∀ y, G 36 y = if y = q then B 33 i else B 36 y := fun y => by
          rw [← hG, u2_r (by omega), u2_r (by omega), mK_f (by omega), u2_at, u2_r (by omega), kB_33 (by omega) (by omega)]
        refine ⟨fun j hj => ?_, fun j j' hj hj' => ?_, fun y hy => ?_, ?_, ?_, ?_⟩
        · obtain ⟨p1, p2, p3, p4, p5⟩ := s.1 j hj
          dsimp only at p2 p3 p5 ⊢
          have wa : G 188 (32 + j) = B 188 (32 + j) := by rw [w, if_neg (by omega), if_neg (by omega)]
          have wc : G 188 (32 + (6 + j)) = B 188 (32 + (6 + j)) := by rw [w, if_neg (by omega), if_neg (by omega)]
          have wb : G 188 (32 + (3 + j)) = if j = i then -1000000 else B 188 (32 + (3 + j)) := by
            rw [w, if_neg (by omega)]
            by_cases e : j = i
            · rw [if_pos e, if_pos (by omega)]
            · rw [if_neg e, if_neg (by omega)]
          rw [h33, h34, h35, wa, wb, wc]
          refine ⟨p1, p2, ?_, ?_, p5⟩
          · by_cases e : j = i
            · rw [if_pos e, if_pos e]
            · rw [if_neg e, if_neg e]
              exact p3
          · by_cases e : j = i
            · rw [if_pos e]
              exact Or.inl rfl
            · rw [if_neg e]
              refine p4.elim Or.inl (fun ⟨l', z1, z2, z3⟩ => Or.inr ⟨l', z1, z2, ?_⟩)
              have hne : ¬ l' = q := fun z => by
                rw [z] at z2
                exact e (s.2.1 j i hj hi (z2.trans e3.symm) (by rw [z2]; exact nI_none (by omega)))
              rw [h36, if_neg hne]
              exact z3
        · rw [h34, h34]
          by_cases e : j = i
          · rw [if_pos e]
            exact fun _ z => absurd rfl z
          · by_cases e' : j' = i
            · rw [if_neg e, if_pos e']
              exact fun z y => absurd z y
            · rw [if_neg e, if_neg e']
              exact s.2.1 j j' hj hj'
        · obtain ⟨p1, p2⟩ := s.2.2.1 y hy
          dsimp only at p1 ⊢
          rw [h36, w]
          by_cases e : y = q
          · rw [if_pos e, if_pos (by omega)]
            exact ⟨rfl, Or.inl ⟨t, ht, e33⟩⟩
          · rw [if_neg e, if_neg (by omega), if_neg (by omega)]
            refine ⟨p1, p2.elim Or.inl (fun ⟨z1, j, z2, z3⟩ => Or.inr ⟨z1, j, z2, ?_⟩)⟩
            have e' : ¬ j = i := fun z => by
              rw [z] at z3
              exact e ((nI_eq (by omega) (by omega)).mp (z3.symm.trans e3))
            rw [h34, if_neg e']
            exact z3
        · dsimp only
          rw [kF_32, w, if_neg (by omega), if_neg (by omega)]
          exact s.2.2.2.1
        · dsimp only
          rw [kF_32, w, if_neg (by omega), if_neg (by omega)]
          exact s.2.2.2.2.1
        · dsimp only
          rw [kF_32, w, if_neg (by omega), if_neg (by omega)]
          exact s.2.2.2.2.2
  · rw [if_pos c1]
    refine k0 _ _ _ _ (fun Pm km => (s_mlay (d := 8) (mA_of g a rfl rfl) hh).mpr ?_)
    rw [if_pos c1]
    exact km _ _ _ r
end OG
