/-! OPS: go, feast -/
section OI
variable {S SL : Nat} {xs : Nat → Int32} {F B : q_FT} {C : q_CT}
theorem mgo3_at {x z : Nat} : mgo3 B x 188 z = if z = 41 ∧ B 188 (4 + 4 * x) = 2 then B 188 41 ^^^ ((1 : Int32) <<< (nI x &&& 31)) else B 188 z := by
  unfold mgo3
  by_cases c : B 188 (4 + 4 * x) = 2
  · rw [if_pos c, u2_at]
    by_cases e : z = 41
    · rw [if_pos e, if_pos ⟨e, c⟩]
    · rw [if_neg e, if_neg (fun q => e q.1)]
  · rw [if_neg c, if_neg (fun q => c q.2)]
theorem mgo2_at {i x z : Nat} : mgo2 B i x 188 z = if z = 38 + i ∧ B 188 (4 + 4 * x) = 1 then B 188 (38 + i) ^^^ ((1 : Int32) <<< (nI x &&& 31)) else B 188 z := by
  unfold mgo2
  by_cases c : B 188 (4 + 4 * x) = 1
  · rw [if_pos c, u2_at]
    by_cases e : z = 38 + i
    · rw [if_pos e, if_pos ⟨e, c⟩]
    · rw [if_neg e, if_neg (fun q => e q.1)]
  · rw [if_neg c, if_neg (fun q => c q.2)]
theorem mgo_f {i x a : Nat} (h : ¬ a = 188) : mgo4 (mgo3 (mgo2 (mgo1 B i x) i x) x) x a = B a := by
  have h1 : mgo1 B i x a = B a := u2_r h
  have h2 : mgo2 (mgo1 B i x) i x a = B a := by
    unfold mgo2
    split
    · exact (u2_r h).trans h1
    · exact h1
  have h3 : mgo3 (mgo2 (mgo1 B i x) i x) x a = B a := by
    unfold mgo3
    split
    · exact (u2_r h).trans h2
    · exact h2
  exact (u2_r h).trans h3
theorem mgo_at {i x z : Nat} (hi : i < 3) (hx : x < 6) : mgo4 (mgo3 (mgo2 (mgo1 B i x) i x) x) x 188 z = if z = 47 then B 188 47 + B 188 (7 + 4 * x) else if z = 41 ∧ B 188 (4 + 4 * x) = 2 then B 188 41 ^^^ ((1 : Int32) <<< (nI x &&& 31)) else if z = 38 + i ∧ B 188 (4 + 4 * x) = 1 then B 188 (38 + i) ^^^ ((1 : Int32) <<< (nI x &&& 31)) else if z = 32 + i then mOth B x (B 188 (32 + i)) else B 188 z := by
  unfold mgo4
  have e1 : ∀ j, ¬ j = 41 → ¬ j = 38 + i → ¬ j = 32 + i → mgo3 (mgo2 (mgo1 B i x) i x) x 188 j = B 188 j := fun j h1 h2 h3 => by
    rw [mgo3_ne h1, mgo2_ne h2, mgo1_ne h3]
  have e2 : ∀ j, ¬ j = 38 + i → ¬ j = 32 + i → mgo2 (mgo1 B i x) i x 188 j = B 188 j := fun j h2 h3 => by
    rw [mgo2_ne h2, mgo1_ne h3]
  rw [u2_at, e1 47 (by omega) (by omega) (by omega), e1 (7 + 4 * x) (by omega) (by omega) (by omega), mgo3_at, e2 (4 + 4 * x) (by omega) (by omega), e2 41 (by omega) (by omega), mgo2_at, mgo1_ne (j := 4 + 4 * x) (by omega), mgo1_ne (j := 38 + i) (by omega), show mgo1 B i x 188 z = if z = 32 + i then mOth B x (B 188 (32 + i)) else B 188 z from u2_at]
theorem goB_f {i x a : Nat} (h : ¬ a = 33) (h2 : ¬ a = 35) : goB B i x a = B a := by
  unfold goB
  split
  · exact (u2_r h2).trans (u2_r h)
  · exact u2_r h
theorem goB_33 {i x z : Nat} : goB B i x 33 z = if z = i then xOth B x (B 33 i) else B 33 z := by
  unfold goB
  split
  · rw [u2_r (by omega), u2_at]
  · rw [u2_at]
theorem goB_35 {i x z : Nat} : goB B i x 35 z = if z = i ∧ B 27 x = 1 then B 35 i ^^^ ((1 : Int32) <<< (nI x &&& 31)) else B 35 z := by
  unfold goB
  by_cases c : B 27 x = 1
  · rw [if_pos c, u2_at, u2_r (by omega)]
    by_cases e : z = i
    · rw [if_pos e, if_pos ⟨e, c⟩]
    · rw [if_neg e, if_neg (fun q => e q.1)]
  · rw [if_neg c, if_neg (fun q => c q.2), u2_r (by omega)]
theorem goF_f {x a j : Nat} (h : ¬ a = 32) : goF F B x a j = F a j := by
  unfold goF
  split
  · rw [u2_at2, if_neg (by omega), u2_at2, if_neg (by omega)]
  · rw [u2_at2, if_neg (by omega)]
theorem goF_4 {x : Nat} : goF F B x 32 4 = F 32 4 := by
  unfold goF
  split
  · rw [u2_at2, if_neg (by omega), u2_at2, if_neg (by omega)]
  · rw [u2_at2, if_neg (by omega)]
theorem goF_6 {x : Nat} : goF F B x 32 6 = F 32 6 + B 30 x := by
  unfold goF
  split
  · rw [u2_at2, if_neg (by omega), u2_s]
  · rw [u2_s]
theorem goF_5 {x : Nat} : goF F B x 32 5 = if B 27 x = 2 then F 32 5 ^^^ ((1 : Int32) <<< (nI x &&& 31)) else F 32 5 := by
  unfold goF
  split
  · rw [u2_s]
  · rw [u2_at2, if_neg (by omega)]
theorem mMay_c {B1 : q_FT} {n c x : Nat} (h : B1 188 = B 188) : mMay B1 n c x ↔ mMay B n c x := by
  unfold mMay mLets mNext mOth
  rw [h]
theorem mOth_c {B1 : q_FT} {x : Nat} {t : Int32} (h : B1 188 = B 188) : mOth B1 x t = mOth B x t := by
  unfold mOth
  rw [h]
theorem xOth_c {B1 : q_FT} {x : Nat} {t : Int32} (h : B1 28 = B 28) (h' : B1 29 = B 29) : xOth B1 x t = xOth B x t := by
  unfold xOth
  rw [h, h']
theorem o_go (r : RE F B) {y x : Int32} : OK2 S SL xs 10 10 76 142 [some (.ref (0 : Nat)), some (.int y), some (.int x)] [some (.ref (187 : Nat)), some (.int y), some (.int x)] F B C := fun Pc k0 => by
  obtain ⟨-, -, n, m, p, g, s, k, c, a⟩ := r.2.2.2.2.1
  have hn6 := g.1.1
  have hm3 := g.1.2.1
  have hp4 := g.1.2.2
  have hk := a.1
  have hs : ∀ x, x < n → B 27 x = 1 ∨ B 27 x = 2 ∨ B 27 x = 3 ∨ B 27 x = 4 ∨ B 27 x = 5 := fun x hx => (g.2.2.2.1 x hx).2.1
  have hs' : ∀ x, x < n → B 188 (4 + 4 * x) = 1 ∨ B 188 (4 + 4 * x) = 2 ∨ B 188 (4 + 4 * x) = 3 ∨ B 188 (4 + 4 * x) = 4 ∨ B 188 (4 + 4 * x) = 5 := fun x hx => by rw [(g.2.2.2.1 x hx).1.1]; exact hs x hx
  refine (s_xgo (d := 7) (xA_of g a) hs).mpr ?_
  by_cases c1 : (0 ≤ y ∧ y < nI m) ∧ 0 ≤ x ∧ x < nI n
  · rw [if_neg (not_not_intro c1)]
    obtain ⟨i, hi, rfl⟩ := q_rng (n := m) (by omega) c1.1
    obtain ⟨q, hq, rfl⟩ := q_rng (n := n) (by omega) c1.2
    rw [nI_clamp (n := i) (by omega), nI_clamp (n := q) (by omega)]
    have em := L_may g s hq hi
    by_cases c2 : xMay F B i q
    · rw [if_neg (not_not_intro c2)]
      have hup : mHas (F 32 4) q := Decidable.byContradiction (fun z => c2.1 (mHas_0.mpr z))
      have kb : ∀ z, ¬ (33 ≤ z ∧ z ≤ 36) → goB (kB B k) i q z = kB B k z := fun z h => goB_f (by omega) (by omega)
      have b188 : goB (kB B k) i q 188 = B 188 := (kb _ (by omega)).trans (kB_o (by omega))
      have f4 : goF (kF F k c) (kB B k) q 187 4 = F 187 4 := (goF_f (by omega)).trans (kF_o (by omega) (by omega))
      refine k0 _ _ _ _ (fun Pm km => (s_mgo (d := 6) (mA_of g a f4 b188) (by rw [b188]; exact hs')).mpr ?_)
      rw [if_neg (not_not_intro c1), nI_clamp (n := i) (by omega), nI_clamp (n := q) (by omega), if_neg (not_not_intro ((mMay_c b188).mpr (em.mp c2))), b188, mOth_c b188]
      obtain ⟨⟨t, ht, e33⟩, e1, -⟩ := s.1 i hi
      have e33' : B 33 i = nI t := e33
      have e1' : B 188 (32 + i) = B 33 i := e1
      have eo : mOth B q (B 33 i) = xOth B q (B 33 i) := (L_oth g s hq).trans (if_pos hup)
      rw [e1', eo]
      have k27 : kB B k 27 = B 27 := kB_o (by omega)
      have k28 : kB B k 28 = B 28 := kB_o (by omega)
      have k29 : kB B k 29 = B 29 := kB_o (by omega)
      have k30 : kB B k 30 = B 30 := kB_o (by omega)
      have hxo : ∃ t, t < 6 ∧ xOth B q (B 33 i) = nI t := by
        obtain ⟨-, -, ⟨e, he, h1⟩, ⟨e', he', h2⟩, -⟩ := g.2.2.2.1 q hq
        have hne := c2.2.1
        unfold xOth at hne ⊢
        by_cases z1 : B 33 i = B 28 q
        · rw [if_pos z1]
          exact ⟨e', he', h2⟩
        · rw [if_neg z1] at hne ⊢
          by_cases z2 : B 33 i = B 29 q
          · rw [if_pos z2]
            exact ⟨e, he, h1⟩
          · rw [if_neg z2] at hne
            exact absurd rfl hne
      refine km _ _ _ (RE_do (B1 := goB (kB B k) i q) r g s a (fun z j h => ?_) kb (fun z h => mgo_f h) (fun j hj => ?_) ?_)
      · show (if z = 187 ∧ j = 4 then _ else goF (kF F k c) (kB B k) q z j) = (if z = 187 ∧ j = 4 then _ else kF F k c z j)
        rw [goF_f h]
      · rw [mgo_at (by omega) (by omega), if_neg (by omega), if_neg (by omega), if_neg (by omega), if_neg (by omega), mK_f (by omega)]
      · have w : ∀ z, mgo4 (mgo3 (mgo2 (mgo1 (mK (goB (kB B k) i q) c) i q) i q) q) q 188 z = if z = 47 then B 188 47 + B 188 (7 + 4 * q) else if z = 41 ∧ B 27 q = 2 then B 188 41 ^^^ ((1 : Int32) <<< (nI q &&& 31)) else if z = 38 + i ∧ B 27 q = 1 then B 188 (38 + i) ^^^ ((1 : Int32) <<< (nI q &&& 31)) else if z = 32 + i then xOth B q (B 33 i) else B 188 z := fun z => by
          rw [mgo_at (by omega) (by omega), mK_f (by omega), b188, mOth_c ((mK_f (by omega)).trans b188), e1', eo, (g.2.2.2.1 q hq).1.1]
        generalize hG : mgo4 (mgo3 (mgo2 (mgo1 (mK (goB (kB B k) i q) c) i q) i q) q) q = G at w ⊢
        have hG' : ∀ z, ¬ z = 188 → ¬ z = 191 → G z = goB (kB B k) i q z := fun z h h' => by
          rw [← hG, mgo_f h, mK_f h']
        have h33 : ∀ z, G 33 z = if z = i then xOth B q (B 33 i) else B 33 z := fun z => by
          rw [hG' 33 (by omega) (by omega), goB_33, xOth_c k28 k29, kB_33 (by omega) (by omega)]
        have h34 : ∀ z, G 34 z = B 34 z := fun z => by
          rw [hG' 34 (by omega) (by omega), goB_f (by omega) (by omega), kB_33 (by omega) (by omega)]
        have h35 : ∀ z, G 35 z = if z = i ∧ B 27 q = 1 then B 35 i ^^^ ((1 : Int32) <<< (nI q &&& 31)) else B 35 z := fun z => by
          rw [hG' 35 (by omega) (by omega), goB_35, k27, kB_33 (by omega) (by omega)]
        have h36 : ∀ z, G 36 z = B 36 z := fun z => by
          rw [hG' 36 (by omega) (by omega), goB_f (by omega) (by omega), kB_33 (by omega) (by omega)]
        have fo : ∀ j, mF (goF (kF F k c) (kB B k) q) c 32 j = goF (kF F k c) (kB B k) q 32 j := fun j => by
          unfold mF
          rw [u2_at2, if_neg (by omega)]
        have ko : ∀ j, kF F k c 32 j = F 32 j := fun j => kF_o (by omega) (by omega)
        refine ⟨fun j hj => ?_, fun j j' hj hj' => ?_, fun z hz => ?_, ?_, ?_, ?_⟩
        · obtain ⟨p1, p2, p3, p4, p5⟩ := s.1 j hj
          dsimp only at p2 p3 p5 ⊢
          have wa : G 188 (32 + j) = if j = i then xOth B q (B 33 i) else B 188 (32 + j) := by
            rw [w, if_neg (by omega), if_neg (by omega), if_neg (by omega)]
            by_cases e : j = i
            · rw [if_pos e, if_pos (by omega)]
            · rw [if_neg e, if_neg (by omega)]
          have wb : G 188 (32 + (3 + j)) = B 188 (32 + (3 + j)) := by rw [w, if_neg (by omega), if_neg (by omega), if_neg (by omega), if_neg (by omega)]
          have wc : G 188 (32 + (6 + j)) = if j = i ∧ B 27 q = 1 then B 188 (38 + i) ^^^ ((1 : Int32) <<< (nI q &&& 31)) else B 188 (32 + (6 + j)) := by
            rw [w, if_neg (by omega), if_neg (by omega)]
            by_cases e : j = i ∧ B 27 q = 1
            · rw [if_pos e, if_pos ⟨by omega, e.2⟩]
            · rw [if_neg e, if_neg (fun z => e ⟨by omega, z.2⟩), if_neg (by omega)]
          rw [h33, h34, h35, wa, wb, wc]
          refine ⟨?_, ?_, p3, ?_, ?_⟩
          · by_cases e : j = i
            · rw [if_pos e]
              exact hxo
            · rw [if_neg e]
              exact p1
          · by_cases e : j = i
            · rw [if_pos e, if_pos e]
            · rw [if_neg e, if_neg e]
              exact p2
          · refine p4.elim Or.inl (fun ⟨l', z1, z2, z3⟩ => Or.inr ⟨l', z1, z2, ?_⟩)
            rw [h36]
            exact z3
          · by_cases e : j = i ∧ B 27 q = 1
            · rw [if_pos e, if_pos e, ax_i, bs_in hn6 hq e.2]
              rw [e.1, show 32 + (6 + i) = 38 + i by omega] at p5
              exact congrArg (· ^^^ _) p5
            · rw [if_neg e, if_neg e]
              exact p5
        · rw [h34, h34]
          exact s.2.1 j j' hj hj'
        · obtain ⟨p1, p2⟩ := s.2.2.1 z hz
          dsimp only at p1 ⊢
          rw [h36, w, if_neg (by omega), if_neg (by omega), if_neg (by omega), if_neg (by omega)]
          refine ⟨p1, p2.elim Or.inl (fun ⟨z1, j, z2, z3⟩ => Or.inr ⟨z1, j, z2, ?_⟩)⟩
          rw [h34]
          exact z3
        · dsimp only
          rw [fo, goF_4, ko, w, if_neg (by omega), if_neg (by omega), if_neg (by omega), if_neg (by omega)]
          exact s.2.2.2.1
        · dsimp only
          have w9 : G 188 (32 + 9) = if B 27 q = 2 then B 188 41 ^^^ ((1 : Int32) <<< (nI q &&& 31)) else B 188 41 := by
            rw [w, if_neg (by omega)]
            by_cases e : B 27 q = 2
            · rw [if_pos e, if_pos ⟨by omega, e⟩]
            · rw [if_neg e, if_neg (fun z => e z.2), if_neg (by omega), if_neg (by omega)]
          rw [fo, goF_5, k27, ko, w9]
          by_cases e : B 27 q = 2
          · rw [if_pos e, if_pos e, ax_i, bs_in hn6 hq e]
            exact congrArg (· ^^^ _) s.2.2.2.2.1
          · rw [if_neg e, if_neg e]
            exact s.2.2.2.2.1
        · dsimp only
          rw [fo, goF_6, k30, ko, w, if_pos (by omega), (g.2.2.2.1 q hq).1.2.2.2]
          exact congrArg (· + _) s.2.2.2.2.2
    · rw [if_pos c2]
      refine k0 _ _ _ _ (fun Pm km => (s_mgo (d := 6) (mA_of g a rfl rfl) hs').mpr ?_)
      rw [if_neg (not_not_intro c1), nI_clamp (n := i) (by omega), nI_clamp (n := q) (by omega), if_pos (fun z => c2 (em.mpr z))]
      exact km _ _ _ r
  · rw [if_pos c1]
    refine k0 _ _ _ _ (fun Pm km => (s_mgo (d := 6) (mA_of g a rfl rfl) hs').mpr ?_)
    rw [if_pos c1]
    exact km _ _ _ r
theorem xrk_at {a z k n : Nat} {v : Int32} : xrk B a v k n a z = if k ≤ z ∧ z < k + n then B a z ^^^ v else B a z := by
  unfold xrk
  by_cases h : k ≤ z ∧ z < k + n
  · rw [if_pos ⟨rfl, h⟩, if_pos h]
  · rw [if_neg (fun q => h q.2), if_neg h]
theorem xrk_f {a b k n : Nat} {v : Int32} (h : ¬ b = a) : xrk B a v k n b = B b := funext fun _ => xrk_ne h
theorem o_feast (r : RE F B) : OK2 S SL xs 10 10 80 146 [some (.ref (0 : Nat)), none, none] [some (.ref (187 : Nat)), none, none] F B C := fun Pc k0 => by
  obtain ⟨l1, l2, n, m, p, g, s, k, c, a⟩ := r.2.2.2.2.1
  have hn6 := g.1.1
  have hm3 := g.1.2.1
  have hp4 := g.1.2.2
  have hk := a.1
  refine (s_xfeast (d := 7) (xA_of g a)).mpr ?_
  by_cases c0 : F 26 0 = 0
  · rw [if_pos c0]
    refine k0 _ _ _ _ (fun Pm km => (s_mfeast (d := 8) (mA_of g a rfl rfl)).mpr ?_)
    rw [if_pos (by rw [l2, c0]; decide)]
    exact km _ _ _ r
  · rw [if_neg c0]
    have c0' : B 188 0 = 1 := l2.trans (l1.elim (fun z => absurd z c0) id)
    generalize hM : bsum (fun x => B 27 x = 1) n = M1
    generalize hN : bsum (fun x => B 27 x = 2) n = M2
    have kb : ∀ z, ¬ (33 ≤ z ∧ z ≤ 36) → xrk (kB B k) 35 M1 0 m z = kB B k z := fun z h => xrk_f (by omega)
    have b188 : xrk (kB B k) 35 M1 0 m 188 = B 188 := (kb _ (by omega)).trans (kB_o (by omega))
    refine k0 _ _ _ _ (fun Pm km => (s_mfeast (d := 8) (mA_of g a ((if_neg (by omega)).trans (kF_o (by omega) (by omega))) b188)).mpr ?_)
    rw [b188, if_neg (not_not_intro c0')]
    generalize hA : ((1 : Int32) <<< (nI n &&& 31)) - 1 = A
    refine km _ _ _ (RE_do (B1 := xrk (kB B k) 35 M1 0 m) r g s a (fun z j h => ?_) kb (fun z h => by rw [u2_r h, xrk_f h]) (fun j hj => ?_) ?_)
    · show (if z = 187 ∧ j = 4 then _ else (if z = 32 ∧ j = 5 then _ else kF F k c z j)) = (if z = 187 ∧ j = 4 then _ else kF F k c z j)
      rw [if_neg (fun q : z = 32 ∧ j = 5 => h q.1)]
    · rw [u2_at, if_neg (by omega), xrk_at, if_neg (by omega), mK_f (by omega)]
    · generalize hG : u2 (xrk (mK (xrk (kB B k) 35 M1 0 m) c) 188 A 38 m) 188 41 (B 188 41 ^^^ A) = G
      have w : ∀ z, G 188 z = if z = 41 then B 188 41 ^^^ A else if 38 ≤ z ∧ z < 38 + m then B 188 z ^^^ A else B 188 z := fun z => by
        rw [← hG, u2_at, xrk_at, mK_f (by omega), b188]
      have hG' : ∀ z, ¬ z = 188 → ¬ z = 191 → G z = xrk (kB B k) 35 M1 0 m z := fun z h h' => by
        rw [← hG, u2_r h, xrk_f h, mK_f h']
      have ho : ∀ z, (z = 33 ∨ z = 34 ∨ z = 36) → G z = B z := fun z h => by
        rw [hG' z (by omega) (by omega), xrk_f (by omega), kB_33 (by omega) (by omega)]
      have h35 : ∀ z, z < m → G 35 z = B 35 z ^^^ M1 := fun z h => by
        rw [hG' 35 (by omega) (by omega), xrk_at, if_pos (by omega), kB_33 (by omega) (by omega)]
      have fo : ∀ j, mF (u2 (kF F k c) 32 5 (F 32 5 ^^^ M2)) c 32 j = if j = 5 then F 32 5 ^^^ M2 else F 32 j := fun j => by
        unfold mF
        rw [u2_at2, if_neg (by omega), u2_at, kF_o (by omega) (by omega)]
      refine ⟨fun j hj => ?_, fun j j' hj hj' => ?_, fun z hz => ?_, ?_, ?_, ?_⟩
      · obtain ⟨p1, p2, p3, p4, p5⟩ := s.1 j hj
        dsimp only at p2 p3 p5 ⊢
        have wa : G 188 (32 + j) = B 188 (32 + j) := by rw [w, if_neg (by omega), if_neg (by omega)]
        have wb : G 188 (32 + (3 + j)) = B 188 (32 + (3 + j)) := by rw [w, if_neg (by omega), if_neg (by omega)]
        have wc : G 188 (32 + (6 + j)) = B 188 (32 + (6 + j)) ^^^ A := by rw [w, if_neg (by omega), if_pos (by omega)]
        rw [ho (32 + 1) (by omega), ho (32 + 2) (by omega), ho (32 + 4) (by omega), h35 j hj, wa, wb, wc]
        refine ⟨p1, p2, p3, p4, ?_⟩
        rw [ax_i, hM]
        rw [hM] at p5
        rw [← p5]
        have := bs_all (q := fun x => B 27 x = 1) hn6
        rw [hA, hM] at this
        rw [this]
      · rw [ho (32 + 2) (by omega)]
        exact s.2.1 j j' hj hj'
      · obtain ⟨p1, p2⟩ := s.2.2.1 z hz
        dsimp only at p1 ⊢
        rw [ho (32 + 4) (by omega), ho (32 + 2) (by omega), w, if_neg (by omega), if_neg (by omega)]
        exact ⟨p1, p2⟩
      · dsimp only
        rw [fo, if_neg (by omega), w, if_neg (by omega), if_neg (by omega)]
        exact s.2.2.2.1
      · dsimp only
        rw [fo, if_pos rfl, w, if_pos (by omega), ax_i, hN]
        have := bs_all (q := fun x => B 27 x = 2) hn6
        rw [hA, hN] at this
        rw [this]
        have p5 := s.2.2.2.2.1
        rw [hN] at p5
        exact congrArg (· ^^^ M2) p5
      · dsimp only
        rw [fo, if_neg (by omega), w, if_neg (by omega), if_neg (by omega)]
        exact s.2.2.2.2.2
end OI
