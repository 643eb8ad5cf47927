/-! OPS: hand, put, go, feast, undo -/
theorem u2_at2 {G : q_FT} {a j b q : Nat} {x : Int32} : u2 G a j x b q = if b = a ∧ q = j then x else G b q := rfl
section OH
variable {S SL : Nat} {xs : Nat → Int32} {F B : q_FT} {C : q_CT}
theorem o_hand (r : RE F B) {x y : Int32} : OK2 S SL xs 10 10 79 145 [some (.ref (0 : Nat)), some (.int x), some (.int y), none] [some (.ref (187 : Nat)), some (.int x), some (.int y), none] F B C := fun Pc k0 => by
  obtain ⟨-, -, n, m, p, g, s, k, c, a⟩ := r.2.2.2.2.1
  have hm3 := g.1.2.1
  have hp4 := g.1.2.2
  refine (s_xhand (d := 7) (xA_of g a)).mpr ?_
  by_cases c1 : (0 ≤ x ∧ x < nI m) ∧ (0 ≤ y ∧ y < nI m) ∧ ¬ x = y
  · rw [if_neg (not_not_intro c1)]
    obtain ⟨i, hi, rfl⟩ := q_rng (n := m) (by omega) c1.1
    obtain ⟨o, ho, rfl⟩ := q_rng (n := m) (by omega) c1.2.1
    have hio : ¬ i = o := fun z => c1.2.2 (by rw [z])
    rw [nI_clamp (n := i) (by omega), nI_clamp (n := o) (by omega)]
    have e1 : ∀ i, i < m → B 188 (32 + i) = B 33 i := fun i hi => (s.1 i hi).2.1
    have e2 : ∀ i, i < m → B 188 (35 + i) = B 34 i := fun i hi => by rw [show 35 + i = 32 + (3 + i) by omega]; exact (s.1 i hi).2.2.1
    have ec : (¬ B 34 i = -1000000 ∧ B 34 o = -1000000 ∧ B 33 i = B 33 o) ↔ (¬ B 34 i = -1000000 ∧ B 34 o = -1000000 ∧ B 33 o = B 33 i) := ⟨fun z => ⟨z.1, z.2.1, z.2.2.symm⟩, fun z => ⟨z.1, z.2.1, z.2.2.symm⟩⟩
    by_cases c2 : ¬ B 34 i = -1000000 ∧ B 34 o = -1000000 ∧ B 33 i = B 33 o
    · rw [if_neg (not_not_intro c2)]
      have b1 : ∀ z, ¬ (33 ≤ z ∧ z ≤ 36) → u2 (u2 (kB B k) 34 o (B 34 i)) 34 i (-1000000) z = kB B k z := fun z h => by rw [u2_r (by omega), u2_r (by omega)]
      have b188 : u2 (u2 (kB B k) 34 o (B 34 i)) 34 i (-1000000) 188 = B 188 := (b1 _ (by omega)).trans (kB_o (by have := a.1; omega))
      refine k0 _ _ _ _ (fun Pm km => (s_mhand (d := 8) (mA_of g a (kF_o (by have := a.1; omega) (by omega)) b188)).mpr ?_)
      rw [if_neg (not_not_intro c1), nI_clamp (n := i) (by omega), nI_clamp (n := o) (by omega), b188, e2 i hi, e2 o ho, e1 i hi, e1 o ho, if_neg (not_not_intro (ec.mp c2))]
      refine km _ _ _ (RE_do r g s a (fun _ _ _ => rfl) b1 (fun z h => by rw [u2_r h, u2_r h]) (fun j hj => ?_) ?_)
      · rw [u2_at, if_neg (by omega), u2_at, if_neg (by omega), mK_f (by omega)]
      · generalize hG : u2 (u2 (mK (u2 (u2 (kB B k) 34 o (B 34 i)) 34 i (-1000000)) c) 188 (35 + i) (-1000000)) 188 (35 + o) (B 34 i) = G
        have w : ∀ z, G 188 z = if z = 35 + o then B 34 i else if z = 35 + i then -1000000 else B 188 z := fun z => by
          rw [← hG, u2_at, u2_at, mK_f (by omega), b188]
        have h33 : ∀ z, G 33 z = B 33 z := fun z => by
          rw [← hG, u2_r (by omega), u2_r (by omega), mK_f (by omega), u2_r (by omega), u2_r (by omega), kB_33 (by omega) (by omega)]
        have h35 : ∀ z, G 35 z = B 35 z := fun z => by
          rw [← hG, u2_r (by omega), u2_r (by omega), mK_f (by omega), u2_r (by omega), u2_r (by omega), kB_33 (by omega) (by omega)]
        have h36 : ∀ z, G 36 z = B 36 z := fun z => by
          rw [← hG, u2_r (by omega), u2_r (by omega), mK_f (by omega), u2_r (by omega), u2_r (by omega), kB_33 (by omega) (by omega)]
        have h34 : ∀ z, G 34 z = if z = i then -1000000 else if z = o then B 34 i else B 34 z := fun z => by
          rw [← hG, u2_r (by omega), u2_r (by omega), mK_f (by omega), u2_at, u2_at, kB_33 (by omega) (by omega)]
        refine ⟨fun j hj => ?_, fun j j' hj hj' => ?_, fun z hz => ?_, ?_, ?_, ?_⟩
        · obtain ⟨p1, p2, p3, p4, p5⟩ := s.1 j hj
          dsimp only at p2 p3 p5 ⊢
          have wa : G 188 (32 + j) = B 188 (32 + j) := by rw [w, if_neg (by omega), if_neg (by omega)]
          have wc : G 188 (32 + (6 + j)) = B 188 (32 + (6 + j)) := by rw [w, if_neg (by omega), if_neg (by omega)]
          have wb : G 188 (32 + (3 + j)) = if j = i then -1000000 else if j = o then B 34 i else B 188 (32 + (3 + j)) := by
            rw [w]
            by_cases e : j = i
            · rw [if_pos e, if_neg (by omega), if_pos (by omega)]
            · rw [if_neg e]
              by_cases e' : j = o
              · rw [if_pos e', if_pos (by omega)]
              · rw [if_neg e', if_neg (by omega), if_neg (by omega)]
          rw [h33, h34, h35, wa, wb, wc]
          refine ⟨p1, p2, ?_, ?_, p5⟩
          · by_cases e : j = i
            · rw [if_pos e, if_pos e]
            · rw [if_neg e, if_neg e]
              by_cases e' : j = o
              · rw [if_pos e', if_pos e']
              · rw [if_neg e', if_neg e']
                exact p3
          · by_cases e : j = i
            · rw [if_pos e]
              exact Or.inl rfl
            · rw [if_neg e]
              by_cases e' : j = o
              · rw [if_pos e']
                refine (s.1 i hi).2.2.2.1.elim (fun q => absurd q c2.1) (fun ⟨l', z1, z2, z3⟩ => Or.inr ⟨l', z1, z2, ?_⟩)
                rw [h36]
                exact z3
              · rw [if_neg e']
                refine p4.elim Or.inl (fun ⟨l', z1, z2, z3⟩ => Or.inr ⟨l', z1, z2, ?_⟩)
                rw [h36]
                exact z3
        · rw [h34, h34]
          by_cases e : j = i
          · rw [if_pos e]
            exact fun _ z => absurd rfl z
          · rw [if_neg e]
            by_cases e' : j' = i
            · rw [if_pos e']
              exact fun z q => absurd z q
            · rw [if_neg e']
              by_cases f : j = o
              · by_cases f' : j' = o
                · exact fun _ _ => f.trans f'.symm
                · rw [if_pos f, if_neg f']
                  exact fun z q => absurd (s.2.1 i j' hi hj' z q) (fun z => e' z.symm)
              · by_cases f' : j' = o
                · rw [if_neg f, if_pos f']
                  exact fun z q => absurd (s.2.1 j i hj hi z q) e
                · rw [if_neg f, if_neg f']
                  exact s.2.1 j j' hj hj'
        · obtain ⟨p1, p2⟩ := s.2.2.1 z hz
          dsimp only at p1 ⊢
          rw [h36, w, if_neg (by omega), if_neg (by omega)]
          refine ⟨p1, p2.elim Or.inl (fun ⟨z1, j, z2, z3⟩ => Or.inr ⟨z1, ?_⟩)⟩
          by_cases e : j = i
          · refine ⟨o, ho, ?_⟩
            rw [h34, if_neg (fun z => hio z.symm), if_pos rfl, ← e]
            exact z3
          · have e' : ¬ j = o := fun q => by
              have z3' : B 34 j = nI z := z3
              rw [q, c2.2.1] at z3'
              exact nI_none (k := z) (by omega) z3'.symm
            refine ⟨j, z2, ?_⟩
            rw [h34, if_neg e, if_neg e']
            exact z3
        · dsimp only
          rw [kF_32, w, if_neg (by omega), if_neg (by omega)]
          exact s.2.2.2.1
        · dsimp only
          rw [kF_32, w, if_neg (by omega), if_neg (by omega)]
          exact s.2.2.2.2.1
        · dsimp only
          rw [kF_32, w, if_neg (by omega), if_neg (by omega)]
          exact s.2.2.2.2.2
    · rw [if_pos c2]
      refine k0 _ _ _ _ (fun Pm km => (s_mhand (d := 8) (mA_of g a rfl rfl)).mpr ?_)
      rw [if_neg (not_not_intro c1), nI_clamp (n := i) (by omega), nI_clamp (n := o) (by omega), e2 i hi, e2 o ho, e1 i hi, e1 o ho, if_pos (fun z => c2 (ec.mpr z))]
      exact km _ _ _ r
  · rw [if_pos c1]
    refine k0 _ _ _ _ (fun Pm km => (s_mhand (d := 8) (mA_of g a rfl rfl)).mpr ?_)
    rw [if_pos c1]
    exact km _ _ _ r
theorem o_put (r : RE F B) {x v : Int32} : OK2 S SL xs 10 10 81 147 [some (.ref (0 : Nat)), some (.int x), some (.int v), none] [some (.ref (187 : Nat)), some (.int x), some (.int v), none] F B C := fun Pc k0 => by
  obtain ⟨-, -, n, m, p, g, s, k, c, a⟩ := r.2.2.2.2.1
  have ec : ((0 ≤ x ∧ x < nI n) ∧ 0 ≤ v ∧ v < 2) ↔ ((0 ≤ x ∧ x < nI n) ∧ 0 ≤ v ∧ v ≤ 1) := by rw [q_01]
  have e4 : F 32 4 = B 188 42 := s.2.2.2.1
  refine (s_xput (d := 7) (xA_of g a)).mpr ?_
  by_cases c1 : (0 ≤ x ∧ x < nI n) ∧ 0 ≤ v ∧ v < 2
  · rw [if_neg (not_not_intro c1)]
    have b188 : kB B k 188 = B 188 := kB_o (by have := a.1; omega)
    refine k0 _ _ _ _ (fun Pm km => (s_mput (d := 8) (mA_of g a ((if_neg (by omega)).trans (kF_o (by have := a.1; omega) (by omega))) b188)).mpr ?_)
    rw [if_neg (not_not_intro (ec.mp c1)), b188, ← e4]
    refine km _ _ _ (RE_do r g s a (fun z j h => ?_) (fun _ _ => rfl) (fun z h => u2_r h) (fun j hj => ?_) ?_)
    · show (if z = 187 ∧ j = 4 then _ else (if z = 32 ∧ j = 4 then _ else kF F k c z j)) = (if z = 187 ∧ j = 4 then _ else kF F k c z j)
      rw [if_neg (fun q : z = 32 ∧ j = 4 => h q.1)]
    · rw [u2_at, if_neg (by omega), mK_f (by omega)]
    · have w : ∀ z V, u2 (mK (kB B k) c) 188 42 V 188 z = if z = 42 then V else B 188 z := fun z V => by rw [u2_at, mK_f (by omega), b188]
      have bo : ∀ V y, 33 ≤ y → y ≤ 36 → u2 (mK (kB B k) c) 188 42 V y = B y := fun V y h1 h2 => by rw [u2_r (by omega), mK_f (by omega), kB_33 h1 h2]
      have fo : ∀ V y, mF (u2 (kF F k c) 32 4 V) c 32 y = if y = 4 then V else F 32 y := fun V y => by
        unfold mF
        rw [u2_at2, if_neg (by omega), u2_at]
        by_cases e : y = 4
        · rw [if_pos e, if_pos e]
        · rw [if_neg e, if_neg e]
          exact kF_o (by omega) (by omega)
      generalize ((F 32 4 &&& ((1 : Int32) <<< (x &&& 31) ^^^ -1)) ||| (v <<< (x &&& 31))) = V
      refine ⟨fun j hj => ?_, fun j j' hj hj' => ?_, fun z hz => ?_, ?_, ?_, ?_⟩
      · dsimp only
        rw [bo V (32 + 1) (by omega) (by omega), bo V (32 + 2) (by omega) (by omega), bo V (32 + 3) (by omega) (by omega), bo V (32 + 4) (by omega) (by omega), w, w, w, if_neg (by have := g.1.2.1; omega), if_neg (by have := g.1.2.1; omega), if_neg (by have := g.1.2.1; omega)]
        exact s.1 j hj
      · rw [bo V (32 + 2) (by omega) (by omega)]
        exact s.2.1 j j' hj hj'
      · dsimp only
        rw [bo V (32 + 2) (by omega) (by omega), bo V (32 + 4) (by omega) (by omega), w, if_neg (by omega)]
        exact s.2.2.1 z hz
      · dsimp only
        rw [fo, w, if_pos rfl, if_pos rfl]
      · dsimp only
        rw [fo, w, if_neg (by omega), if_neg (by omega)]
        exact s.2.2.2.2.1
      · dsimp only
        rw [fo, w, if_neg (by omega), if_neg (by omega)]
        exact s.2.2.2.2.2
  · rw [if_pos c1]
    refine k0 _ _ _ _ (fun Pm km => (s_mput (d := 8) (mA_of g a rfl rfl)).mpr ?_)
    rw [if_pos (fun z => c1 (ec.mpr z))]
    exact km _ _ _ r
theorem o_undo (r : RE F B) : OK2 S SL xs 10 10 82 148 [some (.ref (0 : Nat))] [some (.ref (187 : Nat)), none] F B C := fun Pc k0 => by
  obtain ⟨-, -, n, m, p, g, s, k, c, a⟩ := r.2.2.2.2.1
  have hm3 := g.1.2.1
  have hp4 := g.1.2.2
  refine (s_xundo (d := 7) (xA_of g a)).mpr ?_
  by_cases c1 : c = 0
  · rw [if_pos c1]
    refine k0 _ _ _ _ (fun Pm km => (s_mundo (d := 8) (mA_of g a rfl rfl)).mpr ?_)
    rw [if_pos c1]
    exact km _ _ _ r
  · rw [if_neg c1]
    obtain ⟨a1, a2, a3, a4, a5, a6⟩ := a
    have hk : (k + 23) % 24 < 24 := Nat.mod_lt _ (by omega)
    have bo : ∀ z, ¬ (33 ≤ z ∧ z ≤ 36) → stB B 32 (39 + 5 * ((k + 23) % 24)) z = B z := fun z h => by
      unfold stB
      rw [ac_f (by omega), ac_f (by omega), ac_f (by omega), ac_f (by omega)]
    have fo : ∀ z j, ¬ (z = 32 ∧ 4 ≤ j ∧ j ≤ 6) → ¬ (z = 37 ∧ (j = 1 ∨ j = 2)) → u2 (stF (u2 F 37 2 (nI ((k + 23) % 24))) 32 (39 + 5 * ((k + 23) % 24))) 37 1 (nI (c - 1)) z j = F z j := fun z j h1 h2 => by
      unfold stF
      rw [u2_at2, if_neg (by omega), fc_ne (by omega), fc_ne (by omega), fc_ne (by omega), u2_at2, if_neg (by omega)]
    refine k0 _ _ _ _ (fun Pm km => (s_mundo (d := 8) (mA_of g ⟨a1, a2, a3, a4, a5, a6⟩ (fo _ _ (by omega) (by omega)) (bo _ (by omega)))).mpr ?_)
    rw [if_neg c1]
    have Fo : ∀ z j, ¬ (z = 32 ∧ 4 ≤ j ∧ j ≤ 6) → ¬ (z = 37 ∧ (j = 1 ∨ j = 2)) → ¬ (z = 187 ∧ j = 4) → u2 (u2 (stF (u2 F 37 2 (nI ((k + 23) % 24))) 32 (39 + 5 * ((k + 23) % 24))) 37 1 (nI (c - 1))) 187 4 (nI (c - 1)) z j = F z j := fun z j h1 h2 h3 => by
      rw [u2_at2, if_neg h3]
      exact fo z j h1 h2
    have Bo : ∀ z, ¬ (33 ≤ z ∧ z ≤ 36) → ¬ z = 188 → bc (stB B 32 (39 + 5 * ((k + 23) % 24))) 191 (16 * (c - 1)) 188 32 16 z = B z := fun z h1 h2 => by
      rw [← bo z h1]
      exact funext fun i => bc_ne h2
    have b191 : stB B 32 (39 + 5 * ((k + 23) % 24)) 191 = B 191 := bo _ (by omega)
    refine km _ _ _ (RE_act r (fun z j h1 h2 => Fo z j (by omega) (by omega) h2) (fun z h1 h2 h3 => Bo z (by omega) h2) (fun j hj => ?_) g ?_ (k' := (k + 23) % 24) (c' := c - 1) ⟨hk, by omega, ?_, ?_, u2_s, fun i hi => ?_⟩)
    · unfold bc
      rw [if_neg (by omega), bo _ (by omega)]
    · have s0 := a6 (c - 1) (by omega)
      have es : (k + 24 - c + (c - 1)) % 24 = (k + 23) % 24 := by omega
      rw [es] at s0
      have b8 : ∀ j, j < 16 → bc (stB B 32 (39 + 5 * ((k + 23) % 24))) 191 (16 * (c - 1)) 188 32 16 188 (32 + j) = B 191 (16 * (c - 1) + j) := fun j hj => by
        unfold bc
        rw [if_pos (by omega), b191, show 32 + j - 32 = j by omega]
      have bs : ∀ q, 1 ≤ q → q ≤ 4 → ∀ j, j < 4 → (q = 4 ∨ j < 3) → bc (stB B 32 (39 + 5 * ((k + 23) % 24))) 191 (16 * (c - 1)) 188 32 16 (32 + q) j = B (39 + 5 * ((k + 23) % 24) + q) j := fun q z1 z2 j z3 z4 => by
        rw [bc_ne (by omega)]
        unfold stB
        rcases (show q = 1 ∨ q = 2 ∨ q = 3 ∨ q = 4 by omega) with rfl | rfl | rfl | rfl
        · rw [ac_f (by omega), ac_f (by omega), ac_f (by omega), ac_lt (by omega)]
        · rw [ac_f (by omega), ac_f (by omega), ac_lt (by omega), ac_f (by omega)]
        · rw [ac_f (by omega), ac_lt (by omega), ac_f (by omega), ac_f (by omega)]
        · rw [ac_lt (by omega), ac_f (by omega), ac_f (by omega), ac_f (by omega)]
      have fs : ∀ j, 4 ≤ j → j ≤ 6 → u2 (u2 (stF (u2 F 37 2 (nI ((k + 23) % 24))) 32 (39 + 5 * ((k + 23) % 24))) 37 1 (nI (c - 1))) 187 4 (nI (c - 1)) 32 j = F (39 + 5 * ((k + 23) % 24)) j := fun j z1 z2 => by
        rw [u2_at2, if_neg (by omega), u2_at2, if_neg (by omega)]
        unfold stF
        rcases (show j = 4 ∨ j = 5 ∨ j = 6 by omega) with rfl | rfl | rfl
        · rw [fc_ne (by omega), fc_ne (by omega), fc_eq, u2_at2, if_neg (by omega)]
        · rw [fc_ne (by omega), fc_eq, fc_ne (by omega), u2_at2, if_neg (by omega)]
        · rw [fc_eq, fc_ne (by omega), fc_ne (by omega), u2_at2, if_neg (by omega)]
      exact SR_c hm3 hp4 (fs 4 (by omega) (by omega)) (fs 5 (by omega) (by omega)) (fs 6 (by omega) (by omega)) (fun j hj => bs 1 (by omega) (by omega) j (by omega) (Or.inr hj)) (fun j hj => bs 2 (by omega) (by omega) j (by omega) (Or.inr hj)) (fun j hj => bs 3 (by omega) (by omega) j (by omega) (Or.inr hj)) (fun j hj => bs 4 (by omega) (by omega) j hj (Or.inl rfl)) b8 (fun _ _ => rfl) s0
    · rw [u2_at2, if_neg (by omega), u2_at2, if_neg (by omega)]
      unfold stF
      rw [fc_ne (by omega), fc_ne (by omega), fc_ne (by omega), u2_s]
    · rw [u2_at2, if_neg (by omega), u2_s]
    · have es : ((k + 23) % 24 + 24 - (c - 1) + i) % 24 = (k + 24 - c + i) % 24 := by omega
      have hlt : (k + 24 - c + i) % 24 < 24 := Nat.mod_lt _ (by omega)
      rw [es, Bo 191 (by omega) (by omega), Bo 27 (by omega) (by omega)]
      exact SR_s hm3 hp4 (fun j => Fo _ j (by omega) (by omega) (by omega)) (fun q h1 h2 => Bo _ (by omega) (by omega)) (a6 i (by omega))
end OH
