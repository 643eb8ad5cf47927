/-! OPS: image, restore -/
section OJ
variable {S SL : Nat} {xs : Nat → Int32} {F B F2 B2 : q_FT} {C : q_CT}
theorem ldF_o {a b c j : Nat} (h : ¬ (c = a ∧ (j = 0 ∨ j = 1 ∨ j = 6 ∨ j = 7))) (h2 : ¬ (c = a + 6 ∧ 4 ≤ j ∧ j ≤ 6)) : ldF F a b c j = F c j := by
  unfold ldF stF
  rw [fc_ne (by omega), fc_ne (by omega), fc_ne (by omega), fc_ne (by omega), fc_ne (by omega), fc_ne (by omega), fc_ne (by omega)]
theorem ldF_a {a b j : Nat} (hab : a + 10 < b ∨ b + 10 < a) (h : j = 0 ∨ j = 1 ∨ j = 6 ∨ j = 7) : ldF F a b a j = F b j := by
  unfold ldF stF
  rw [fc_ne (by omega), fc_ne (by omega), fc_ne (by omega)]
  rcases h with rfl | rfl | rfl | rfl
  · rw [fc_ne (by omega), fc_ne (by omega), fc_ne (by omega), fc_eq]
  · rw [fc_ne (by omega), fc_ne (by omega), fc_eq, fc_ne (by omega)]
  · rw [fc_ne (by omega), fc_eq, fc_ne (by omega), fc_ne (by omega)]
  · rw [fc_eq, fc_ne (by omega), fc_ne (by omega), fc_ne (by omega)]
theorem ldF_s {a b j : Nat} (hab : a + 10 < b ∨ b + 10 < a) (h : j = 4 ∨ j = 5 ∨ j = 6) : ldF F a b (a + 6) j = F (b + 6) j := by
  have o : ∀ c j, ¬ c = a → fc (fc (fc (fc F a b 0) a b 1) a b 6) a b 7 c j = F c j := fun c j h => by
    rw [fc_ne (by omega), fc_ne (by omega), fc_ne (by omega), fc_ne (by omega)]
  unfold ldF stF
  rcases h with rfl | rfl | rfl
  · rw [fc_ne (by omega), fc_ne (by omega), fc_eq, o _ _ (by omega)]
  · rw [fc_ne (by omega), fc_eq, fc_ne (by omega), o _ _ (by omega)]
  · rw [fc_eq, fc_ne (by omega), fc_ne (by omega), o _ _ (by omega)]
theorem ldB_o {a b c : Nat} (h : ¬ (a + 1 ≤ c ∧ c ≤ a + 10 ∧ ¬ c = a + 6)) : ldB B a b c = B c := by
  unfold ldB stB
  rw [ac_f (by omega), ac_f (by omega), ac_f (by omega), ac_f (by omega), ac_f (by omega), ac_f (by omega), ac_f (by omega), ac_f (by omega), ac_f (by omega)]
theorem ldB_a {a b q i : Nat} (hab : a + 10 < b ∨ b + 10 < a) (h1 : 1 ≤ q) (h2 : q ≤ 5) (h3 : i < 4 ∨ (q ≤ 4 ∧ i < 6)) : ldB B a b (a + q) i = B (b + q) i := by
  unfold ldB stB
  rw [ac_f (by omega), ac_f (by omega), ac_f (by omega), ac_f (by omega)]
  rcases (show q = 1 ∨ q = 2 ∨ q = 3 ∨ q = 4 ∨ q = 5 by omega) with rfl | rfl | rfl | rfl | rfl
  · rw [ac_f (by omega), ac_f (by omega), ac_f (by omega), ac_f (by omega), ac_lt (by omega)]
  · rw [ac_f (by omega), ac_f (by omega), ac_f (by omega), ac_lt (by omega), ac_f (by omega)]
  · rw [ac_f (by omega), ac_f (by omega), ac_lt (by omega), ac_f (by omega), ac_f (by omega)]
  · rw [ac_f (by omega), ac_lt (by omega), ac_f (by omega), ac_f (by omega), ac_f (by omega)]
  · rw [ac_lt (by omega), ac_f (by omega), ac_f (by omega), ac_f (by omega), ac_f (by omega)]
theorem ldB_s {a b q i : Nat} (hab : a + 10 < b ∨ b + 10 < a) (h1 : 1 ≤ q) (h2 : q ≤ 4) (h3 : i < 3 ∨ (q = 4 ∧ i < 4)) : ldB B a b (a + 6 + q) i = B (b + 6 + q) i := by
  have o : ∀ c, ¬ (a + 1 ≤ c ∧ c ≤ a + 5) → ac (ac (ac (ac (ac B (b + 1) (a + 1) 6) (b + 2) (a + 2) 6) (b + 3) (a + 3) 6) (b + 4) (a + 4) 6) (b + 5) (a + 5) 4 c = B c := fun c h => by
    rw [ac_f (by omega), ac_f (by omega), ac_f (by omega), ac_f (by omega), ac_f (by omega)]
  unfold ldB stB
  rcases (show q = 1 ∨ q = 2 ∨ q = 3 ∨ q = 4 by omega) with rfl | rfl | rfl | rfl
  · rw [ac_f (by omega), ac_f (by omega), ac_f (by omega), ac_lt (by omega), o _ (by omega)]
  · rw [ac_f (by omega), ac_f (by omega), ac_lt (by omega), ac_f (by omega), o _ (by omega)]
  · rw [ac_f (by omega), ac_lt (by omega), ac_f (by omega), ac_f (by omega), o _ (by omega)]
  · rw [ac_lt (by omega), ac_f (by omega), ac_f (by omega), ac_f (by omega), o _ (by omega)]
/-- a land becomes another -/
theorem ld_GR {a b n m p : Nat} {g g' : Nat → Int32} (hab : a + 10 < b ∨ b + 10 < a) (hF : ∀ j, j = 1 ∨ j = 6 ∨ j = 7 → F2 a j = ldF F a b a j) (hB : ∀ c, a + 1 ≤ c → c ≤ a + 5 → B2 c = ldB B a b c) (hg : ∀ j, 1 ≤ j → j < 32 → g' j = g j) (h : GR F B b g n m p) : GR F2 B2 a g' n m p :=
  GR_c ((hF 1 (by omega)).trans (ldF_a hab (by omega))) ((hF 6 (by omega)).trans (ldF_a hab (by omega))) ((hF 7 (by omega)).trans (ldF_a hab (by omega))) (fun j _ => by rw [hB _ (by omega) (by omega)]; exact ldB_a hab (by omega) (by omega) (by omega)) (fun j _ => by rw [hB _ (by omega) (by omega)]; exact ldB_a hab (by omega) (by omega) (by omega)) (fun j _ => by rw [hB _ (by omega) (by omega)]; exact ldB_a hab (by omega) (by omega) (by omega)) (fun j _ => by rw [hB _ (by omega) (by omega)]; exact ldB_a hab (by omega) (by omega) (by omega)) (fun j _ => by rw [hB _ (by omega) (by omega)]; exact ldB_a hab (by omega) (by omega) (by omega)) hg h
theorem ld_SR {a b n m p : Nat} {w w' : Nat → Int32} (hn : n ≤ 6) (hm : m ≤ 3) (hp : p ≤ 4) (hab : a + 10 < b ∨ b + 10 < a) (hF : ∀ j, j = 4 ∨ j = 5 ∨ j = 6 → F2 (a + 6) j = ldF F a b (a + 6) j) (hB : ∀ c, a + 1 ≤ c → c ≤ a + 10 → B2 c = ldB B a b c) (hw : ∀ j, j < 16 → w' j = w j) (h : SR F B (b + 6) w n m p (B (b + 1))) : SR F2 B2 (a + 6) w' n m p (B2 (a + 1)) :=
  SR_c hm hp ((hF 4 (by omega)).trans (ldF_s hab (by omega))) ((hF 5 (by omega)).trans (ldF_s hab (by omega))) ((hF 6 (by omega)).trans (ldF_s hab (by omega))) (fun j _ => by rw [hB _ (by omega) (by omega)]; exact ldB_s hab (by omega) (by omega) (by omega)) (fun j _ => by rw [hB _ (by omega) (by omega)]; exact ldB_s hab (by omega) (by omega) (by omega)) (fun j _ => by rw [hB _ (by omega) (by omega)]; exact ldB_s hab (by omega) (by omega) (by omega)) (fun j _ => by rw [hB _ (by omega) (by omega)]; exact ldB_s hab (by omega) (by omega) (by omega)) hw (fun x hx => by rw [hB _ (by omega) (by omega)]; exact ldB_a hab (by omega) (by omega) (by omega)) h
theorem bc_at {b m a k n i : Nat} : bc B b m a k n a i = if k ≤ i ∧ i < k + n then B b (m + (i - k)) else B a i := by
  unfold bc
  by_cases h : k ≤ i ∧ i < k + n
  · rw [if_pos ⟨rfl, h⟩, if_pos h]
  · rw [if_neg (fun z => h z.2), if_neg h]
theorem bc_f {b m a k n c : Nat} (h : ¬ c = a) : bc B b m a k n c = B c := funext fun _ => bc_ne h
theorem o_image (r : RE F B) {y : Int32} : OK2 S SL xs 10 10 91 171 [some (.ref (0 : Nat)), some (.int y)] [some (.ref (187 : Nat)), some (.int y), none] F B C := fun Pc k0 => by
  obtain ⟨r1, r2, r3, r4, r5, r6, r7, r8⟩ := id r
  obtain ⟨l1, l2, n, m, p, g, s, k, c, a⟩ := id r5
  refine (s_ximage (d := 7) l1).mpr ?_
  by_cases c1 : 0 ≤ y ∧ y < 2
  · rw [if_neg (not_not_intro c1)]
    obtain ⟨i, hi, rfl⟩ := q_rng (n := 2) (by omega) c1
    rw [nI_clamp (n := i) (by omega)]
    by_cases c0 : F 26 0 = 0
    · rw [if_pos c0]
      refine k0 _ _ _ _ (fun Pm km => (s_mimage (d := 7)).mpr ?_)
      rw [if_neg (not_not_intro c1), if_pos (by rw [l2, c0]; decide)]
      exact km _ _ _ r
    · rw [if_neg c0]
      have f1 : F 26 0 = 1 := l1.elim (fun z => absurd z c0) id
      have b188 : ldB B (160 + 11 * i) 26 188 = B 188 := ldB_o (by omega)
      refine k0 _ _ _ _ (fun Pm km => (s_mimage (d := 7)).mpr ?_)
      rw [b188, if_neg (not_not_intro c1), if_neg (not_not_intro (l2.trans f1)), nI_clamp (n := i) (by omega)]
      have hF : ∀ a j, ¬ a = 160 + 11 * i → ¬ a = 160 + 11 * i + 6 → ldF F (160 + 11 * i) 26 a j = F a j := fun a j h1 h2 => ldF_o (by omega) (by omega)
      have hB : ∀ a, ¬ a = 189 → ¬ a = 190 → u2 (bc (ldB B (160 + 11 * i) 26) 188 0 189 (48 * i) 48) 190 i 1 a = ldB B (160 + 11 * i) 26 a := fun a h1 h2 => by
        rw [u2_r h2, bc_f h1]
      have hB' : ∀ a, ¬ a = 189 → ¬ a = 190 → ¬ (160 ≤ a ∧ a ≤ 181) → u2 (bc (ldB B (160 + 11 * i) 26) 188 0 189 (48 * i) 48) 190 i 1 a = B a := fun a h1 h2 h3 => by
        rw [hB a h1 h2, ldB_o (by omega)]
      have h189 : ∀ j, u2 (bc (ldB B (160 + 11 * i) 26) 188 0 189 (48 * i) 48) 190 i 1 189 j = if 48 * i ≤ j ∧ j < 48 * i + 48 then B 188 (j - 48 * i) else B 189 j := fun j => by
        rw [u2_r (by omega), bc_at, b188, ldB_o (by omega), Nat.zero_add]
      have h190 : ∀ j, u2 (bc (ldB B (160 + 11 * i) 26) 188 0 189 (48 * i) 48) 190 i 1 190 j = if j = i then 1 else B 190 j := fun j => by
        rw [u2_at, bc_f (by omega), ldB_o (by omega)]
      generalize u2 (bc (ldB B (160 + 11 * i) 26) 188 0 189 (48 * i) 48) 190 i 1 = G at *
      refine km _ _ _ ⟨R1_c (fun a h => hB' a (by omega) (by omega) (by omega)) r1, ?_, R3_c (hF _ _ (by omega) (by omega)) (hF _ _ (by omega) (by omega)) (hB' _ (by omega) (by omega) (by omega)) (hB' _ (by omega) (by omega) (by omega)) r3, ?_, R5_c (fun a j h1 h2 => hF _ _ (by omega) (by omega)) (hF _ _ (by omega) (by omega)) (fun a h1 h2 => hB' _ (by omega) (by omega) (by omega)) (hB' _ (by omega) (by omega) (by omega)) (hB' _ (by omega) (by omega) (by omega)) r5, fun q hq => ?_, R7_c (hF _ _ (by omega) (by omega)) (hF _ _ (by omega) (by omega)) (hB' _ (by omega) (by omega) (by omega)) (hB' _ (by omega) (by omega) (by omega)) r7, R8_c (fun j => hF _ _ (by omega) (by omega)) r8⟩
      · rw [hF _ _ (by omega) (by omega), hF _ _ (by omega) (by omega)]
        exact r2
      · rw [hF _ _ (by omega) (by omega), hF _ _ (by omega) (by omega)]
        exact r4
      · by_cases e : q = i
        · subst e
          have fz : ldF F (160 + 11 * q) 26 (160 + 11 * q) 0 = 1 := (ldF_a (by omega) (by omega)).trans f1
          rw [fz]
          refine ⟨Or.inr rfl, by rw [h190, if_pos rfl], fun _ => ⟨?_, n, m, p, ?_, ?_⟩⟩
          · rw [h189, if_pos (by omega), Nat.sub_self, l2, f1]
          · exact ld_GR (b := 26) (by omega) (fun j _ => rfl) (fun c h1 h2 => hB _ (by omega) (by omega)) (fun j h1 h2 => by rw [h189, if_pos (by omega), show 48 * q + j - 48 * q = j by omega]) g
          · exact ld_SR (b := 26) g.1.1 g.1.2.1 g.1.2.2 (by omega) (fun j _ => rfl) (fun c h1 h2 => hB _ (by omega) (by omega)) (fun j h1 => by rw [h189, if_pos (by omega), show 48 * q + (32 + j) - 48 * q = 32 + j by omega]) s
        · have fo : ∀ j, ldF F (160 + 11 * i) 26 (160 + 11 * q) j = F (160 + 11 * q) j := fun j => hF _ _ (by omega) (by omega)
          have bo : ∀ a, 160 + 11 * q ≤ a → a ≤ 160 + 11 * q + 10 → G a = B a := fun a h1 h2 => by
            rw [hB _ (by omega) (by omega), ldB_o (by omega)]
          obtain ⟨q1, q2, q3⟩ := r6 q hq
          rw [fo, h190, if_neg e, h189, if_neg (by omega)]
          refine ⟨q1, q2, fun z => ?_⟩
          obtain ⟨z0, n', m', p', z1, z2⟩ := q3 z
          refine ⟨z0, n', m', p', GR_c (fo _) (fo _) (fo _) (fun j _ => by rw [bo _ (by omega) (by omega)]) (fun j _ => by rw [bo _ (by omega) (by omega)]) (fun j _ => by rw [bo _ (by omega) (by omega)]) (fun j _ => by rw [bo _ (by omega) (by omega)]) (fun j _ => by rw [bo _ (by omega) (by omega)]) (fun j h1 h2 => by rw [h189, if_neg (by omega)]) z1, ?_⟩
          have fs : ∀ j, ldF F (160 + 11 * i) 26 (160 + 11 * q + 6) j = F (160 + 11 * q + 6) j := fun j => hF _ _ (by omega) (by omega)
          exact SR_c z1.1.2.1 z1.1.2.2 (fs _) (fs _) (fs _) (fun j _ => by rw [bo _ (by omega) (by omega)]) (fun j _ => by rw [bo _ (by omega) (by omega)]) (fun j _ => by rw [bo _ (by omega) (by omega)]) (fun j _ => by rw [bo _ (by omega) (by omega)]) (fun j h1 => by rw [h189, if_neg (by omega)]) (fun x hx => by rw [bo _ (by omega) (by omega)]) z2
  · rw [if_pos c1]
    refine k0 _ _ _ _ (fun Pm km => (s_mimage (d := 7)).mpr ?_)
    rw [if_pos c1]
    exact km _ _ _ r
/-- a new land, and all acts forgotten -/
theorem RE_new {n m p : Nat} (r : RE F B) (hF : ∀ a j, ¬ (a = 13 ∧ ¬ j = 7) → ¬ a = 15 → ¬ (a = 21 ∧ j = 4) → ¬ a = 26 → ¬ a = 32 → ¬ (a = 37 ∧ j = 1) → ¬ (a = 187 ∧ ¬ (j = 8 ∨ j = 17 ∨ j = 24)) → F2 a j = F a j) (hB : ∀ a, ¬ (16 ≤ a ∧ a ≤ 36) → ¬ a = 188 → ¬ a = 196 → B2 a = B a) (h3 : R3 F2 B2) (h0 : F2 26 0 = 1) (h1 : B2 188 0 = 1) (g : GR F2 B2 26 (B2 188) n m p) (s : SR F2 B2 32 (fun j => B2 188 (32 + j)) n m p (B2 27)) (h37 : F2 37 1 = 0) (h4 : F2 187 4 = 0) : RE F2 B2 := by
  obtain ⟨r1, r2, r3, r4, ⟨-, -, n', m', p', -, -, k, c, a⟩, r6, r7, r8⟩ := r
  have hF' : ∀ a j, ¬ (a = 13 ∧ ¬ j = 7) → ¬ (a = 15 ∨ (a = 21 ∧ j = 4) ∨ a = 26 ∨ a = 32 ∨ (a = 37 ∧ j = 1)) → ¬ (a = 187 ∧ ¬ (j = 8 ∨ j = 17 ∨ j = 24)) → F2 a j = F a j := fun a j z1 z2 z3 => hF a j z1 (by omega) (by omega) (by omega) (by omega) (by omega) z3
  refine ⟨R1_c (fun a h => hB a (by omega) (by omega) (by omega)) r1, ?_, h3, ?_, ⟨Or.inr h0, h1.trans h0.symm, n, m, p, g, s, k, 0, a.1, by omega, (hF' _ _ (by omega) (by omega) (by omega)).trans a.2.2.1, h37, h4, fun i hi => absurd hi (by omega)⟩, R6_c (fun a j h1 h2 => hF' _ _ (by omega) (by omega) (by omega)) (fun a h1 h2 => hB _ (by omega) (by omega) (by omega)) (hB _ (by omega) (by omega) (by omega)) (hB _ (by omega) (by omega) (by omega)) r6, R7_c (hF' _ _ (by omega) (by omega) (by omega)) (hF' _ _ (by omega) (by omega) (by omega)) (hB _ (by omega) (by omega) (by omega)) (hB _ (by omega) (by omega) (by omega)) r7, ?_⟩
  · rw [hF' _ _ (by omega) (by omega) (by omega), hF' _ _ (by omega) (by omega) (by omega)]
    exact r2
  · rw [hF' _ _ (by omega) (by omega) (by omega), hF' _ _ (by omega) (by omega) (by omega)]
    exact r4
  · exact ⟨(hF' _ _ (by omega) (by omega) (by omega)).trans r8.1, (hF' _ _ (by omega) (by omega) (by omega)).trans r8.2⟩
theorem o_restore (r : RE F B) {y : Int32} : OK2 S SL xs 10 10 92 172 [some (.ref (0 : Nat)), some (.int y)] [some (.ref (187 : Nat)), some (.int y), none] F B C := fun Pc k0 => by
  obtain ⟨r1, r2, r3, r4, r5, r6, r7, r8⟩ := id r
  refine (s_xrestore (d := 7) (fun i hi => (r6 i hi).1)).mpr ?_
  by_cases c1 : 0 ≤ y ∧ y < 2
  · rw [if_neg (not_not_intro c1)]
    obtain ⟨i, hi, rfl⟩ := q_rng (n := 2) (by omega) c1
    rw [nI_clamp (n := i) (by omega)]
    obtain ⟨l1, l2, l3⟩ := r6 i hi
    by_cases c0 : F (160 + 11 * i) 0 = 0
    · rw [if_pos c0]
      refine k0 _ _ _ _ (fun Pm km => (s_mrestore (d := 7)).mpr ?_)
      rw [if_neg (not_not_intro c1), nI_clamp (n := i) (by omega), if_pos (l2.trans c0)]
      exact km _ _ _ r
    · rw [if_neg c0]
      have f1 : F (160 + 11 * i) 0 = 1 := l1.elim (fun z => absurd z c0) id
      obtain ⟨z0, n, m, p, g, s⟩ := l3 f1
      have b189 : ldB B 26 (160 + 11 * i) 189 = B 189 := ldB_o (by omega)
      have b190 : ldB B 26 (160 + 11 * i) 190 = B 190 := ldB_o (by omega)
      refine k0 _ _ _ _ (fun Pm km => (s_mrestore (d := 7)).mpr ?_)
      rw [if_neg (not_not_intro c1), nI_clamp (n := i) (by omega), b190, if_neg (fun z => c0 (l2.symm.trans z))]
      have hF : ∀ a j, ¬ (a = 37 ∧ j = 1) → ¬ (a = 187 ∧ j = 4) → u2 (u2 (ldF F 26 (160 + 11 * i)) 37 1 0) 187 4 0 a j = ldF F 26 (160 + 11 * i) a j := fun a j h1 h2 => by
        rw [u2_at2, if_neg h2, u2_at2, if_neg h1]
      have hB : ∀ a, ¬ a = 188 → bc (ldB B 26 (160 + 11 * i)) 189 (48 * i) 188 0 48 a = ldB B 26 (160 + 11 * i) a := fun a h => bc_f h
      have h188 : ∀ j, j < 48 → bc (ldB B 26 (160 + 11 * i)) 189 (48 * i) 188 0 48 188 j = B 189 (48 * i + j) := fun j hj => by
        rw [bc_at, if_pos (by omega), b189, Nat.sub_zero]
      refine km _ _ _ (RE_new (n := n) (m := m) (p := p) r (fun a j h1 h2 h3 h4 h5 h6 h7 => (hF a j h6 (by omega)).trans (ldF_o (by omega) (by omega))) (fun a h1 h2 h3 => (hB a h2).trans (ldB_o (by omega))) (R3_c ((hF _ _ (by omega) (by omega)).trans (ldF_o (by omega) (by omega))) ((hF _ _ (by omega) (by omega)).trans (ldF_o (by omega) (by omega))) ((hB _ (by omega)).trans (ldB_o (by omega))) ((hB _ (by omega)).trans (ldB_o (by omega))) r3) ((hF _ _ (by omega) (by omega)).trans ((ldF_a (by omega) (by omega)).trans f1)) ((h188 0 (by omega)).trans z0) ?_ ?_ ?_ u2_s)
      · exact ld_GR (b := 160 + 11 * i) (by omega) (fun j _ => hF _ _ (by omega) (by omega)) (fun c h1 h2 => hB _ (by omega)) (fun j h1 h2 => h188 j (by omega)) g
      · exact ld_SR (b := 160 + 11 * i) (a := 26) g.1.1 g.1.2.1 g.1.2.2 (by omega) (fun j _ => hF _ _ (by omega) (by omega)) (fun c h1 h2 => hB _ (by omega)) (fun j h1 => h188 _ (by omega)) s
      · rw [u2_at2, if_neg (by omega), u2_s]
  · rw [if_pos c1]
    refine k0 _ _ _ _ (fun Pm km => (s_mrestore (d := 7)).mpr ?_)
    rw [if_pos c1]
    exact km _ _ _ r
end OJ
