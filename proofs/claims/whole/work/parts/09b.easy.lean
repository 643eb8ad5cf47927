/-! OPS: status, fault, trace, kind, as, count, rows -/
theorem ile2 {x : Int32} : x ≤ 2 ↔ x < 3 := by
  rw [Int32.lt_iff_toInt_lt, Int32.le_iff_toInt_le, show (2 : Int32).toInt = 2 from of_decide_eq_true rfl, show (3 : Int32).toInt = 3 from of_decide_eq_true rfl]
  omega
theorem span_ex {sz : Nat} {i n : Int32} (h40 : sz ≤ 40) (h : 0 ≤ i ∧ 0 ≤ n ∧ n ≤ nI sz - i) : ∃ i0 n0, i = nI i0 ∧ n = nI n0 ∧ i0 + n0 ≤ sz := by
  obtain ⟨a, b, c⟩ := h
  have ta := Int32.le_iff_toInt_le.mp a
  have tb := Int32.le_iff_toInt_le.mp b
  have tc := Int32.le_iff_toInt_le.mp c
  have r1 := Int32.toInt_lt i
  have e0 : (0 : Int32).toInt = 0 := by decide
  have esz := nI_toInt (n := sz) (by omega)
  rw [e0] at ta tb
  have es : (nI sz - i).toInt = (sz : Int) - i.toInt := by
    rw [Int32.toInt_sub, esz]
    exact Int.bmod_eq_of_le (by omega) (by omega)
  rw [es] at tc
  obtain ⟨i0, hi0, rfl⟩ := q_rng (n := 41) (by omega) ⟨a, Int32.lt_iff_toInt_lt.mpr (by rw [nI_toInt (by omega)]; omega)⟩
  obtain ⟨n0, hn0, rfl⟩ := q_rng (n := 41) (by omega) ⟨b, Int32.lt_iff_toInt_lt.mpr (by rw [nI_toInt (by omega)]; omega)⟩
  rw [nI_toInt (by omega), nI_toInt (by omega)] at tc
  exact ⟨i0, n0, rfl, rfl, by omega⟩
section OA
variable {S SL : Nat} {xs : Nat → Int32} {F B : q_FT} {C : q_CT}
theorem o_status (r : RE F B) : OK2 S SL xs 10 10 98 190 [some (.ref (0 : Nat))] [some (.ref (187 : Nat))] F B C := fun Pc k => s_xstatus.mpr (k _ _ _ _ (fun Pm km => s_mstatus.mpr (by rw [← r.2.1]; exact km _ _ _ r)))
theorem o_fault (r : RE F B) : OK2 S SL xs 10 10 75 130 [some (.ref (0 : Nat))] [some (.ref (187 : Nat))] F B C := fun Pc k => s_xfault.mpr (k _ _ _ _ (fun Pm km => s_mfault.mpr (by rw [← r.2.2.2.1]; exact km _ _ _ r)))
theorem o_trace (r : RE F B) {i : Int32} : OK2 S SL xs 10 10 96 188 [some (.ref (0 : Nat)), some (.int i)] [some (.ref (187 : Nat)), some (.int i)] F B C := fun Pc k => by
  obtain ⟨q, h1, h2, h3, h4⟩ := r.2.2.2.2.2.2.1
  refine (s_xtrace (d := 9) h2 h1).mpr (k _ _ _ _ (fun Pm km => (s_mtrace (d := 9) h3 h1).mpr ?_))
  by_cases c : 0 ≤ i ∧ i < nI q
  · obtain ⟨j, hj, rfl⟩ := q_rng (n := q) (by omega) c
    have e := h4 j hj
    rw [if_pos c, nI_clamp (by omega)] at km ⊢
    rw [← e]
    exact km _ _ _ r
  · rw [if_neg c] at km ⊢
    exact km _ _ _ r
theorem o_kind (r : RE F B) {x : Int32} : OK2 S SL xs 10 10 93 173 [some (.ref (0 : Nat)), some (.int x)] [some (.ref (187 : Nat)), some (.int x)] F B C := fun Pc k => by
  obtain ⟨-, -, n, m, p, g, -⟩ := r.2.2.2.2.1
  refine (s_xkind (d := 8) g.2.1.1 g.1.1).mpr (k _ _ _ _ (fun Pm km => (s_mkind (d := 8) g.2.2.1.1 g.1.1).mpr ?_))
  by_cases c : 0 ≤ x ∧ x < nI n
  · have hn := g.1.1
    obtain ⟨j, hj, rfl⟩ := q_rng (n := n) (by omega) c
    have e := (g.2.2.2.1 j hj).1.1
    rw [if_pos c, nI_clamp (by omega)] at km ⊢
    rw [e]
    exact km _ _ _ r
  · rw [if_neg c] at km ⊢
    exact km _ _ _ r
theorem st8 {f : Int32} (r : RE F B) : RE (u2 (u2 F 0 7 f) 187 8 f) B := RE_f r (by
    rw [show u2 (u2 F 0 7 f) 187 8 f 0 7 = u2 F 0 7 f 0 7 from if_neg (by omega), u2_s, u2_s]) (fun a j h1 h2 h3 => by
    rw [show u2 (u2 F 0 7 f) 187 8 f a j = u2 F 0 7 f a j from if_neg (by omega)]
    exact if_neg (by omega)) (fun a _ => rfl)
theorem as_iff {s k : Int32} (hs : s = 1 ∨ s = 2 ∨ s = 3 ∨ s = 4 ∨ s = 5) : (k = 0 ∨ k = s ∨ k = (if s = 2 then 1 else if s = 4 ∨ s = 5 then 3 else 0)) ↔ (k = 0 ∨ s = k ∨ (k = 1 ∧ s = 2) ∨ (k = 3 ∧ 4 ≤ s ∧ s ≤ 5)) := by
  rcases hs with rfl | rfl | rfl | rfl | rfl
  · have e1 : ¬ (4 : Int32) ≤ 1 := by decide
    simp [e1, eq_comm]
    exact ⟨fun h => h.elim Or.inl (fun h => h.elim Or.inr Or.inl), fun h => h.elim Or.inl (fun h => Or.inr (Or.inl h))⟩
  · have e1 : ¬ (4 : Int32) ≤ 2 := by decide
    simp [e1, eq_comm]
  · have e1 : ¬ (4 : Int32) ≤ 3 := by decide
    simp [e1, eq_comm]
    exact ⟨fun h => h.elim Or.inl (fun h => h.elim Or.inr Or.inl), fun h => h.elim Or.inl (fun h => Or.inr (Or.inl h))⟩
  · have e1 : (4 : Int32) ≤ 4 ∧ (4 : Int32) ≤ 5 := by decide
    simp [e1, eq_comm]
  · have e1 : (4 : Int32) ≤ 5 ∧ (5 : Int32) ≤ 5 := by decide
    simp [e1, eq_comm]
theorem o_as (r : RE F B) {x y : Int32} : OK2 S SL xs 10 10 94 175 [some (.ref (0 : Nat)), some (.int x), some (.int y)] [some (.ref (187 : Nat)), some (.int x), some (.int y)] F B C := fun Pc k => by
  obtain ⟨-, -, n, m, p, g, -⟩ := r.2.2.2.2.1
  have hs : ∀ x, x < n → B 27 x = 1 ∨ B 27 x = 2 ∨ B 27 x = 3 ∨ B 27 x = 4 ∨ B 27 x = 5 := fun x hx => (g.2.2.2.1 x hx).2.1
  refine (s_xas (d := 8) g.2.1.1 g.1.1 hs).mpr ?_
  by_cases c : (0 ≤ x ∧ x < nI n) ∧ 0 ≤ y ∧ y ≤ 5
  · rw [if_pos c]
    have hn := g.1.1
    obtain ⟨j, hj, rfl⟩ := q_rng (n := n) (by omega) c.1
    have e := (g.2.2.2.1 j hj).1.1
    have ei := as_iff (k := y) (hs j hj)
    rw [nI_clamp (by omega)]
    by_cases c2 : y = 0 ∨ y = B 27 j ∨ y = (if B 27 j = 2 then 1 else if B 27 j = 4 ∨ B 27 j = 5 then 3 else 0)
    · rw [if_pos c2]
      refine k _ _ _ _ (fun Pm km => (s_mas (d := 8) (g.2.2.1.1) g.1.1).mpr ?_)
      rw [if_pos c, nI_clamp (by omega), e, if_pos (ei.mp c2)]
      exact km _ _ _ (st8 r)
    · rw [if_neg c2]
      refine k _ _ _ _ (fun Pm km => (s_mas (d := 8) (g.2.2.1.1) g.1.1).mpr ?_)
      rw [if_pos c, nI_clamp (by omega), e, if_neg (fun z => c2 (ei.mpr z))]
      exact km _ _ _ (st8 r)
  · rw [if_neg c]
    refine k _ _ _ _ (fun Pm km => (s_mas (d := 8) (g.2.2.1.1) g.1.1).mpr ?_)
    rw [if_neg c]
    exact km _ _ _ r
theorem cnt_c {p q : Nat → Prop} [DecidablePred p] [DecidablePred q] : ∀ n : Nat, (∀ k, k < n → (p k ↔ q k)) → cnt p n = cnt q n
  | 0, _ => rfl
  | n + 1, h => by
    have ih := cnt_c (p := p) (q := q) n (fun k hk => h k (by omega))
    unfold cnt
    by_cases c : p n
    · rw [if_pos c, if_pos ((h n (by omega)).mp c), ih]
    · rw [if_neg c, if_neg (fun z => c ((h n (by omega)).mpr z)), ih]
theorem R1_miss (r : R1 B) {i : Nat} (hi : i < 8) : B 3 i = -1 ↔ B 192 i = -1000000 := by
  rcases r i hi with ⟨h1, h2⟩ | ⟨sz, h0, h1, -, h2, h3, h4, -⟩
  · exact ⟨fun _ => h2, fun _ => h1⟩
  · constructor
    · intro z
      rw [h1] at z
      have := nI_pos' (n := sz) (by omega)
      rw [z] at this
      exact absurd this (by decide)
    · intro z
      rw [← h4, z] at h2
      exact absurd h2 (by decide)
theorem o_count (r : RE F B) {w : Int32} : OK2 S SL xs 10 10 97 189 [some (.ref (0 : Nat)), some (.int w)] [some (.ref (187 : Nat)), some (.int w), none, none] F B C := fun Pc k => by
  obtain ⟨-, -, n, m, p, g, s, kk, c, a⟩ := r.2.2.2.2.1
  obtain ⟨t, ht, h1, h2⟩ := r.2.2.1.1
  refine (s_xcount (d := 8)).mpr (k _ _ _ _ (fun Pm km => (s_mcount (d := 8) (g.2.2.1.1) g.1.1).mpr ?_))
  have e0 : cnt (fun r => ¬ B 3 r = -1) 8 = cnt (fun r => ¬ B 192 r = -1000000) 8 := cnt_c 8 (fun i hi => not_congr (R1_miss r.1 hi))
  have e6 : bsum (fun x => B 188 (4 + 4 * x) = 2) n = bsum (fun x => B 27 x = 2) n := bsum_c n (fun x hx => by rw [(g.2.2.2.1 x hx).1.1])
  rw [e6, ← e0, g.2.2.1.2.1, g.2.2.1.2.2, a.2.2.2.2.1, h2]
  rw [g.2.1.1, g.2.1.2.1, g.2.1.2.2, a.2.2.2.1, h1, s.2.2.2.2.2, s.2.2.2.2.1] at km
  exact km _ _ _ r
theorem RE_rows {F' B' : q_FT} (r : RE F B) (hs : F' 0 7 = F' 187 8) (hF : ∀ a j, ¬ (a = 0 ∧ j = 7) → ¬ (a = 187 ∧ j = 8) → F' a j = F a j) (hB : ∀ a, ¬ (2 ≤ a ∧ a ≤ 12) → ¬ (192 ≤ a ∧ a ≤ 194) → B' a = B a) (h1 : R1 B') : RE F' B' := by
  obtain ⟨r1, r2, r3, r4, r5, r6, r7, r8⟩ := r
  refine ⟨h1, hs, R3_c (hF _ _ (by omega) (by omega)) (hF _ _ (by omega) (by omega)) (hB _ (by omega) (by omega)) (hB _ (by omega) (by omega)) r3, ?_, R5_c (fun a j h1 h2 => hF _ _ (by omega) (by omega)) (hF _ _ (by omega) (by omega)) (fun a h1 h2 => hB _ (by omega) (by omega)) (hB _ (by omega) (by omega)) (hB _ (by omega) (by omega)) r5, R6_c (fun a j h1 h2 => hF _ _ (by omega) (by omega)) (fun a h1 h2 => hB _ (by omega) (by omega)) (hB _ (by omega) (by omega)) (hB _ (by omega) (by omega)) r6, R7_c (hF _ _ (by omega) (by omega)) (hF _ _ (by omega) (by omega)) (hB _ (by omega) (by omega)) (hB _ (by omega) (by omega)) r7, R8_c (fun j => hF _ _ (by omega) (by omega)) r8⟩
  rw [hF 13 7 (by omega) (by omega), hF 187 17 (by omega) (by omega)]
  exact r4
theorem s8s {f : Int32} : u2 (u2 F 0 7 f) 187 8 f 0 7 = u2 (u2 F 0 7 f) 187 8 f 187 8 := by
  rw [show u2 (u2 F 0 7 f) 187 8 f 0 7 = u2 F 0 7 f 0 7 from if_neg (by omega), u2_s, u2_s]
theorem s8f {f : Int32} : ∀ a j, ¬ (a = 0 ∧ j = 7) → ¬ (a = 187 ∧ j = 8) → u2 (u2 F 0 7 f) 187 8 f a j = F a j := fun a j h1 h2 => (if_neg h2).trans (if_neg h1)
theorem o_drop (r : RE F B) {x : Int32} : OK2 S SL xs 10 10 72 116 [some (.ref (0 : Nat)), some (.int x), none] [some (.ref (187 : Nat)), some (.int x)] F B C := fun Pc k => by
  refine (s_xdrop (d := 9)).mpr ?_
  by_cases c : 0 ≤ x ∧ x < 8
  · rw [if_neg (not_not_intro c)]
    obtain ⟨i, hi, rfl⟩ := q_rng (n := 8) (by omega) c
    rw [nI_clamp (by omega)]
    have hm := R1_miss r.1 hi
    by_cases c1 : B 3 i = -1
    · rw [if_pos c1]
      refine k _ _ _ _ (fun Pm km => (s_mdrop (d := 8)).mpr ?_)
      rw [if_neg (not_not_intro c), nI_clamp (by omega), if_pos (hm.mp c1)]
      exact km _ _ _ (st8 r)
    · rw [if_neg c1]
      refine k _ _ _ _ (fun Pm km => (s_mdrop (d := 8)).mpr ?_)
      have hb : ∀ a j, ¬ a = 3 → u2 B 3 i (-1) a j = B a j := fun a j h => if_neg (fun z => h z.1)
      rw [if_neg (not_not_intro c), nI_clamp (by omega), hb 192 _ (by omega), hb 193 _ (by omega), if_neg (fun z => c1 (hm.mpr z))]
      rcases r.1 i hi with ⟨z, -⟩ | ⟨sz, h0, h1, h1', -⟩
      · exact absurd z c1
      · rw [h1'] 
        rw [h1] at km
        refine km _ _ _ (RE_rows r s8s s8f (fun a z1 z2 => ?_) (fun j hj => ?_))
        · rw [u2_r (by omega), u2_r (by omega)]
        · by_cases e : j = i
          · subst e
            refine Or.inl ⟨?_, u2_s⟩
            rw [u2_r (by omega), u2_s]
          · have e3 : u2 (u2 B 3 i (-1)) 192 i (-1000000) 3 j = B 3 j := by
              rw [u2_r (by omega)]
              exact if_neg (fun z => e z.2)
            have e4 : u2 (u2 B 3 i (-1)) 192 i (-1000000) 192 j = B 192 j := (if_neg (fun z => e z.2)).trans (hb _ _ (by omega))
            have e5 : ∀ a, ¬ a = 3 → ¬ a = 192 → u2 (u2 B 3 i (-1)) 192 i (-1000000) a = B a := fun a h1 h2 => by rw [u2_r h2, u2_r h1]
            rw [e3, e4, e5 2 (by omega) (by omega), e5 193 (by omega) (by omega), e5 194 (by omega) (by omega), e5 (5 + 1 * j) (by omega) (by omega)]
            exact r.1 j hj
  · rw [if_pos c]
    refine k _ _ _ _ (fun Pm km => (s_mdrop (d := 8)).mpr ?_)
    rw [if_pos c]
    exact km _ _ _ r
theorem o_row (r : RE F B) {x l n : Int32} : OK2 S SL xs 10 10 69 112 [some (.ref (0 : Nat)), some (.int x), some (.int l), some (.int n)] [some (.ref (187 : Nat)), some (.int x), some (.int l), some (.int n), none] F B C := fun Pc k => by
  refine (s_xrow (d := 8)).mpr ?_
  have ec : (¬ (0 ≤ x ∧ x < 8) ∨ ¬ (0 ≤ l ∧ l < 3) ∨ 40 < n) ↔ (¬ (0 ≤ x ∧ x < 8) ∨ ¬ (0 ≤ l ∧ l ≤ 2) ∨ 40 < n) := by rw [ile2]
  by_cases c : ¬ (0 ≤ x ∧ x < 8) ∨ ¬ (0 ≤ l ∧ l < 3) ∨ 40 < n
  · rw [if_pos c]
    refine k _ _ _ _ (fun Pm km => (s_mrow (d := 8)).mpr ?_)
    rw [if_pos (ec.mp c)]
    exact km _ _ _ r
  · rw [if_neg c]
    by_cases c1 : n < 0
    · rw [if_pos c1]
      refine k _ _ _ _ (fun Pm km => (s_mrow (d := 8)).mpr ?_)
      rw [if_neg (fun z => c (ec.mpr z)), if_pos c1]
      exact km _ _ _ (st8 r)
    · rw [if_neg c1]
      refine k _ _ _ _ (fun Pm km => (s_mrow (d := 8)).mpr ?_)
      rw [if_neg (fun z => c (ec.mpr z)), if_neg c1]
      have cx : 0 ≤ x ∧ x < 8 := Classical.byContradiction fun z => c (Or.inl z)
      have cl : 0 ≤ l ∧ l < 3 := Classical.byContradiction fun z => c (Or.inr (Or.inl z))
      have cn : ¬ 40 < n := fun z => c (Or.inr (Or.inr z))
      obtain ⟨i, hi, rfl⟩ := q_rng (n := 8) (by omega) cx
      obtain ⟨sz, hsz, rfl⟩ := q_rng (n := 41) (by omega) (r := n) ⟨Int32.not_lt.mp c1, Int32.lt_of_le_of_lt (Int32.not_lt.mp cn) (by decide)⟩
      rw [nI_clamp (n := i) (by omega)]
      refine km _ _ _ (RE_rows r s8s s8f (fun a z1 z2 => ?_) (fun j hj => ?_))
      · funext q
        unfold zfill
        rw [if_neg (by omega), u2_r (by omega), u2_r (by omega)]
        rw [if_neg (by omega), u2_r (by omega), u2_r (by omega)]
      · have eA : ∀ a q, ¬ (a = 5 + 1 * i) → ¬ a = 2 → ¬ a = 3 → zfill (u2 (u2 B 2 i l) 3 i (nI sz)) (5 + 1 * i) 0 40 0 a q = B a q := fun a q z1 z2 z3 => by
          unfold zfill
          rw [if_neg (fun z => z1 z.1), u2_r z3, u2_r z2]
        have e2 : zfill (u2 (u2 (zfill (u2 (u2 B 2 i l) 3 i (nI sz)) (5 + 1 * i) 0 40 0) 192 i l) 193 i (nI sz)) 194 (40 * i) (40 * i + 40) 0 2 j = if j = i then l else B 2 j := by
          unfold zfill
          rw [if_neg (by omega), u2_r (by omega), u2_r (by omega), if_neg (by omega), u2_r (by omega)]
          by_cases e : j = i
          · subst e; rw [if_pos rfl, u2_s]
          · rw [if_neg e]; exact if_neg (fun z => e z.2)
        have e3 : zfill (u2 (u2 (zfill (u2 (u2 B 2 i l) 3 i (nI sz)) (5 + 1 * i) 0 40 0) 192 i l) 193 i (nI sz)) 194 (40 * i) (40 * i + 40) 0 3 j = if j = i then nI sz else B 3 j := by
          unfold zfill
          rw [if_neg (by omega), u2_r (by omega), u2_r (by omega), if_neg (by omega)]
          by_cases e : j = i
          · subst e; rw [if_pos rfl, u2_s]
          · rw [if_neg e, show u2 (u2 B 2 i l) 3 i (nI sz) 3 j = u2 B 2 i l 3 j from if_neg (fun z => e z.2), u2_r (by omega)]
        have e4 : zfill (u2 (u2 (zfill (u2 (u2 B 2 i l) 3 i (nI sz)) (5 + 1 * i) 0 40 0) 192 i l) 193 i (nI sz)) 194 (40 * i) (40 * i + 40) 0 192 j = if j = i then l else B 192 j := by
          rw [show ∀ G : q_FT, zfill G 194 (40 * i) (40 * i + 40) 0 192 j = G 192 j from fun G => if_neg (by omega), u2_r (by omega)]
          by_cases e : j = i
          · subst e; rw [if_pos rfl, u2_s]
          · rw [if_neg e, show ∀ G : q_FT, u2 G 192 i l 192 j = G 192 j from fun G => if_neg (fun z => e z.2), eA _ _ (by omega) (by omega) (by omega)]
        have e5 : zfill (u2 (u2 (zfill (u2 (u2 B 2 i l) 3 i (nI sz)) (5 + 1 * i) 0 40 0) 192 i l) 193 i (nI sz)) 194 (40 * i) (40 * i + 40) 0 193 j = if j = i then nI sz else B 193 j := by
          rw [show ∀ G : q_FT, zfill G 194 (40 * i) (40 * i + 40) 0 193 j = G 193 j from fun G => if_neg (by omega)]
          by_cases e : j = i
          · subst e; rw [if_pos rfl, u2_s]
          · rw [if_neg e, show ∀ G : q_FT, u2 G 193 i (nI sz) 193 j = G 193 j from fun G => if_neg (fun z => e z.2), u2_r (by omega), eA _ _ (by omega) (by omega) (by omega)]
        have e6 : ∀ q, q < 40 → zfill (u2 (u2 (zfill (u2 (u2 B 2 i l) 3 i (nI sz)) (5 + 1 * i) 0 40 0) 192 i l) 193 i (nI sz)) 194 (40 * i) (40 * i + 40) 0 (5 + 1 * j) q = if j = i then 0 else B (5 + 1 * j) q := fun q hq => by
          rw [show ∀ G : q_FT, zfill G 194 (40 * i) (40 * i + 40) 0 (5 + 1 * j) q = G (5 + 1 * j) q from fun G => if_neg (by omega), u2_r (by omega), u2_r (by omega)]
          by_cases e : j = i
          · subst e; rw [if_pos rfl]; exact if_pos ⟨rfl, by omega, hq⟩
          · rw [if_neg e, eA _ _ (by omega) (by omega) (by omega)]
        have e7 : ∀ q, q < 40 → zfill (u2 (u2 (zfill (u2 (u2 B 2 i l) 3 i (nI sz)) (5 + 1 * i) 0 40 0) 192 i l) 193 i (nI sz)) 194 (40 * i) (40 * i + 40) 0 194 (40 * j + q) = if j = i then 0 else B 194 (40 * j + q) := fun q hq => by
          by_cases e : j = i
          · subst e; rw [if_pos rfl]; exact if_pos ⟨rfl, by omega, by omega⟩
          · rw [if_neg e, show ∀ G : q_FT, zfill G 194 (40 * i) (40 * i + 40) 0 194 (40 * j + q) = G 194 (40 * j + q) from fun G => if_neg (by omega), u2_r (by omega), u2_r (by omega), eA _ _ (by omega) (by omega) (by omega)]
        rw [e2, e3, e4, e5]
        by_cases e : j = i
        · subst e
          refine Or.inr ⟨sz, by omega, ?_⟩
          rw [if_pos rfl, if_pos rfl, if_pos rfl, if_pos rfl]
          refine ⟨rfl, rfl, cl.1, ile2.mpr cl.2, rfl, fun q hq => ?_⟩
          rw [e6 q hq, e7 q hq, if_pos rfl, if_pos rfl]
        · rw [if_neg e, if_neg e, if_neg e, if_neg e]
          rcases r.1 j hj with z | ⟨sz', z0, z1, z2, z3, z4, z5, z6⟩
          · exact Or.inl z
          · refine Or.inr ⟨sz', z0, z1, z2, z3, z4, z5, fun q hq => ?_⟩
            rw [e6 q hq, e7 q hq, if_neg e, if_neg e]
            exact z6 q hq
end OA
