/-! OPS: walk, carrier, load -/
theorem i_2x : ∀ x : Nat, x < 6 → (1 : Int32) <<< (nI x &&& 31) = nI (2 ^ x) := by decide +kernel
theorem t_2x : ∀ n : Nat, n < 6 → ∀ t : Nat, t < 64 → t < 2 ^ n → (t ||| 2 ^ n < 2 ^ (n + 1) ∧ (t ||| 2 ^ n) < 64 ∧ ∀ x, x < 6 → ((t ||| 2 ^ n).testBit x = (t.testBit x || decide (x = n)))) := by decide +kernel
theorem t_lt : ∀ n : Nat, n ≤ 6 → ∀ t : Nat, t < 64 → t < 2 ^ n → ∀ x, x < 6 → n ≤ x → t.testBit x = false := by decide +kernel
/-- bits as a number -/
theorem bsum_N {p : Nat → Prop} [DecidablePred p] : ∀ n : Nat, n ≤ 6 → ∃ t, t < 64 ∧ t < 2 ^ n ∧ bsum p n = nI t ∧ ∀ x, x < n → (t.testBit x = true ↔ p x)
  | 0, _ => ⟨0, by omega, by omega, rfl, fun x hx => absurd hx (by omega)⟩
  | n + 1, h => by
    obtain ⟨t, h1, h2, h3, h4⟩ := bsum_N (p := p) n (by omega)
    obtain ⟨q1, q2, q3⟩ := t_2x n (by omega) t h1 h2
    have ht := t_lt n (by omega) t h1 h2
    unfold bsum
    by_cases c : p n
    · rw [if_pos c, h3, i_2x n (by omega), (w_and t h1 (2 ^ n) (by have := Nat.pow_le_pow_right (n := 2) (by omega) (show n ≤ 5 by omega); omega)).2.1]
      refine ⟨t ||| 2 ^ n, q2, q1, rfl, fun x hx => ?_⟩
      rw [q3 x (by omega), Bool.or_eq_true, decide_eq_true_eq]
      rcases Nat.lt_or_ge x n with z | z
      · rw [h4 x z]
        exact ⟨fun y => y.elim id (fun y => absurd y (by omega)), Or.inl⟩
      · have e : x = n := by omega
        subst e
        exact ⟨fun _ => c, fun _ => Or.inr rfl⟩
    · rw [if_neg c, h3]
      refine ⟨t, h1, by have := Nat.pow_le_pow_right (n := 2) (by omega) (show n ≤ n + 1 by omega); omega, rfl, fun x hx => ?_⟩
      rcases Nat.lt_or_ge x n with z | z
      · exact h4 x z
      · have e : x = n := by omega
        subst e
        rw [ht x (by omega) (Nat.le_refl _)]
        exact ⟨fun y => absurd y (by decide), fun y => absurd y c⟩
theorem wEnd {w T a : Int32} {k s : Nat} (hw : 0 ≤ w ∧ w < 3) {t : Nat} (ht : t < 64) (hT : T = nI t) (hk : k < 64) : cwEnd w T (a, nI k, nI s) = mwEnd w T (a, nI k, nI s) := by
  obtain ⟨q, hq, rfl⟩ := q_rng (n := 3) (by omega) hw
  have hu := w_and t ht k hk
  have hu2 := (w_and t ht (63 ^^^ k) hu.2.2.2.2.2).2.2.2.1
  have hf := w_fit _ hu2
  rw [← hu.2.2.1, ← hT] at hf
  unfold cwEnd mwEnd
  dsimp only
  rw [hf]
  rcases (show q = 0 ∨ q = 1 ∨ q = 2 by omega) with rfl | rfl | rfl
  · rw [show nI 0 = (0 : Int32) from rfl]
    by_cases c : a = -1000000 <;> simp [c]
  · rw [show nI 1 = (1 : Int32) from rfl]
    have d1 : ¬ (1 : Int32) = 0 := by decide
    by_cases c : a = -1000000 <;> simp [c]
  · rw [show nI 2 = (2 : Int32) from rfl]
    have d1 : ¬ (2 : Int32) = 0 := by decide
    have d2 : ¬ (2 : Int32) = 1 := by decide
    by_cases c : a = -1000000 <;> simp [c, d1, d2]
section OE
variable {S SL : Nat} {xs : Nat → Int32} {F B : q_FT} {C : q_CT}
theorem o_walk (r : RE F B) {x n w : Int32} : OK2 S SL xs 10 10 90 170 [some (.ref (0 : Nat)), some (.int x), some (.int n), some (.int w), none] [some (.ref (187 : Nat)), some (.int x), some (.int n), some (.int w), none, none, none] F B C := fun Pc k => by
  obtain ⟨l1, l2, nn, m, p, g, -⟩ := r.2.2.2.2.1
  have hn6 := g.1.1
  refine (s_xwalk (d := 7) g.2.1.1 hn6 (R1_sz r.1)).mpr ?_
  have mk := fun Pm (F1 : q_FT) => @s_mwalk S 7 Pm SL xs F1 B C nn g.2.2.1.1 hn6 x n w
  by_cases c0 : F 26 0 = 0
  · rw [if_pos c0]
    refine k _ _ _ _ (fun Pm km => (mk _ _).mpr ?_)
    rw [if_pos (by rw [l2, c0]; decide)]
    exact km _ _ _ r
  · have c0' : ¬ ¬ B 188 0 = 1 := by
      rw [l2]
      exact not_not_intro (l1.elim (fun z => absurd z c0) id)
    rw [if_neg c0]
    have ec : ((0 ≤ x ∧ x < 8) ∧ (0 ≤ n ∧ n ≤ 40) ∧ 0 ≤ w ∧ w < 3) ↔ ((0 ≤ x ∧ x < 8) ∧ (0 ≤ n ∧ n ≤ 40) ∧ 0 ≤ w ∧ w ≤ 2) := by rw [ile2]
    by_cases c1 : (0 ≤ x ∧ x < 8) ∧ (0 ≤ n ∧ n ≤ 40) ∧ 0 ≤ w ∧ w < 3
    · rw [if_neg (not_not_intro c1)]
      obtain ⟨i, hi, rfl⟩ := q_rng (n := 8) (by omega) c1.1
      obtain ⟨q, hq, rfl⟩ := q_rng (n := 41) (by omega) (r := n) ⟨c1.2.1.1, Int32.lt_of_le_of_lt c1.2.1.2 (by decide)⟩
      rw [nI_clamp (n := i) (by omega), nI_clamp (n := q) (by omega)]
      have hm := R1_miss r.1 hi
      by_cases c2 : B 3 i = -1
      · rw [if_pos c2]
        refine k _ _ _ _ (fun Pm km => (mk _ _).mpr ?_)
        rw [if_neg c0', if_neg (not_not_intro (ec.mp c1)), nI_clamp (n := i) (by omega), if_pos (hm.mp c2)]
        exact km _ _ _ (st8 r)
      · rw [if_neg c2]
        rcases r.1 i hi with ⟨z, -⟩ | ⟨sz, z0, z1, z1', -, -, -, z5⟩
        · exact absurd z c2
        · rw [z1]
          by_cases c3 : nI sz < nI q
          · rw [if_pos c3]
            refine k _ _ _ _ (fun Pm km => (mk _ _).mpr ?_)
            rw [if_neg c0', if_neg (not_not_intro (ec.mp c1)), nI_clamp (n := i) (by omega), if_neg (fun z => c2 (hm.mpr z)), z1', if_pos c3]
            exact km _ _ _ (st8 r)
          · rw [if_neg c3]
            have e2n : 2 * nI nn = nI (2 * nn) := by rw [show (2 : Int32) = nI 2 from rfl, pk_mul]
            have em1 : ∀ v : Int32, (v ≤ nI (2 * nn) - 1) ↔ v < nI (2 * nn) := fun v => q_m1 (by omega)
            have es : (∀ k, k < q → 0 ≤ k → 0 ≤ B (5 + 1 * i) k ∧ B (5 + 1 * i) k < 2 * nI nn) ↔ (∀ k, k < q → 0 ≤ k → 0 ≤ B 194 (40 * i + k) ∧ B 194 (40 * i + k) ≤ 2 * nI nn - 1) := by
              constructor
              · intro h k hk hk0
                rw [← z5 k (by omega), e2n, em1, ← e2n]
                exact h k hk hk0
              · intro h k hk hk0
                have := h k hk hk0
                rw [← z5 k (by omega), e2n, em1, ← e2n] at this
                exact this
            by_cases c4 : ∀ k, k < q → 0 ≤ k → 0 ≤ B (5 + 1 * i) k ∧ B (5 + 1 * i) k < 2 * nI nn
            · rw [if_neg (not_not_intro c4)]
              refine k _ _ _ _ (fun Pm km => (mk _ _).mpr ?_)
              rw [if_neg c0', if_neg (not_not_intro (ec.mp c1)), nI_clamp (n := i) (by omega), if_neg (fun z => c2 (hm.mpr z)), z1', if_neg c3, nI_clamp (n := q) (by omega), if_neg (not_not_intro (es.mp c4))]
              have hso : ∀ y, y < nn → B 188 (4 + 4 * y) = B 27 y := fun y hy => (g.2.2.2.1 y hy).1.1
              have e1 : bsum (fun x => B 188 (4 + 4 * x) = 1) nn = bsum (fun x => B 27 x = 1) nn := bsum_c nn (fun y hy => by rw [hso y hy])
              have e2 : bsum (fun x => B 188 (4 + 4 * x) = 2) nn = bsum (fun x => B 27 x = 2) nn := bsum_c nn (fun y hy => by rw [hso y hy])
              have eT : turnM B nn = turnX B nn := by
                show _ ||| _ = _ ||| _
                rw [e1, e2]
              obtain ⟨t1, a1, a2, a3, a4⟩ := bsum_N (p := fun x => B 27 x = 1) nn hn6
              obtain ⟨t2, b1, b2, b3, b4⟩ := bsum_N (p := fun x => B 27 x = 2) nn hn6
              have hor := w_and t1 a1 t2 b1
              have hT : turnX B nn = nI (t1 ||| t2) := by
                show _ ||| _ = _
                rw [a3, b3]
                exact hor.2.1
              have hvv : ∀ k, k < q → (B 194 (40 * i + k)).toNatClampNeg < 12 ∧ B (5 + 1 * i) k = nI (B 194 (40 * i + k)).toNatClampNeg := fun k hk => by
                have := it12 hn6 ((es.mp c4) k hk (by omega))
                exact ⟨this.1, (z5 k (by omega)).trans this.2⟩
              have hvm : ∀ k, k < q → (B 194 (40 * i + k)).toNatClampNeg / 2 < nn := fun k hk => by
                have h1 := (c4 k hk (by omega)).2
                rw [(hvv k hk).2, e2n] at h1
                have h2 := (hvv k hk).1
                have := (nI_ltI (by omega) (by omega)).mp h1
                omega
              obtain ⟨k', s', hk', -, a, w1, w2⟩ := walk_eq (it := B (5 + 1 * i)) (vv := fun k => (B 194 (40 * i + k)).toNatClampNeg) (cn := mCn B) (t := t1 ||| t2) (n := q) hor.2.2.2.2.1 hvv (fun k hk => by
                have hx := hvm k hk
                show mCn B ((B 194 (40 * i + k)).toNatClampNeg / 2) ↔ _
                rw [Nat.testBit_or, Bool.or_eq_true, a4 _ hx, b4 _ hx]
                show (1 ≤ B 188 (4 + 4 * _) ∧ B 188 (4 + 4 * _) ≤ 2) ↔ _
                rw [hso _ hx]
                rcases (g.2.2.2.1 _ hx).2.1 with z | z | z | z | z <;> rw [z] <;> simp <;> decide) q 0 0 0 0 0 (by omega) (by omega) (by omega) (by omega) (by simp)
              rw [eT, show (0 : Int32) = nI 0 from rfl, w2, ← wEnd c1.2.2 hor.2.2.2.2.1 hT hk']
              rw [hT, show (0 : Int32) = nI 0 from rfl, w1] at km
              rw [hT]
              refine km _ _ _ (RE_f r ?_ (fun a j h1 h2 h3 => ?_) (fun a _ => rfl))
              · rw [u2_s]
                unfold mwF
                rw [show ∀ (A : q_FT) k v, u2 A 187 k v 0 7 = A 0 7 from fun A k v => if_neg (by omega), show ∀ (A : q_FT) k v, u2 A 187 k v 0 7 = A 0 7 from fun A k v => if_neg (by omega), show ∀ (A : q_FT) k v, u2 A 187 k v 0 7 = A 0 7 from fun A k v => if_neg (by omega), u2_s]
              · unfold mwF
                rw [show ∀ (A : q_FT) v, u2 A 187 8 v a j = A a j from fun A v => if_neg (by omega), show ∀ (A : q_FT) v, u2 A 187 22 v a j = A a j from fun A v => if_neg (by omega), show ∀ (A : q_FT) v, u2 A 187 21 v a j = A a j from fun A v => if_neg (by omega)]
                exact if_neg h2
            · rw [if_pos c4]
              refine k _ _ _ _ (fun Pm km => (mk _ _).mpr ?_)
              rw [if_neg c0', if_neg (not_not_intro (ec.mp c1)), nI_clamp (n := i) (by omega), if_neg (fun z => c2 (hm.mpr z)), z1', if_neg c3, nI_clamp (n := q) (by omega), if_pos (fun z => c4 (es.mpr z))]
              exact km _ _ _ r
    · rw [if_pos c1]
      refine k _ _ _ _ (fun Pm km => (mk _ _).mpr ?_)
      rw [if_neg c0', if_pos (fun z => c1 (ec.mpr z))]
      exact km _ _ _ r
/-- what class and model hold of the land, one beside the other -/
theorem L_so {n m p : Nat} (g : GR F B 26 (B 188) n m p) {q : Int32} : bsum (fun x => B 188 (4 + 4 * x) = q) n = bsum (fun x => B 27 x = q) n := bsum_c n (fun y hy => by rw [(g.2.2.2.1 y hy).1.1])
theorem L_next {n m p c : Nat} (g : GR F B 26 (B 188) n m p) (s : SR F B 32 (fun j => B 188 (32 + j)) n m p (B 27)) (hc : c < m) : mNext B n c = B 35 c ||| F 32 5 := by
  have h1 := (s.1 c hc).2.2.2.2
  have h2 := s.2.2.2.2.1
  show (B 188 (38 + c) &&& _) ||| (B 188 41 &&& _) = _
  rw [L_so g, L_so g, h2]
  rw [show 38 + c = 32 + (6 + c) by omega]
  rw [← h1]
theorem L_oth {n m p x : Nat} {t : Int32} (g : GR F B 26 (B 188) n m p) (s : SR F B 32 (fun j => B 188 (32 + j)) n m p (B 27)) (hx : x < n) : mOth B x t = if mHas (F 32 4) x then xOth B x t else -1000000 := by
  obtain ⟨-, e2, e3, -⟩ := (g.2.2.2.1 x hx).1
  have h4 : F 32 4 = B 188 42 := s.2.2.2.1
  unfold mOth
  rw [e2, e3, h4]
  by_cases c : mHas (B 188 42) x
  · rw [if_neg (not_not_intro c), if_pos c]
  · rw [if_pos c, if_neg c]
theorem L_may {n m p c x : Nat} (g : GR F B 26 (B 188) n m p) (s : SR F B 32 (fun j => B 188 (32 + j)) n m p (B 27)) (hx : x < n) (hc : c < m) : xMay F B c x ↔ mMay B n c x := by
  obtain ⟨e1, -⟩ := (g.2.2.2.1 x hx).1
  obtain ⟨-, h1, h2, -⟩ := s.1 c hc
  have h1' : B 188 (32 + c) = B 33 c := h1
  have h2' : B 188 (35 + c) = B 34 c := by rw [show 35 + c = 32 + (3 + c) by omega]; exact h2
  unfold xMay mMay xLets mLets
  rw [L_oth g s hx, L_next g s hc, e1, h1', h2', mHas_0]
  by_cases c1 : mHas (F 32 4) x
  · rw [if_pos c1]
    exact ⟨fun z => z.2, fun z => ⟨not_not_intro c1, z⟩⟩
  · rw [if_neg c1]
    exact ⟨fun z => absurd c1 z.1, fun z => absurd rfl z.1⟩
theorem xA_of {n m p k c : Nat} (g : GR F B 26 (B 188) n m p) (a : AR F B k c n m p) : xA F k c n m p := ⟨a.1, a.2.1, a.2.2.1, a.2.2.2.1, g.2.1.1, g.1.1, g.2.1.2.1, g.1.2.1, g.2.1.2.2, g.1.2.2⟩
theorem mA_of {F1 B1 : q_FT} {n m p k c : Nat} (g : GR F B 26 (B 188) n m p) (a : AR F B k c n m p) (hF : F1 187 4 = F 187 4) (hB : B1 188 = B 188) : mA F1 B1 c n m p := by
  refine ⟨a.2.1, hF.trans a.2.2.2.2.1, ?_, g.1.1, ?_, g.1.2.1, ?_, g.1.2.2⟩
  · rw [hB]; exact g.2.2.1.1
  · rw [hB]; exact g.2.2.1.2.1
  · rw [hB]; exact g.2.2.1.2.2
theorem o_carrier (r : RE F B) {y w : Int32} : OK2 S SL xs 10 10 83 150 [some (.ref (0 : Nat)), some (.int y), some (.int w)] [some (.ref (187 : Nat)), some (.int y), some (.int w)] F B C := fun Pc k => by
  obtain ⟨-, -, n, m, p, g, s, kk, c, a⟩ := r.2.2.2.2.1
  have hs : ∀ x, x < n → B 27 x = 1 ∨ B 27 x = 2 ∨ B 27 x = 3 ∨ B 27 x = 4 ∨ B 27 x = 5 := fun x hx => (g.2.2.2.1 x hx).2.1
  have hs' : ∀ x, x < n → B 188 (4 + 4 * x) = 1 ∨ B 188 (4 + 4 * x) = 2 ∨ B 188 (4 + 4 * x) = 3 ∨ B 188 (4 + 4 * x) = 4 ∨ B 188 (4 + 4 * x) = 5 := fun x hx => by rw [(g.2.2.2.1 x hx).1.1]; exact hs x hx
  refine (s_xcarrier (d := 7) (xA_of g a) hs).mpr (k _ _ _ _ (fun Pm km => (s_mcarrier (d := 5) (mA_of g a rfl rfl) hs').mpr ?_))
  by_cases cy : 0 ≤ y ∧ y < nI m
  · have hm3 := g.1.2.1
    obtain ⟨i, hi, rfl⟩ := q_rng (n := m) (by omega) cy
    rw [if_neg (not_not_intro cy), nI_clamp (by omega)] at km ⊢
    obtain ⟨-, h1, h2, -, h3⟩ := s.1 i hi
    have h1' : B 188 (32 + i) = B 33 i := h1
    have h2' : B 188 (35 + i) = B 34 i := by rw [show 35 + i = 32 + (3 + i) by omega]; exact h2
    have h3' : B 188 (38 + i) &&& bsum (fun x => B 188 (4 + 4 * x) = 1) n = B 35 i := by rw [L_so g, show 38 + i = 32 + (6 + i) by omega]; exact h3.symm
    have h4 : bsum (fun x => mMay B n i x) n = bsum (fun x => xMay F B i x) n := bsum_c n (fun x hx => (L_may g s hx hi).symm)
    rw [h4, h3', h1', h2']
    exact km _ _ _ r
  · rw [if_pos cy] at km ⊢
    exact km _ _ _ r
theorem ff_fl {P Q : Nat → Prop} [DecidablePred P] [DecidablePred Q] {m : Nat} (hPQ : ∀ c, c < m → (P c ↔ Q c)) (hu : ∀ c c', c < m → c' < m → P c → P c' → c = c') : ffirst P m 0 = flast Q m := by
  have hf : ∀ j k, (∃ c, k ≤ c ∧ c < k + j ∧ P c ∧ (∀ c', k ≤ c' → c' < c → ¬ P c') ∧ ffirst P j k = nI c) ∨ ((∀ c, k ≤ c → c < k + j → ¬ P c) ∧ ffirst P j k = -1000000) := by
    intro j
    induction j with
    | zero => exact fun k => Or.inr ⟨fun c h1 h2 => absurd h1 (by omega), rfl⟩
    | succ j ih =>
      intro k
      unfold ffirst
      by_cases c : P k
      · rw [if_pos c]
        exact Or.inl ⟨k, Nat.le_refl _, by omega, c, fun c' h1 h2 => absurd h1 (by omega), rfl⟩
      · rw [if_neg c]
        rcases ih (k + 1) with ⟨c', h1, h2, h3, h4, h5⟩ | ⟨h1, h2⟩
        · refine Or.inl ⟨c', by omega, by omega, h3, fun c'' q1 q2 => ?_, h5⟩
          rcases Nat.lt_or_ge k c'' with z | z
          · exact h4 c'' (by omega) q2
          · rw [show c'' = k by omega]
            exact c
        · refine Or.inr ⟨fun c' q1 q2 => ?_, h2⟩
          rcases Nat.lt_or_ge k c' with z | z
          · exact h1 c' (by omega) (by omega)
          · rw [show c' = k by omega]
            exact c
  have hl : ∀ n, (∃ c, c < n ∧ Q c ∧ flast Q n = nI c) ∨ ((∀ c, c < n → ¬ Q c) ∧ flast Q n = -1000000) := by
    intro n
    induction n with
    | zero => exact Or.inr ⟨fun c h => absurd h (by omega), rfl⟩
    | succ n ih =>
      unfold flast
      by_cases c : Q n
      · rw [if_pos c]
        exact Or.inl ⟨n, by omega, c, rfl⟩
      · rw [if_neg c]
        rcases ih with ⟨c', h1, h2, h3⟩ | ⟨h1, h2⟩
        · exact Or.inl ⟨c', by omega, h2, h3⟩
        · refine Or.inr ⟨fun c' q => ?_, h2⟩
          rcases Nat.lt_or_ge c' n with z | z
          · exact h1 c' z
          · rw [show c' = n by omega]
            exact c
  rcases hf m 0 with ⟨c, -, h2, h3, -, h5⟩ | ⟨h1, h2⟩
  · rcases hl m with ⟨c', q1, q2, q3⟩ | ⟨q1, q2⟩
    · rw [h5, q3, hu c c' (by omega) q1 h3 ((hPQ c' q1).mpr q2)]
    · exact absurd ((hPQ c (by omega)).mp h3) (q1 c (by omega))
  · rcases hl m with ⟨c', q1, q2, q3⟩ | ⟨q1, q2⟩
    · exact absurd ((hPQ c' q1).mpr q2) (h1 c' (by omega) (by omega))
    · rw [h2, q2]
/-- who has a load, told twice -/
theorem L_who {n m p l : Nat} (s : SR F B 32 (fun j => B 188 (32 + j)) n m p (B 27)) (hl : l < 4) : flast (fun c => B 188 (35 + c) = nI l) m = ffirst (fun c => B 34 c = nI l) m 0 := by
  symm
  refine ff_fl (fun c hc => ?_) (fun c c' hc hc' h1 h2 => s.2.1 c c' hc hc' (h1.trans h2.symm) (by rw [show B (32 + 2) c = nI l from h1]; exact nI_none (by omega)))
  have h2 := (s.1 c hc).2.2.1
  have h2' : B 188 (35 + c) = B 34 c := by rw [show 35 + c = 32 + (3 + c) by omega]; exact h2
  rw [h2']
theorem o_load (r : RE F B) {y w : Int32} : OK2 S SL xs 10 10 84 152 [some (.ref (0 : Nat)), some (.int y), some (.int w)] [some (.ref (187 : Nat)), some (.int y), some (.int w)] F B C := fun Pc k => by
  obtain ⟨-, -, n, m, p, g, s, kk, c, a⟩ := r.2.2.2.2.1
  refine (s_xload (d := 7) (xA_of g a)).mpr (k _ _ _ _ (fun Pm km => (s_mload (d := 5) (mA_of g a rfl rfl)).mpr ?_))
  by_cases cy : 0 ≤ y ∧ y < nI p
  · have hp4 := g.1.2.2
    obtain ⟨i, hi, rfl⟩ := q_rng (n := p) (by omega) cy
    rw [if_neg (not_not_intro cy), nI_clamp (by omega)] at km ⊢
    have h1 := (s.2.2.1 i hi).1
    have h1' : B 188 (43 + i) = B 36 i := by rw [show 43 + i = 32 + (11 + i) by omega]; exact h1
    have h2 : B 188 (28 + i) = B 31 i := (g.2.2.2.2 i hi).1
    rw [h1', h2, L_who s (by omega)]
    exact km _ _ _ r
  · rw [if_pos cy] at km ⊢
    exact km _ _ _ r
end OE
