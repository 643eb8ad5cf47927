/-! OPS: feed, ask, walk -/
theorem by_R : ∀ n : Nat, n < 256 → (((Int8.ofBitVec (BitVec.ofNat 8 n)).toInt32 = Int32.ofBitVec (BitVec.ofNat 32 n) ∧ 0 ≤ (Int8.ofBitVec (BitVec.ofNat 8 n)).toInt32) ∨ ((Int8.ofBitVec (BitVec.ofNat 8 n)).toInt32 < 0 ∧ 127 < Int32.ofBitVec (BitVec.ofNat 32 n))) := by decide +kernel
def b8 (w : Int64) (k : Nat) : BitVec 8 := (w.toBitVec >>> (8 * k)).setWidth 8
theorem xbt_1 (w : Int64) : ∀ k : Nat, k < 8 → ((w.toUInt64 >>> ((8 * nI k).toInt64.toUInt64 &&& Int64.toUInt64 63)).toInt64.toInt32.toInt8).toBitVec = ((w.toBitVec >>> (8 * k)).signExtend 32).signExtend 8
  | 0, _ => rfl
  | 1, _ => rfl
  | 2, _ => rfl
  | 3, _ => rfl
  | 4, _ => rfl
  | 5, _ => rfl
  | 6, _ => rfl
  | 7, _ => rfl
  | n + 8, h => absurd h (by omega)
theorem mbt_1 (w : Int64) : ∀ k : Nat, k < 8 → (mbt w k).toBitVec = ((w.toBitVec.sshiftRight (8 * k)) &&& (255#64)).signExtend 32
  | 0, _ => rfl
  | 1, _ => rfl
  | 2, _ => rfl
  | 3, _ => rfl
  | 4, _ => rfl
  | 5, _ => rfl
  | 6, _ => rfl
  | 7, _ => rfl
  | n + 8, h => absurd h (by omega)
theorem g255 : ∀ i : Nat, i < 64 → (255#64).getLsbD i = decide (i < 8) := by decide +kernel
theorem bR_byte (w : Int64) {k : Nat} (hk : k < 8) : bR (xbt w k) (mbt w k) := by
  have e1 : (w.toUInt64 >>> ((8 * nI k).toInt64.toUInt64 &&& Int64.toUInt64 63)).toInt64.toInt32.toInt8 = Int8.ofBitVec (BitVec.ofNat 8 (b8 w k).toNat) := by
    apply Int8.toBitVec_inj.mp
    rw [xbt_1 w k hk]
    show _ = BitVec.ofNat 8 (b8 w k).toNat
    rw [BitVec.ofNat_toNat, BitVec.setWidth_eq]
    unfold b8
    apply BitVec.eq_of_getLsbD_eq
    intro i hi
    rw [BitVec.getLsbD_signExtend, BitVec.getLsbD_signExtend, BitVec.getLsbD_setWidth, if_pos (show i < 32 by omega), if_pos (show i < 64 by omega), decide_eq_true (show i < 32 by omega), decide_eq_true hi, Bool.true_and]
  have e2 : mbt w k = Int32.ofBitVec (BitVec.ofNat 32 (b8 w k).toNat) := by
    apply Int32.toBitVec_inj.mp
    rw [mbt_1 w k hk]
    show _ = BitVec.ofNat 32 (b8 w k).toNat
    rw [BitVec.ofNat_toNat]
    unfold b8
    apply BitVec.eq_of_getLsbD_eq
    intro i hi
    rw [BitVec.getLsbD_signExtend, if_pos (show i < 64 by omega), BitVec.getLsbD_setWidth, BitVec.getLsbD_setWidth, BitVec.getLsbD_and, BitVec.getLsbD_sshiftRight, BitVec.getLsbD_ushiftRight, g255 i (by omega)]
    by_cases h8 : i < 8
    · have h64 : 8 * k + i < 64 := by omega
      simp [h8, hi, h64, show ¬ 64 ≤ i by omega]
    · simp [h8]
  have hx : xbt w k = (Int8.ofBitVec (BitVec.ofNat 8 (b8 w k).toNat)).toInt32 := by
    unfold xbt
    rw [pk_vb, e1]
  rw [hx, e2]
  exact by_R _ (b8 w k).isLt
theorem fdB_f {g : Nat → Int32} {a c : Nat} (h : ¬ c = a) : ∀ (k t : Nat) (B : q_FT), fdB g a k t B c = B c
  | 0, t, B => rfl
  | k + 1, t, B => (fdB_f h k (t + 1) _).trans (u2_r h)
theorem fdB_R {w : Int64} : ∀ (k t : Nat) (B B' : q_FT), k ≤ 8 → (∀ i, bR (B 14 i) (B' 195 i)) → ∀ i, bR (fdB (xbt w) 14 k t B 14 i) (fdB (mbt w) 195 k t B' 195 i)
  | 0, t, B, B', hk, h => h
  | k + 1, t, B, B', hk, h => fdB_R k (t + 1) _ _ (by omega) (fun i => by
      by_cases e : i = t
      · subst e
        rw [u2_s, u2_s]
        exact bR_byte w (by omega)
      · rw [show u2 B 14 t (xbt w k) 14 i = B 14 i from if_neg (fun z => e z.2), show u2 B' 195 t (mbt w k) 195 i = B' 195 i from if_neg (fun z => e z.2)]
        exact h i)
theorem u2_self {F : q_FT} {a j : Nat} {x : Int32} (h : F a j = x) : u2 F a j x = F := by
  funext b k
  unfold u2
  split
  · rename_i z
    rw [z.1, z.2, h]
  · rfl
section OD
variable {S SL : Nat} {xs : Nat → Int32} {F B : q_FT} {C : q_CT}
theorem o_feed (r : RE F B) {w : Int64} {n : Int32} : OK2 S SL xs 10 10 73 117 [some (.ref (0 : Nat)), some (.long w), none, some (.int n), none] [some (.ref (187 : Nat)), some (.long w), none, some (.int n), none] F B C := fun Pc k => by
  obtain ⟨t, ht, h1, h2⟩ := r.2.2.1.1
  have hx := @s_xfeed S 9 Pc SL xs F B C w n t ht
  rw [u2_self h1] at hx
  refine hx.mpr ?_
  by_cases c : 1 ≤ n ∧ n ≤ 8
  · rw [if_neg (not_not_intro c)]
    obtain ⟨q, q1, q8, rfl⟩ := r18 c
    rw [nI_clamp (by omega)]
    by_cases c1 : 400 < t + q
    · rw [if_pos c1]
      refine k _ _ _ _ (fun Pm km => ?_)
      have hm := @s_mfeed S 9 Pm SL xs F B C w (nI q) t ht
      rw [u2_self h2] at hm
      refine hm.mpr ?_
      rw [if_neg (not_not_intro c), nI_clamp (by omega), if_pos c1]
      exact km _ _ _ r
    · rw [if_neg c1]
      refine k _ _ _ _ (fun Pm km => ?_)
      have hm := @s_mfeed S 9 Pm SL xs (u2 F 13 1 (nI (t + q))) (fdB (xbt w) 14 q t B) C w (nI q) t ht
      rw [u2_self (show u2 F 13 1 (nI (t + q)) 187 10 = nI t from (if_neg (by omega)).trans h2)] at hm
      refine hm.mpr ?_
      rw [if_neg (not_not_intro c), nI_clamp (by omega), if_neg c1]
      refine km _ _ _ ?_
      obtain ⟨r1, r2, r3, r4, r5, r6, r7, r8⟩ := r
      have fF : ∀ a j, ¬ (a = 13 ∧ j = 1) → ¬ (a = 187 ∧ j = 10) → u2 (u2 F 13 1 (nI (t + q))) 187 10 (nI (t + q)) a j = F a j := fun a j z1 z2 => (if_neg z2).trans (if_neg z1)
      have fB : ∀ a, ¬ a = 14 → ¬ a = 195 → fdB (mbt w) 195 q t (fdB (xbt w) 14 q t B) a = B a := fun a z1 z2 => (fdB_f z2 _ _ _).trans (fdB_f z1 _ _ _)
      refine ⟨R1_c (fun a h => fB a (by omega) (by omega)) r1, ?_, ⟨⟨t + q, by omega, (if_neg (by omega)).trans u2_s, u2_s⟩, fun i => ?_⟩, ?_, R5_c (fun a j h1 h2 => fF _ _ (by omega) (by omega)) (fF _ _ (by omega) (by omega)) (fun a h1 h2 => fB _ (by omega) (by omega)) (fB _ (by omega) (by omega)) (fB _ (by omega) (by omega)) r5, R6_c (fun a j h1 h2 => fF _ _ (by omega) (by omega)) (fun a h1 h2 => fB _ (by omega) (by omega)) (fB _ (by omega) (by omega)) (fB _ (by omega) (by omega)) r6, R7_c (fF _ _ (by omega) (by omega)) (fF _ _ (by omega) (by omega)) (fB _ (by omega) (by omega)) (fB _ (by omega) (by omega)) r7, R8_c (fun j => fF _ _ (by omega) (by omega)) r8⟩
      · rw [fF 0 7 (by omega) (by omega), fF 187 8 (by omega) (by omega)]
        exact r2
      · rw [fdB_f (show ¬ (14 : Nat) = 195 by omega)]
        exact fdB_R q t B _ q8 (fun i => by rw [fdB_f (show ¬ (195 : Nat) = 14 by omega)]; exact r3.2 i) i
      · rw [fF 13 7 (by omega) (by omega), fF 187 17 (by omega) (by omega)]
        exact r4
  · rw [if_pos c]
    refine k _ _ _ _ (fun Pm km => ?_)
    have hm := @s_mfeed S 9 Pm SL xs F B C w n t ht
    rw [u2_self h2] at hm
    refine hm.mpr ?_
    rw [if_pos c]
    exact km _ _ _ r
theorem wr_f {a b : Nat} (h : ¬ b = a) (l : List Int32) (t : Nat) (B : q_FT) : wr B a t l b = B b := funext fun i => wr_ne h l t B
theorem zl_len {so : Int32} : (zl so).length ≤ 16 := by
  unfold zl
  split
  · decide
  · split
    · decide
    · split <;> decide
theorem ml_len {so : Int32} : (ml so).length ≤ 16 := by
  unfold ml
  split
  · decide
  · split
    · decide
    · split
      · decide
      · split <;> decide
theorem RE_ask {l : List Int32} (hl : l.length ≤ 16) (r : RE F B) : RE (u2 (u2 F 185 2 (nI l.length)) 187 24 (nI l.length)) (wr (wr B 186 0 l) 198 0 l) := by
  obtain ⟨r1, r2, r3, r4, r5, r6, r7, r8⟩ := r
  have fF : ∀ a j, ¬ (a = 185 ∧ j = 2) → ¬ (a = 187 ∧ j = 24) → u2 (u2 F 185 2 (nI l.length)) 187 24 (nI l.length) a j = F a j := fun a j z1 z2 => (if_neg z2).trans (if_neg z1)
  have fB : ∀ a, ¬ a = 186 → ¬ a = 198 → wr (wr B 186 0 l) 198 0 l a = B a := fun a z1 z2 => (wr_f z2 _ _ _).trans (wr_f z1 _ _ _)
  refine ⟨R1_c (fun a h => fB a (by omega) (by omega)) r1, ?_, R3_c (fF _ _ (by omega) (by omega)) (fF _ _ (by omega) (by omega)) (fB _ (by omega) (by omega)) (fB _ (by omega) (by omega)) r3, ?_, R5_c (fun a j h1 h2 => fF _ _ (by omega) (by omega)) (fF _ _ (by omega) (by omega)) (fun a h1 h2 => fB _ (by omega) (by omega)) (fB _ (by omega) (by omega)) (fB _ (by omega) (by omega)) r5, R6_c (fun a j h1 h2 => fF _ _ (by omega) (by omega)) (fun a h1 h2 => fB _ (by omega) (by omega)) (fB _ (by omega) (by omega)) (fB _ (by omega) (by omega)) r6, ⟨l.length, hl, (if_neg (by omega)).trans u2_s, u2_s, fun i hi => ?_⟩, R8_c (fun j => fF _ _ (by omega) (by omega)) r8⟩
  · rw [fF 0 7 (by omega) (by omega), fF 187 8 (by omega) (by omega)]
    exact r2
  · rw [fF 13 7 (by omega) (by omega), fF 187 17 (by omega) (by omega)]
    exact r4
  · have h1 := wr_get (a := 186) l 0 B i hi
    have h2 := wr_get (a := 198) l 0 (wr B 186 0 l) i hi
    rw [Nat.zero_add] at h1 h2
    rw [wr_f (show ¬ (186 : Nat) = 198 by omega), h1, h2]
theorem o_ask (r : RE F B) {x w : Int32} : OK2 S SL xs 10 10 95 187 [some (.ref (0 : Nat)), some (.int x), some (.int w)] [some (.ref (187 : Nat)), some (.int x), some (.int w)] F B C := fun Pc k => by
  obtain ⟨-, -, n, m, p, g, -⟩ := r.2.2.2.2.1
  have hn := g.1.1
  have hs : ∀ x, x < n → B 27 x = 1 ∨ B 27 x = 2 ∨ B 27 x = 3 ∨ B 27 x = 4 ∨ B 27 x = 5 := fun x hx => (g.2.2.2.1 x hx).2.1
  have hs' : ∀ B' : q_FT, B' 188 = B 188 → ∀ x, x < n → B' 188 (4 + 4 * x) = 1 ∨ B' 188 (4 + 4 * x) = 2 ∨ B' 188 (4 + 4 * x) = 3 ∨ B' 188 (4 + 4 * x) = 4 ∨ B' 188 (4 + 4 * x) = 5 := fun B' hB x hx => by
    rw [hB, (g.2.2.2.1 x hx).1.1]
    exact hs x hx
  refine (s_xask (d := 3) g.2.1.1 hn hs).mpr ?_
  by_cases c : (0 ≤ x ∧ x < nI n) ∧ w = 0
  · rw [if_pos c]
    obtain ⟨j, hj, rfl⟩ := q_rng (n := n) (by omega) c.1
    obtain ⟨e1, e2, -, e4⟩ := (g.2.2.2.1 j hj).1
    have hb : wr B 186 0 (zl (B 27 (nI j).toNatClampNeg)) 188 = B 188 := wr_f (by omega) _ _ _
    refine k _ _ _ _ (fun Pm km => (s_mask (d := 3) (n := n) (by rw [hb]; exact g.2.2.1.1) hn (hs' _ hb)).mpr ?_)
    rw [if_pos c, hb]
    rw [nI_clamp (by omega)] at km ⊢
    rw [e1, e2, e4]
    exact km _ _ _ (RE_ask zl_len r)
  · rw [if_neg c]
    by_cases c' : (0 ≤ x ∧ x < nI n) ∧ w = 1
    · rw [if_pos c']
      obtain ⟨j, hj, rfl⟩ := q_rng (n := n) (by omega) c'.1
      obtain ⟨e1, e2, -, e4⟩ := (g.2.2.2.1 j hj).1
      have hb : wr B 186 0 (ml (B 27 (nI j).toNatClampNeg)) 188 = B 188 := wr_f (by omega) _ _ _
      refine k _ _ _ _ (fun Pm km => (s_mask (d := 3) (n := n) (by rw [hb]; exact g.2.2.1.1) hn (hs' _ hb)).mpr ?_)
      rw [if_neg c, if_pos c', hb]
      rw [nI_clamp (by omega)] at km ⊢
      rw [e1, e2, e4]
      exact km _ _ _ (RE_ask ml_len r)
    · rw [if_neg c']
      refine k _ _ _ _ (fun Pm km => (s_mask (d := 3) (n := n) g.2.2.1.1 hn (hs' _ rfl)).mpr ?_)
      rw [if_neg c, if_neg c']
      exact km _ _ _ r
end OD
/-! a walk, told twice -/
theorem w_and : ∀ a : Nat, a < 64 → ∀ b : Nat, b < 64 → (nI a &&& nI b = nI (a &&& b) ∧ nI a ||| nI b = nI (a ||| b) ∧ nI a &&& (nI b ^^^ -1) = nI (a &&& (63 ^^^ b)) ∧ (a &&& b) < 64 ∧ (a ||| b) < 64 ∧ (63 ^^^ b) < 64) := by decide +kernel
theorem w_v : ∀ v : Nat, v < 12 → ((1 : Int32) <<< (nI v >>> (1 &&& 31) &&& 31) = nI (2 ^ (v / 2)) ∧ (nI v &&& 1 = 1 ↔ v % 2 = 1) ∧ sh1 1 (v / 2) = nI (2 ^ (v / 2)) ∧ sh1 (nI (v % 2)) (v / 2) = nI (v % 2 * 2 ^ (v / 2)) ∧ 2 ^ (v / 2) < 64 ∧ v % 2 * 2 ^ (v / 2) < 64) := by decide +kernel
theorem w_t : ∀ x : Nat, x < 6 → ∀ t : Nat, t < 64 → ((2 ^ x &&& t) = (if t.testBit x = true then 2 ^ x else 0) ∧ (¬ (t &&& 2 ^ x) = 0 ↔ t.testBit x = true) ∧ (t.testBit x = false → t &&& (63 ^^^ 2 ^ x) = t) ∧ (mHas (nI t) x ↔ t.testBit x = true)) := by decide +kernel
theorem w_l1 : ∀ x : Nat, x < 6 → ∀ l : Nat, l < 64 → ∀ i : Nat, i < 2 → ((l &&& 2 ^ x = if i = 1 then 2 ^ x else 0) ↔ (l.testBit x = true ↔ i = 1)) := by decide +kernel
theorem w_l2 : ∀ x : Nat, x < 6 → ∀ l : Nat, l < 64 → ∀ i : Nat, i < 2 → (((nI l >>> (nI x &&& 31)) &&& 1 = nI i) ↔ (l.testBit x = true ↔ i = 1)) := by decide +kernel
theorem w_l3 : ∀ x : Nat, x < 6 → ∀ l : Nat, l < 64 → ∀ i : Nat, i < 2 → (i * 2 ^ x &&& (63 ^^^ l)) = (if l.testBit x = true then 0 else i * 2 ^ x) := by decide +kernel
theorem w_l4 : ∀ x : Nat, x < 6 → ∀ i : Nat, i < 2 → (if i = 1 then 2 ^ x else 0) = i * 2 ^ x := by decide +kernel
theorem w_fit : ∀ u : Nat, u < 64 → (1 : Int32) <<< (bcn (nI u) &&& 31) = fitN (nI u) 6 := by decide +kernel
theorem walk_eq {it : Nat → Int32} {vv : Nat → Nat} {cn : Nat → Prop} [DecidablePred cn] {t n : Nat} (ht : t < 64) (hv : ∀ k, k < n → vv k < 12 ∧ it k = nI (vv k)) (hc : ∀ k, k < n → (cn (vv k / 2) ↔ t.testBit (vv k / 2) = true)) : ∀ (r i k l s L : Nat), i + r = n → k < 64 → s < 64 → L < 64 → l = L &&& t → ∃ k' s', k' < 64 ∧ s' < 64 ∧ ∃ a : Int32, cw it (nI t) r i (nI k) (nI l) (nI s) = (a, nI k', nI s') ∧ mw cn vv r i (nI L) (nI k) (nI s) = (a, nI k', nI s')
  | 0, i, k, l, s, L, hi, hk, hs, hL, hl => ⟨k, s, hk, hs, -1000000, rfl, rfl⟩
  | r + 1, i, k, l, s, L, hi, hk, hs, hL, hl => by
    obtain ⟨v12, ev⟩ := hv i (by omega)
    have hx : vv i / 2 < 6 := by omega
    have hi2 : vv i % 2 < 2 := Nat.mod_lt _ (by omega)
    obtain ⟨v1, v2, v3, v4, v5, v6⟩ := w_v (vv i) v12
    have hl64 : l < 64 := by rw [hl]; exact (w_and L hL t ht).2.2.2.1
    obtain ⟨t1, t2, t3, t4⟩ := w_t (vv i / 2) hx t ht
    obtain ⟨k1, k2, k3, k4⟩ := w_t (vv i / 2) hx k hk
    have hcn := hc i (by omega)
    rw [cw, mw, ev]
    have eb : cwb (nI t) (nI (vv i)) = nI (2 ^ (vv i / 2) &&& t) := by
      unfold cwb
      rw [v1]
      exact (w_and _ v5 t ht).1
    have el : cwl (nI t) (nI (vv i)) = nI (if vv i % 2 = 1 then 2 ^ (vv i / 2) &&& t else 0) := by
      unfold cwl
      rw [eb]
      by_cases z : vv i % 2 = 1
      · rw [if_pos z, if_pos (v2.mpr z)]
      · rw [if_neg z, if_neg (fun y => z (v2.mp y))]
        rfl
    rw [eb, el, v3, v4]
    by_cases ct : t.testBit (vv i / 2) = true
    · rw [t1, if_pos ct]
      have lx1 := w_l1 (vv i / 2) hx L hL (vv i % 2) hi2
      have lx2 := w_l2 (vv i / 2) hx L hL (vv i % 2) hi2
      have lk3 := w_l3 (vv i / 2) hx k hk (vv i % 2) hi2
      have lk4 := w_l4 (vv i / 2) hx (vv i % 2) hi2
      have el2 : l &&& 2 ^ (vv i / 2) = L &&& 2 ^ (vv i / 2) := by
        rw [hl, Nat.and_assoc, show t &&& 2 ^ (vv i / 2) = 2 ^ (vv i / 2) by rw [Nat.and_comm, t1, if_pos ct]]
      have hla : (if vv i % 2 = 1 then 2 ^ (vv i / 2) else 0) < 64 := by split <;> omega
      have ec : (¬ nI k &&& nI (2 ^ (vv i / 2)) = 0 ∧ nI l &&& nI (2 ^ (vv i / 2)) = nI (if vv i % 2 = 1 then 2 ^ (vv i / 2) else 0)) ↔ (cn (vv i / 2) ∧ mHas (nI k) (vv i / 2) ∧ (nI L >>> (nI (vv i / 2) &&& 31)) &&& 1 = nI (vv i % 2)) := by
        obtain ⟨p1, -, -, p4, -⟩ := w_and k hk _ v5
        obtain ⟨q1, -, -, q4, -⟩ := w_and l hl64 _ v5
        rw [p1, q1, show (0 : Int32) = nI 0 from rfl, nI_eq (by omega) (by omega), nI_eq (by omega) (by omega), k2, el2, lx1, lx2, hcn, k4]
        exact ⟨fun z => ⟨ct, z.1, z.2⟩, fun z => ⟨z.2.1, z.2.2⟩⟩
      by_cases cd : ¬ nI k &&& nI (2 ^ (vv i / 2)) = 0 ∧ nI l &&& nI (2 ^ (vv i / 2)) = nI (if vv i % 2 = 1 then 2 ^ (vv i / 2) else 0)
      · rw [if_pos cd, if_pos (ec.mp cd)]
        exact ⟨k, s, hk, hs, nI i, rfl, rfl⟩
      · rw [if_neg cd, if_neg (fun z => cd (ec.mpr z)), if_pos (hcn.mpr ct)]
        have hkk := w_and k hk _ v5
        have hll := w_and l hl64 _ v5
        have hll2 := w_and (l &&& (63 ^^^ 2 ^ (vv i / 2))) ((w_and l hl64 _ hll.2.2.2.2.2).2.2.2.1) _ hla
        have hLL := w_and L hL _ v5
        have hLL2 := w_and (L &&& (63 ^^^ 2 ^ (vv i / 2))) ((w_and L hL _ hLL.2.2.2.2.2).2.2.2.1) _ v6
        have hsk := w_and _ hla k hk
        have hlk : (if vv i % 2 = 1 then 2 ^ (vv i / 2) else 0) &&& (63 ^^^ k) < 64 := (w_and _ hla _ (hsk.2.2.2.2.2)).2.2.2.1
        have hss := w_and s hs _ hlk
        have hsf := w_and s hs _ v6
        rw [hkk.2.1, hll.2.2.1, hll2.2.1, hsk.2.2.1, hss.2.1, hLL.2.2.1, hLL2.2.1]
        have ef : (if cn (vv i / 2) ∧ ¬ mHas (nI k) (vv i / 2) then nI s ||| nI (vv i % 2 * 2 ^ (vv i / 2)) else nI s) = nI (s ||| ((if vv i % 2 = 1 then 2 ^ (vv i / 2) else 0) &&& (63 ^^^ k))) := by
          rw [lk4, lk3]
          by_cases z : k.testBit (vv i / 2) = true
          · rw [if_neg (fun y => y.2 (k4.mpr z)), if_pos z, Nat.or_zero]
          · rw [if_pos ⟨hcn.mpr ct, fun y => z (k4.mp y)⟩, if_neg z]
            exact hsf.2.1
        rw [ef]
        refine walk_eq ht hv hc r (i + 1) _ _ _ _ (by omega) hkk.2.2.2.2.1 hss.2.2.2.2.1 hLL2.2.2.2.2.1 ?_
        rw [Nat.and_or_distrib_right, lk4, hl]
        congr 1
        · rw [Nat.and_assoc, Nat.and_assoc, Nat.and_comm t]
        · rcases (show vv i % 2 = 0 ∨ vv i % 2 = 1 by omega) with z | z
          · rw [z, Nat.zero_mul, Nat.zero_and]
          · rw [z, Nat.one_mul, t1, if_pos ct]
    · have ct' : t.testBit (vv i / 2) = false := by simpa using ct
      have hcn' : ¬ cn (vv i / 2) := fun z => ct (hcn.mp z)
      have hLL := w_and L hL _ v5
      have hLL2 := w_and (L &&& (63 ^^^ 2 ^ (vv i / 2))) ((w_and L hL _ hLL.2.2.2.2.2).2.2.2.1) _ v6
      have h1 : ¬ (¬ nI k &&& nI 0 = 0 ∧ nI l &&& nI 0 = nI 0) := fun z => by
        have := z.1
        rw [(w_and k hk 0 (by omega)).1, Nat.and_zero] at this
        exact this rfl
      have h2 : ¬ (cn (vv i / 2) ∧ mHas (nI k) (vv i / 2) ∧ (nI L >>> (nI (vv i / 2) &&& 31)) &&& 1 = nI (vv i % 2)) := fun z => hcn' z.1
      have h3 : ¬ (cn (vv i / 2) ∧ ¬ mHas (nI k) (vv i / 2)) := fun z => hcn' z.1
      rw [t1, if_neg ct, ite_self, if_neg h1, if_neg h2, if_neg hcn', if_neg h3]
      have k0 := w_and k hk 0 (by omega)
      have l0 := w_and l hl64 0 (by omega)
      have z0 := w_and 0 (by omega) k hk
      have s0 := w_and s hs 0 (by omega)
      have e63 : l &&& (63 ^^^ 0) = l := by
        have : ∀ l, l < 64 → l &&& (63 ^^^ 0) = l := by decide
        exact this l hl64
      rw [k0.2.1, l0.2.2.1, e63, l0.2.1, z0.2.2.1, Nat.zero_and, s0.2.1, Nat.or_zero, Nat.or_zero, Nat.or_zero, hLL.2.2.1, hLL2.2.1]
      refine walk_eq ht hv hc r (i + 1) _ _ _ _ (by omega) hk hs hLL2.2.2.2.2.1 ?_
      have e1 : vv i % 2 * 2 ^ (vv i / 2) &&& t = 0 := by
        rcases (show vv i % 2 = 0 ∨ vv i % 2 = 1 by omega) with z | z
        · rw [z, Nat.zero_mul, Nat.zero_and]
        · rw [z, Nat.one_mul, t1, if_neg ct]
      rw [Nat.and_or_distrib_right, e1, Nat.or_zero, Nat.and_assoc, Nat.and_comm _ t, t3 ct', hl]
