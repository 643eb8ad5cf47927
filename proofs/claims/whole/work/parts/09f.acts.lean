/-! OPS: acts are kept alike -/
section OF
variable {F B F2 B2 : q_FT} {k c n m p : Nat}
theorem kF_37a : kF F k c 37 2 = nI ((k + 1) % 24)  := by
  unfold kF
  exact (if_neg (by omega)).trans u2_s
theorem kF_37b : kF F k c 37 1 = nI (if c < 24 then c + 1 else 24) := u2_s
theorem kF_o {a j : Nat} (h : ¬ (a = 39 + 5 * k ∧ 4 ≤ j ∧ j ≤ 6)) (h2 : ¬ (a = 37 ∧ (j = 1 ∨ j = 2))) : kF F k c a j = F a j := by
  unfold kF stF
  rw [show ∀ (A : q_FT) v, u2 A 37 1 v a j = A a j from fun A v => if_neg (by omega), show ∀ (A : q_FT) v, u2 A 37 2 v a j = A a j from fun A v => if_neg (by omega), fc_ne (by omega), fc_ne (by omega), fc_ne (by omega)]
theorem kF_s {j : Nat} (h1 : 4 ≤ j) (h2 : j ≤ 6) : kF F k c (39 + 5 * k) j = F 32 j := by
  unfold kF stF
  rw [show ∀ (A : q_FT) v, u2 A 37 1 v (39 + 5 * k) j = A (39 + 5 * k) j from fun A v => if_neg (by omega), show ∀ (A : q_FT) v, u2 A 37 2 v (39 + 5 * k) j = A (39 + 5 * k) j from fun A v => if_neg (by omega)]
  rcases (show j = 4 ∨ j = 5 ∨ j = 6 by omega) with rfl | rfl | rfl
  · rw [fc_ne (by omega), fc_ne (by omega), fc_eq]
  · rw [fc_ne (by omega), fc_eq, fc_ne (by omega)]
  · rw [fc_eq, fc_ne (by omega), fc_ne (by omega)]
theorem ac_f {b a q e : Nat} (h : ¬ e = a) : ac B b a q e = B e := funext fun i => ac_ne h
theorem kB_o {a : Nat} (h : ¬ (39 + 5 * k + 1 ≤ a ∧ a ≤ 39 + 5 * k + 4)) : kB B k a = B a := by
  unfold kB stB
  rw [ac_f (by omega), ac_f (by omega), ac_f (by omega), ac_f (by omega)]
theorem kB_s {q j : Nat} (h1 : 1 ≤ q) (h2 : q ≤ 4) (hj : j < 4) (h3 : q = 4 ∨ j < 3) : kB B k (39 + 5 * k + q) j = B (32 + q) j := by
  unfold kB stB
  rcases (show q = 1 ∨ q = 2 ∨ q = 3 ∨ q = 4 by omega) with rfl | rfl | rfl | rfl
  · rw [ac_f (by omega), ac_f (by omega), ac_f (by omega), ac_lt (by omega)]
  · rw [ac_f (by omega), ac_f (by omega), ac_lt (by omega), ac_f (by omega)]
  · rw [ac_f (by omega), ac_lt (by omega), ac_f (by omega), ac_f (by omega)]
  · rw [ac_lt (by omega), ac_f (by omega), ac_f (by omega), ac_f (by omega)]
theorem mK_f {a : Nat} (h : ¬ a = 191) : mK B c a = B a := by
  unfold mK
  split
  · exact funext fun i => (bc_ne h).trans (bc_ne h)
  · exact funext fun i => bc_ne h
theorem mK_c {B1 : q_FT} (h1 : B1 188 = B 188) (h2 : B1 191 = B 191) : mK B1 c 191 = mK B c 191 := by
  unfold mK
  split
  · funext i
    unfold bc
    rw [h1, h2]
  · funext i
    unfold bc
    rw [h1, h2]
theorem mK_24 {i j : Nat} (hj : j < 16) (hi : i < 24) (hc : c = 24) : mK B c 191 (16 * i + j) = if i < 23 then B 191 (16 * (i + 1) + j) else B 188 (32 + j) := by
  unfold mK
  rw [if_pos hc]
  unfold bc
  by_cases z : i < 23
  · rw [if_neg (by omega), if_pos (by omega), if_pos z, show 16 + (16 * i + j - 0) = 16 * (i + 1) + j by omega]
  · rw [if_pos (by omega), if_neg z, if_neg (by omega), show 16 * i + j - 368 = j by omega]
theorem mK_lt {i j : Nat} (hj : j < 16) (hi : i ≤ c) (hc : ¬ c = 24) : mK B c 191 (16 * i + j) = if i < c then B 191 (16 * i + j) else B 188 (32 + j) := by
  unfold mK
  rw [if_neg hc]
  unfold bc
  by_cases z : i < c
  · rw [if_neg (by omega), if_pos z]
  · rw [if_pos (by omega), if_neg z, show 16 * i + j - 16 * c = j by omega]
theorem AR_keep (hm : m ≤ 3) (hp : p ≤ 4) (a : AR F B k c n m p) (s : SR F B 32 (fun j => B 188 (32 + j)) n m p (B 27)) (hF : ∀ x j, 37 ≤ x → x ≤ 158 → F2 x j = kF F k c x j) (f4 : F2 187 4 = nI (if c = 24 then 24 else c + 1)) (hB : ∀ x, 37 ≤ x → x ≤ 158 → B2 x = kB B k x) (h191 : B2 191 = mK B c 191) (h27 : B2 27 = B 27) : AR F2 B2 ((k + 1) % 24) (if c < 24 then c + 1 else 24) n m p := by
  obtain ⟨a1, a2, a3, a4, a5, a6⟩ := a
  have ec : (if c = 24 then 24 else c + 1) = if c < 24 then c + 1 else 24 := by
    by_cases z : c = 24
    · rw [if_pos z, if_neg (by omega)]
    · rw [if_neg z, if_pos (by omega)]
  refine ⟨Nat.mod_lt _ (by omega), ?_, (hF _ _ (by omega) (by omega)).trans kF_37a, (hF _ _ (by omega) (by omega)).trans kF_37b, by rw [f4, ec], fun i hi => ?_⟩
  · split <;> omega
  · rw [h27, h191]
    have old : ∀ sl i', sl < 24 → ¬ sl = k → (∀ j, j < 16 → mK B c 191 (16 * i + j) = B 191 (16 * i' + j)) → SR F B (39 + 5 * sl) (fun j => B 191 (16 * i' + j)) n m p (B 27) → SR F2 B2 (39 + 5 * sl) (fun j => mK B c 191 (16 * i + j)) n m p (B 27) := fun sl i' h1 h2 h3 h4 => by
      have fo : ∀ j, F2 (39 + 5 * sl) j = F (39 + 5 * sl) j := fun j => (hF _ _ (by omega) (by omega)).trans (kF_o (by omega) (by omega))
      have bo : ∀ q, 1 ≤ q → q ≤ 4 → B2 (39 + 5 * sl + q) = B (39 + 5 * sl + q) := fun q z1 z2 => (hB _ (by omega) (by omega)).trans (kB_o (by omega))
      exact SR_c hm hp (fo 4) (fo 5) (fo 6) (fun j _ => by rw [bo 1 (by omega) (by omega)]) (fun j _ => by rw [bo 2 (by omega) (by omega)]) (fun j _ => by rw [bo 3 (by omega) (by omega)]) (fun j _ => by rw [bo 4 (by omega) (by omega)]) h3 (fun _ _ => rfl) h4
    have new : (∀ j, j < 16 → mK B c 191 (16 * i + j) = B 188 (32 + j)) → SR F2 B2 (39 + 5 * k) (fun j => mK B c 191 (16 * i + j)) n m p (B 27) := fun h3 => by
      have fn : ∀ j, 4 ≤ j → j ≤ 6 → F2 (39 + 5 * k) j = F 32 j := fun j z1 z2 => (hF _ _ (by omega) (by omega)).trans (kF_s z1 z2)
      have bn : ∀ q, 1 ≤ q → q ≤ 4 → ∀ j, j < 4 → (q = 4 ∨ j < 3) → B2 (39 + 5 * k + q) j = B (32 + q) j := fun q z1 z2 j z3 z4 => by
        rw [hB _ (by omega) (by omega)]
        exact kB_s z1 z2 z3 z4
      exact SR_c hm hp (fn 4 (by omega) (by omega)) (fn 5 (by omega) (by omega)) (fn 6 (by omega) (by omega)) (fun j hj => bn 1 (by omega) (by omega) j (by omega) (Or.inr hj)) (fun j hj => bn 2 (by omega) (by omega) j (by omega) (Or.inr hj)) (fun j hj => bn 3 (by omega) (by omega) j (by omega) (Or.inr hj)) (fun j hj => bn 4 (by omega) (by omega) j hj (Or.inl rfl)) h3 (fun _ _ => rfl) s
    by_cases z : c < 24
    · rw [if_pos z] at hi ⊢
      have es : ((k + 1) % 24 + 24 - (c + 1) + i) % 24 = (k + 24 - c + i) % 24 := by omega
      rw [es]
      rcases Nat.lt_or_ge i c with y | y
      · exact old _ i (Nat.mod_lt _ (by omega)) (by omega) (fun j hj => by rw [mK_lt hj (by omega) (by omega), if_pos y]) (a6 i y)
      · have e : (k + 24 - c + i) % 24 = k := by omega
        rw [e]
        exact new (fun j hj => by rw [mK_lt hj (by omega) (by omega), if_neg (by omega)])
    · rw [if_neg z] at hi ⊢
      have ec' : c = 24 := by omega
      rcases Nat.lt_or_ge i 23 with y | y
      · have es : ((k + 1) % 24 + 24 - 24 + i) % 24 = (k + 24 - c + (i + 1)) % 24 := by omega
        rw [es]
        exact old _ (i + 1) (Nat.mod_lt _ (by omega)) (by omega) (fun j hj => by rw [mK_24 hj hi ec', if_pos y]) (a6 (i + 1) (by omega))
      · have es : ((k + 1) % 24 + 24 - 24 + i) % 24 = k := by omega
        rw [es]
        exact new (fun j hj => by rw [mK_24 hj hi ec', if_neg (by omega)])
theorem RE_act {k' c' : Nat} (r : RE F B) (hF : ∀ a j, ¬ (32 ≤ a ∧ a ≤ 158) → ¬ (a = 187 ∧ j = 4) → F2 a j = F a j) (hB : ∀ a, ¬ (33 ≤ a ∧ a ≤ 158) → ¬ a = 188 → ¬ a = 191 → B2 a = B a) (h188 : ∀ j, j < 32 → B2 188 j = B 188 j) (g : GR F B 26 (B 188) n m p) (s : SR F2 B2 32 (fun j => B2 188 (32 + j)) n m p (B 27)) (a : AR F2 B2 k' c' n m p) : RE F2 B2 := by
  obtain ⟨r1, r2, r3, r4, r5, r6, r7, r8⟩ := r
  have b27 : B2 27 = B 27 := hB _ (by omega) (by omega) (by omega)
  refine ⟨R1_c (fun a h => hB a (by omega) (by omega) (by omega)) r1, ?_, R3_c (hF _ _ (by omega) (by omega)) (hF _ _ (by omega) (by omega)) (hB _ (by omega) (by omega) (by omega)) (hB _ (by omega) (by omega) (by omega)) r3, ?_, ⟨?_, ?_, n, m, p, GR_c (hF _ _ (by omega) (by omega)) (hF _ _ (by omega) (by omega)) (hF _ _ (by omega) (by omega)) (fun j _ => by rw [hB 27 (by omega) (by omega) (by omega)]) (fun j _ => by rw [hB 28 (by omega) (by omega) (by omega)]) (fun j _ => by rw [hB 29 (by omega) (by omega) (by omega)]) (fun j _ => by rw [hB 30 (by omega) (by omega) (by omega)]) (fun j _ => by rw [hB 31 (by omega) (by omega) (by omega)]) (fun j _ h => h188 j h) g, by rw [b27]; exact s, k', c', a⟩, R6_c (fun a j h1 h2 => hF _ _ (by omega) (by omega)) (fun a h1 h2 => hB _ (by omega) (by omega) (by omega)) (hB _ (by omega) (by omega) (by omega)) (hB _ (by omega) (by omega) (by omega)) r6, R7_c (hF _ _ (by omega) (by omega)) (hF _ _ (by omega) (by omega)) (hB _ (by omega) (by omega) (by omega)) (hB _ (by omega) (by omega) (by omega)) r7, R8_c (fun j => hF _ _ (by omega) (by omega)) r8⟩
  · rw [hF 0 7 (by omega) (by omega), hF 187 8 (by omega) (by omega)]
    exact r2
  · rw [hF 13 7 (by omega) (by omega), hF 187 17 (by omega) (by omega)]
    exact r4
  · rw [hF 26 0 (by omega) (by omega)]
    exact r5.1
  · rw [hF 26 0 (by omega) (by omega), h188 0 (by omega)]
    exact r5.2.1
theorem ax_i (a b e : Int32) : (a ^^^ b) &&& e = (a &&& e) ^^^ (b &&& e) := by
  apply Int32.toBitVec_inj.mp
  rw [Int32.toBitVec_and, Int32.toBitVec_xor, Int32.toBitVec_xor, Int32.toBitVec_and, Int32.toBitVec_and]
  apply BitVec.eq_of_getLsbD_eq
  intro i hi
  rw [BitVec.getLsbD_and, BitVec.getLsbD_xor, BitVec.getLsbD_xor, BitVec.getLsbD_and, BitVec.getLsbD_and]
  cases a.toBitVec.getLsbD i <;> cases b.toBitVec.getLsbD i <;> cases e.toBitVec.getLsbD i <;> rfl
/-- a bit of a set is in it -/
theorem bs_in {q : Nat → Prop} [DecidablePred q] {x : Nat} (hn : n ≤ 6) (hx : x < n) (h : q x) : ((1 : Int32) <<< (nI x &&& 31)) &&& bsum q n = (1 : Int32) <<< (nI x &&& 31) := by
  obtain ⟨t, t1, t2, t3, t4⟩ := bsum_N (p := q) n hn
  have hx6 : x < 6 := by omega
  have hp : 2 ^ x < 64 := by have := Nat.pow_le_pow_right (n := 2) (by omega) (show x ≤ 5 by omega); omega
  rw [t3, i_2x x hx6, (w_and _ hp t t1).1, (w_t x hx6 t t1).1, if_pos ((t4 x hx).mpr h)]
theorem all_in : ∀ n : Nat, n ≤ 6 → ∀ t : Nat, t < 64 → t < 2 ^ n → (((1 : Int32) <<< (nI n &&& 31)) - 1) &&& nI t = nI t := by decide +kernel
theorem bs_all {q : Nat → Prop} [DecidablePred q] (hn : n ≤ 6) : (((1 : Int32) <<< (nI n &&& 31)) - 1) &&& bsum q n = bsum q n := by
  obtain ⟨t, t1, t2, t3, -⟩ := bsum_N (p := q) n hn
  rw [t3]
  exact all_in n hn t t1 t2
end OF
