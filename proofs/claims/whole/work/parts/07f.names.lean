/-! NAMES: a name as a number, as bytes -/
def dv (f : Nat → Nat) : Nat → Nat
  | 0 => 0
  | k + 1 => dv f k * 256 + f k
theorem dv_lt {f : Nat → Nat} : ∀ k : Nat, (∀ i, i < k → f i < 256) → dv f k < 256 ^ k
  | 0, _ => by simp [dv]
  | k + 1, h => by
    have ih := dv_lt k (fun i hi => h i (by omega))
    have h1 := h k (by omega)
    unfold dv
    rw [Nat.pow_succ]
    omega
theorem dv_pos {f : Nat → Nat} (h0 : f 0 ≠ 0) : ∀ k : Nat, 0 < dv f (k + 1)
  | 0 => by unfold dv; unfold dv; omega
  | k + 1 => by
    have ih := dv_pos h0 k
    rw [dv]
    omega
theorem dv_inj {f g : Nat → Nat} (hf : f 0 ≠ 0) (hg : g 0 ≠ 0) : ∀ a c : Nat, (∀ i, i < a → f i < 256) → (∀ i, i < c → g i < 256) → dv f a = dv g c → a = c ∧ ∀ i, i < a → f i = g i
  | 0, 0, _, _, _ => ⟨rfl, fun i hi => absurd hi (by omega)⟩
  | 0, c + 1, _, _, h => by
    have := dv_pos hg c
    rw [← h] at this
    exact absurd this (by simp [dv])
  | a + 1, 0, _, _, h => by
    have := dv_pos hf a
    rw [h] at this
    exact absurd this (by simp [dv])
  | a + 1, c + 1, ha, hc, h => by
    have h1 := ha a (by omega)
    have h2 := hc c (by omega)
    rw [dv, dv] at h
    have e1 : f a = g c := by omega
    have e2 : dv f a = dv g c := by omega
    obtain ⟨e3, e4⟩ := dv_inj hf hg a c (fun i hi => ha i (by omega)) (fun i hi => hc i (by omega)) e2
    subst e3
    refine ⟨rfl, fun i hi => ?_⟩
    rcases Nat.lt_or_ge i a with z | z
    · exact e4 i z
    · rw [show i = a by omega]
      exact e1
theorem i64_inj {x y : Nat} (hx : x < 2 ^ 64) (hy : y < 2 ^ 64) (h : Int64.ofNat x = Int64.ofNat y) : x = y := by
  have h1 : BitVec.ofNat 64 x = BitVec.ofNat 64 y := congrArg Int64.toBitVec h
  have h2 := congrArg BitVec.toNat h1
  rwa [BitVec.toNat_ofNat, BitVec.toNat_ofNat, Nat.mod_eq_of_lt hx, Nat.mod_eq_of_lt hy] at h2
theorem sh8 {m c : Nat} (hm : m < 2 ^ 56) (hc : c < 256) : (Int64.ofNat m <<< (Int32.toInt64 8 &&& 63)) ||| Int64.ofNat c = Int64.ofNat (m * 256 + c) := by
  have e8 : (Int32.toInt64 8 &&& 63 : Int64) = 8 := of_decide_eq_true rfl
  rw [e8]
  apply Int64.toBitVec_inj.mp
  have e1 : ((Int64.ofNat m <<< (8 : Int64)) ||| Int64.ofNat c).toBitVec = (BitVec.ofNat 64 m <<< (8 : Nat)) ||| BitVec.ofNat 64 c := rfl
  rw [e1]
  show _ = BitVec.ofNat 64 (m * 256 + c)
  apply BitVec.eq_of_toNat_eq
  rw [BitVec.toNat_or, BitVec.toNat_shiftLeft, BitVec.toNat_ofNat, BitVec.toNat_ofNat, BitVec.toNat_ofNat, Nat.mod_eq_of_lt (show m < 2 ^ 64 by omega), Nat.mod_eq_of_lt (show c < 2 ^ 64 by omega), Nat.mod_eq_of_lt (show m * 256 + c < 2 ^ 64 by omega), Nat.shiftLeft_eq, Nat.mod_eq_of_lt (show m * 2 ^ 8 < 2 ^ 64 by omega), ← Nat.shiftLeft_eq, ← Nat.shiftLeft_add_eq_or_of_lt (show c < 2 ^ 8 by omega), Nat.shiftLeft_eq]
theorem let64 : ∀ c : Nat, c < 128 → (nI c).toInt64 = Int64.ofNat c := by decide +kernel
theorem nI_subN {a b : Nat} (h : b ≤ a) : nI a - nI b = nI (a - b) := by
  rw [show nI a = nI (a - b) + nI b by rw [nI_add, Nat.sub_add_cancel h], Int32.add_sub_cancel]
theorem isL_n {x : Int32} (h : isL x) : ∃ c : Nat, 97 ≤ c ∧ c < 128 ∧ x = nI c ∧ x.toNatClampNeg = c := by
  have h1 := Int32.le_iff_toInt_le.mp h.1
  have h2 := Int32.le_iff_toInt_le.mp h.2
  have e1 : (97 : Int32).toInt = 97 := of_decide_eq_true rfl
  have e2 : (122 : Int32).toInt = 122 := of_decide_eq_true rfl
  rw [e1] at h1
  rw [e2] at h2
  have h0 : 0 ≤ x := Int32.le_trans (by decide) h.1
  have hl : x < nI 128 := Int32.lt_iff_toInt_lt.mpr (by rw [nI_toInt (by omega)]; omega)
  obtain ⟨c, hc, rfl⟩ := q_rng (n := 128) (by omega) ⟨h0, hl⟩
  rw [nI_toInt (by omega)] at h1
  exact ⟨c, by omega, hc, rfl, nI_clamp (by omega)⟩
theorem dv_c {f g : Nat → Nat} : ∀ k : Nat, (∀ i, i < k → f i = g i) → dv f k = dv g k
  | 0, _ => rfl
  | k + 1, h => by
    rw [dv, dv, dv_c k (fun i hi => h i (by omega)), h k (by omega)]
theorem runTo_all (q : Nat → Prop) [DecidablePred q] {p : Nat} : ∀ (r t : Nat), (∀ i, p ≤ i → i < t → q i) → ∀ i, p ≤ i → i < runTo q r t → q i
  | 0, t, h => h
  | r + 1, t, h => by
    unfold runTo
    split
    · rename_i c
      exact runTo_all q r (t + 1) (fun i q1 q2 => by
        rcases Nat.lt_or_ge i t with z | z
        · exact h i q1 z
        · rw [show i = t by omega]
          exact c)
    · exact h
abbrev bv (b : Nat → Int32) (p k : Nat) : Nat := (b (p + k)).toNatClampNeg
theorem nameOf_0 {b : Nat → Int32} {p : Nat} : ∀ (r t : Nat), p + 8 ≤ t → t + r < 2 ^ 31 → nameOf b (nI p) r t 0 = 0
  | 0, t, h, _ => rfl
  | r + 1, t, h, hr => by
    unfold nameOf
    split
    · rw [if_pos (by rw [nI_subN (by omega)]; exact nI_le (a := 8) (by omega) (by omega))]
      exact nameOf_0 r (t + 1) (by omega) (by omega)
    · rfl
theorem nameOf_v {b : Nat → Int32} {p : Nat} : ∀ (r t : Nat), p ≤ t → t ≤ p + 8 → t + r < 2 ^ 31 → (∀ i, p ≤ i → i < t → isL (b i)) → nameOf b (nI p) r t (Int64.ofNat (dv (bv b p) (t - p))) = (if runTo (fun k => isL (b k)) r t ≤ p + 8 then Int64.ofNat (dv (bv b p) (runTo (fun k => isL (b k)) r t - p)) else 0) ∧ ∀ i, p ≤ i → i < runTo (fun k => isL (b k)) r t → isL (b i)
  | 0, t, h1, h2, h3, h4 => by
    unfold nameOf runTo
    exact ⟨by rw [if_pos h2], h4⟩
  | r + 1, t, h1, h2, h3, h4 => by
    unfold nameOf runTo
    by_cases c : isL (b t)
    · rw [if_pos c]
      simp only [if_pos c]
      have h4' : ∀ i, p ≤ i → i < t + 1 → isL (b i) := fun i q1 q2 => by
        rcases Nat.lt_or_ge i t with z | z
        · exact h4 i q1 z
        · rw [show i = t by omega]
          exact c
      obtain ⟨a, ha1, ha2, ha3, ha4⟩ := isL_n c
      rcases Nat.lt_or_ge t (p + 8) with z | z
      · rw [if_neg (by rw [nI_subN h1]; exact nI_ge (b := 8) (by omega) (by omega))]
        have hd : dv (bv b p) (t - p) < 256 ^ (t - p) := dv_lt _ (fun i hi => by
          obtain ⟨a', _, q2, _, q4⟩ := isL_n (h4 (p + i) (by omega) (by omega))
          show (b (p + i)).toNatClampNeg < 256
          omega)
        have hd2 : 256 ^ (t - p) ≤ 256 ^ 7 := Nat.pow_le_pow_right (by omega) (by omega)
        have e : (Int64.ofNat (dv (bv b p) (t - p)) <<< (Int32.toInt64 8 &&& 63)) ||| (b t).toInt64 = Int64.ofNat (dv (bv b p) (t + 1 - p)) := by
          rw [ha3, let64 a ha2, sh8 (by omega) (by omega), show t + 1 - p = (t - p) + 1 by omega]
          show _ = Int64.ofNat (dv (bv b p) (t - p) * 256 + (b (p + (t - p))).toNatClampNeg)
          rw [show p + (t - p) = t by omega, ha4]
        rw [e]
        exact nameOf_v r (t + 1) (by omega) (by omega) (by omega) h4'
      · rw [if_pos (by rw [nI_subN h1]; exact nI_le (a := 8) (by omega) (by omega))]
        have hge := (runTo_le (p := fun k => isL (b k)) r (t + 1)).1
        rw [if_neg (by omega), nameOf_0 r (t + 1) (by omega) (by omega)]
        refine ⟨rfl, ?_⟩
        exact runTo_all (fun k => isL (b k)) r (t + 1) h4'
    · rw [if_neg c]
      simp only [if_neg c]
      exact ⟨by rw [if_pos h2], h4⟩
theorem wEq_iff {b c : Nat → Int32} : ∀ (r p k : Nat), wEq b c r p k = true ↔ ∀ i, i < r → b (p + i) = c (k + i)
  | 0, p, k => ⟨fun _ i hi => absurd hi (by omega), fun _ => rfl⟩
  | r + 1, p, k => by
    have ih := wEq_iff (b := b) (c := c) r (p + 1) (k + 1)
    show (decide (b p = c k) && wEq b c r (p + 1) (k + 1)) = true ↔ _
    rw [Bool.and_eq_true_iff, ih, decide_eq_true_eq]
    constructor
    · rintro ⟨h1, h2⟩ i hi
      rcases Nat.eq_zero_or_pos i with z | z
      · subst z
        exact h1
      · have := h2 (i - 1) (by omega)
        rwa [show p + 1 + (i - 1) = p + i by omega, show k + 1 + (i - 1) = k + i by omega] at this
    · intro h
      refine ⟨h 0 (by omega), fun i hi => ?_⟩
      have := h (i + 1) (by omega)
      rwa [show p + (i + 1) = p + 1 + i by omega, show k + (i + 1) = k + 1 + i by omega] at this
/-- word j as a number -/
abbrev nc (j : Nat) : Int64 := [7165912498748092007, 27973166868030834, 1819238756, 108243533981541, 1718579812, 482854661739, 439788663417, 1734440037].getD j 0
theorem nc_v : ∀ j : Nat, j < 8 → nc j = Int64.ofNat (dv (fun k => (sb j k).toNatClampNeg) (sl j)) ∧ dv (fun k => (sb j k).toNatClampNeg) (sl j) < 2 ^ 64 ∧ 0 < sl j ∧ (sb j 0).toNatClampNeg ≠ 0 ∧ nc j ≠ 0 := by decide +kernel
theorem sb_256 : ∀ j : Nat, j < 8 → ∀ k : Nat, k < 8 → k < sl j → (sb j k).toNatClampNeg < 256 ∧ 0 ≤ sb j k ∧ sb j k < 128 := by decide +kernel
theorem cl_inj {x y : Int32} (hx : 0 ≤ x) (hy : 0 ≤ y) (hx8 : x < 128) (hy8 : y < 128) (h : x.toNatClampNeg = y.toNatClampNeg) : x = y := by
  obtain ⟨a, ha, rfl⟩ := q_rng (n := 128) (by omega) ⟨hx, hx8⟩
  obtain ⟨c, hc, rfl⟩ := q_rng (n := 128) (by omega) ⟨hy, hy8⟩
  rw [nI_clamp (by omega), nI_clamp (by omega)] at h
  rw [h]
theorem tkK_1 {b : Nat → Int32} {n p : Nat} (h : tkK b n p = 1) : p < n ∧ isL (b p) := by
  unfold tkK at h
  by_cases c0 : n ≤ p
  · rw [if_pos c0] at h
    exact absurd h (by decide)
  · rw [if_neg c0] at h
    by_cases c1 : isL (b p)
    · exact ⟨by omega, c1⟩
    · rw [if_neg c1] at h
      split at h
      · split at h <;> exact absurd h (by decide)
      · split at h <;> exact absurd h (by decide)
theorem name_wd {b : Nat → Int32} {n p j : Nat} (hj : j < 8) (h4 : n ≤ 400) (hk : tkK b n p = 1) : (nameOf b (nI p) (n - p) p 0 = nc j) ↔ (nI (tkE b n p) - nI p = nI (sl j) ∧ wEq b (fun k => sb j k) (sl j) p 0 = true) := by
  obtain ⟨hpn, hl⟩ := tkK_1 hk
  have he : tkE b n p = runTo (fun k => isL (b k)) (n - p) p := by
    unfold tkE
    rw [if_neg (by omega), if_pos hl]
  obtain ⟨h1, h2⟩ := nameOf_v (b := b) (p := p) (n - p) p (Nat.le_refl _) (by omega) (by omega) (fun i q1 q2 => absurd q1 (by omega))
  rw [Nat.sub_self] at h1
  rw [show nameOf b (nI p) (n - p) p 0 = nameOf b (nI p) (n - p) p (Int64.ofNat (dv (bv b p) 0)) from rfl, h1, he]
  rw [← he] at h2 ⊢
  have hge : p ≤ tkE b n p := tkE_ge
  have hle : tkE b n p ≤ n := tkE_le (by omega)
  obtain ⟨k1, k2, k3, k4, k5⟩ := nc_v j hj
  have h8 := sl_8 j hj
  rw [nI_subN hge, wEq_iff]
  by_cases c : tkE b n p ≤ p + 8
  · rw [if_pos c]
    have hb : ∀ i, i < tkE b n p - p → isL (b (p + i)) := fun i hi => h2 (p + i) (by omega) (by omega)
    have hb256 : ∀ i, i < tkE b n p - p → bv b p i < 256 := fun i hi => by
      obtain ⟨a', _, q2, _, q4⟩ := isL_n (hb i hi)
      show (b (p + i)).toNatClampNeg < 256
      omega
    have hb0 : bv b p 0 ≠ 0 := by
      obtain ⟨a', q1, q2, _, q4⟩ := isL_n hl
      show (b (p + 0)).toNatClampNeg ≠ 0
      rw [Nat.add_zero]
      omega
    have hlt : dv (bv b p) (tkE b n p - p) < 2 ^ 64 := Nat.lt_of_lt_of_le (dv_lt _ hb256) (by
      have : 256 ^ (tkE b n p - p) ≤ 256 ^ 8 := Nat.pow_le_pow_right (by omega) (by omega)
      exact this)
    constructor
    · intro h
      rw [k1] at h
      obtain ⟨e1, e2⟩ := dv_inj hb0 k4 _ _ hb256 (fun i hi => (sb_256 j hj i (by omega) hi).1) (i64_inj hlt k2 h)
      refine ⟨by rw [e1], fun i hi => ?_⟩
      have e3 := e2 i (by omega)
      obtain ⟨a', q1, q2, q3, q4⟩ := isL_n (hb i (by omega))
      rw [Nat.zero_add]
      refine cl_inj ?_ (sb_256 j hj i (by omega) hi).2.1 ?_ (sb_256 j hj i (by omega) hi).2.2 e3
      · rw [q3]; exact nI_pos' (by omega)
      · rw [q3]; exact nI_lt (b := 128) q2 (by omega)
    · rintro ⟨h3, h5⟩
      have e1 : tkE b n p - p = sl j := by
        have := congrArg Int32.toNatClampNeg h3
        rwa [nI_clamp (by omega), nI_clamp (by omega)] at this
      rw [e1, k1]
      congr 1
      exact dv_c _ (fun i hi => by
        show (b (p + i)).toNatClampNeg = _
        rw [h5 i hi, Nat.zero_add])
  · rw [if_neg c]
    constructor
    · intro h
      exact absurd h.symm k5
    · rintro ⟨h3, -⟩
      have e1 : tkE b n p - p = sl j := by
        have := congrArg Int32.toNatClampNeg h3
        rwa [nI_clamp (by omega), nI_clamp (by omega)] at this
      omega
