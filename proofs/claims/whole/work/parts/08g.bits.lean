/-! BITS of the sets of the class -/
def bt (v : Int64) (k : Nat) : Bool := v.toBitVec.getLsbD k
theorem bt_or {x y : Int64} {k : Nat} : bt (x ||| y) k = (bt x k || bt y k) := by
  unfold bt
  rw [Int64.toBitVec_or, BitVec.getLsbD_or]
theorem bt_and {x y : Int64} {k : Nat} : bt (x &&& y) k = (bt x k && bt y k) := by
  unfold bt
  rw [Int64.toBitVec_and, BitVec.getLsbD_and]
theorem bt_m1 {k : Nat} (h : k < 64) : bt (-1) k = true := by
  have : ∀ k, k < 64 → bt (-1) k = true := by decide +kernel
  exact this k h
theorem bt_not {x : Int64} {k : Nat} (h : k < 64) : bt (x ^^^ -1) k = !(bt x k) := by
  have := bt_m1 h
  unfold bt at this ⊢
  rw [Int64.toBitVec_xor, BitVec.getLsbD_xor, this, Bool.xor_true]
theorem bt_0 {k : Nat} : bt 0 k = false := by
  unfold bt
  rw [show (0 : Int64).toBitVec = 0#64 from rfl, BitVec.getLsbD_zero]
theorem bt_nz {v : Int64} : ¬ v = 0 ↔ ∃ k, k < 64 ∧ bt v k = true := by
  constructor
  · intro h
    refine Classical.byContradiction fun hn => h ?_
    apply Int64.toBitVec_inj.mp
    apply BitVec.eq_of_getLsbD_eq
    intro i hi
    show bt v i = bt 0 i
    rw [bt_0]
    exact Bool.eq_false_iff.mpr (fun z => hn ⟨i, hi, z⟩)
  · rintro ⟨k, _, h⟩ rfl
    rw [bt_0] at h
    exact absurd h (by decide)
theorem bt_z {v : Int64} (h : v = 0) (k : Nat) : bt v k = false := by rw [h, bt_0]
theorem shl_bv (s : Int64) : ∀ x : Nat, x < 6 → (s <<< (((1 : Int32) <<< (nI x &&& 31)).toInt64 &&& 63)).toBitVec = s.toBitVec <<< (2 ^ x)
  | 0, _ => rfl
  | 1, _ => rfl
  | 2, _ => rfl
  | 3, _ => rfl
  | 4, _ => rfl
  | 5, _ => rfl
  | n + 6, h => absurd h (by omega)
theorem ushr_bv (s : Int64) : ∀ x : Nat, x < 6 → ((s.toUInt64 >>> ((((1 : Int32) <<< (nI x &&& 31)).toInt64).toUInt64 &&& Int64.toUInt64 63)).toInt64).toBitVec = s.toBitVec >>> (2 ^ x)
  | 0, _ => rfl
  | 1, _ => rfl
  | 2, _ => rfl
  | 3, _ => rfl
  | 4, _ => rfl
  | 5, _ => rfl
  | n + 6, h => absurd h (by omega)
theorem one_bv : ∀ k : Nat, k < 64 → ((1 : Int64) <<< ((nI k).toInt64 &&& 63)) = Int64.ofNat (2 ^ k) := by decide +kernel
theorem bt_one : ∀ k : Nat, k < 64 → ∀ j : Nat, j < 64 → (bt (Int64.ofNat (2 ^ k)) j = true ↔ j = k) := by decide +kernel
theorem st_up : ∀ x : Nat, x < 6 → ∀ k : Nat, k < 64 → k.testBit x = false → (k + 2 ^ x < 64 ∧ k ^^^ 2 ^ x = k + 2 ^ x ∧ bt (q_sets x) (k + 2 ^ x) = true ∧ (k + 2 ^ x).testBit x = true ∧ (k + 2 ^ x) ^^^ 2 ^ x = k) := by decide +kernel
theorem st_up2 : ∀ x : Nat, x < 6 → ∀ k : Nat, k < 64 → k.testBit x = true → (bt (q_sets x) (k + 2 ^ x) = false ∧ 2 ^ x ≤ k ∧ k - 2 ^ x < 64 ∧ k ^^^ 2 ^ x = k - 2 ^ x ∧ bt (q_sets x) (k - 2 ^ x) = false ∧ (k - 2 ^ x).testBit x = false ∧ (k - 2 ^ x) ^^^ 2 ^ x = k) := by decide +kernel
theorem st_dn : ∀ x : Nat, x < 6 → ∀ k : Nat, k < 64 → k.testBit x = false → 2 ^ x ≤ k → bt (q_sets x) (k - 2 ^ x) = true := by decide +kernel
/-- one set goes over x -/
def xmR (so : Nat → Int32) (x : Nat) (l : Bool) (k k' : Nat) : Prop :=
  (so x = 3 ∧ k' = k) ∨ (so x = 4 ∧ l = false ∧ k' = k) ∨ (so x = 5 ∧ l = true ∧ k' = k) ∨ (¬ (so x = 3 ∨ so x = 4 ∨ so x = 5) ∧ k.testBit x = l ∧ k' = k ^^^ 2 ^ x)
theorem xM_bt {so : Nat → Int32} {x : Nat} {l : Bool} {s : Int64} {k' : Nat} (hx : x < 6) (hk : k' < 64) : bt (xM so x l s) k' = true ↔ ∃ k, k < 64 ∧ bt s k = true ∧ xmR so x l k k' := by
  unfold xM xmR
  by_cases c3 : so x = 3
  · rw [if_pos c3]
    constructor
    · exact fun h => ⟨k', hk, h, Or.inl ⟨c3, rfl⟩⟩
    · rintro ⟨k, h1, h2, ⟨-, rfl⟩ | ⟨z, -⟩ | ⟨z, -⟩ | ⟨z, -⟩⟩
      · exact h2
      · exact absurd (c3.symm.trans z) (by decide)
      · exact absurd (c3.symm.trans z) (by decide)
      · exact absurd (Or.inl c3) z
  · rw [if_neg c3]
    by_cases c4 : so x = 4
    · rw [if_pos c4]
      cases l
      · rw [if_neg (by decide)]
        constructor
        · exact fun h => ⟨k', hk, h, Or.inr (Or.inl ⟨c4, rfl, rfl⟩)⟩
        · rintro ⟨k, h1, h2, ⟨z, -⟩ | ⟨-, -, rfl⟩ | ⟨z, -⟩ | ⟨z, -⟩⟩
          · exact absurd z c3
          · exact h2
          · exact absurd (c4.symm.trans z) (by decide)
          · exact absurd (Or.inr (Or.inl c4)) z
      · rw [if_pos rfl, bt_0]
        constructor
        · exact fun h => absurd h (by decide)
        · rintro ⟨k, h1, h2, ⟨z, -⟩ | ⟨-, z, -⟩ | ⟨z, -⟩ | ⟨z, -⟩⟩
          · exact absurd z c3
          · exact absurd z (by decide)
          · exact absurd (c4.symm.trans z) (by decide)
          · exact absurd (Or.inr (Or.inl c4)) z
    · rw [if_neg c4]
      by_cases c5 : so x = 5
      · rw [if_pos c5]
        cases l
        · rw [if_neg (by decide), bt_0]
          constructor
          · exact fun h => absurd h (by decide)
          · rintro ⟨k, h1, h2, ⟨z, -⟩ | ⟨z, -⟩ | ⟨-, z, -⟩ | ⟨z, -⟩⟩
            · exact absurd z c3
            · exact absurd z c4
            · exact absurd z (by decide)
            · exact absurd (Or.inr (Or.inr c5)) z
        · rw [if_pos rfl]
          constructor
          · exact fun h => ⟨k', hk, h, Or.inr (Or.inr (Or.inl ⟨c5, rfl, rfl⟩))⟩
          · rintro ⟨k, h1, h2, ⟨z, -⟩ | ⟨z, -⟩ | ⟨-, -, rfl⟩ | ⟨z, -⟩⟩
            · exact absurd z c3
            · exact absurd z c4
            · exact h2
            · exact absurd (Or.inr (Or.inr c5)) z
      · rw [if_neg c5]
        have cn : ¬ (so x = 3 ∨ so x = 4 ∨ so x = 5) := fun z => z.elim c3 (fun z => z.elim c4 c5)
        cases l
        · rw [if_neg (by decide)]
          have e : bt ((s &&& (q_sets x ^^^ -1)) <<< (((1 : Int32) <<< (nI x &&& 31)).toInt64 &&& 63)) k' = (decide (k' < 64) && !(decide (k' < 2 ^ x)) && bt (s &&& (q_sets x ^^^ -1)) (k' - 2 ^ x)) := by
            unfold bt
            rw [shl_bv _ x hx, BitVec.getLsbD_shiftLeft]
          rw [e]
          cases ht : k'.testBit x
          · constructor
            · intro h
              rw [Bool.and_eq_true, Bool.and_eq_true] at h
              have h2 : 2 ^ x ≤ k' := by
                have := h.1.2
                simp at this
                exact this
              have := st_dn x hx k' hk ht h2
              rw [bt_and, bt_not (Nat.lt_of_le_of_lt (Nat.sub_le _ _) hk), this] at h
              simp at h
            · rintro ⟨k, h1, h2, ⟨z, -⟩ | ⟨z, -⟩ | ⟨z, -⟩ | ⟨-, z, rfl⟩⟩
              · exact absurd z c3
              · exact absurd z c4
              · exact absurd z c5
              · have := (st_up x hx k h1 z)
                rw [this.2.1, this.2.2.2.1] at ht
                exact absurd ht (by decide)
          · obtain ⟨-, q1, q2, q3, q4, q5, q6⟩ := st_up2 x hx k' hk ht
            have d1 : decide (k' < 64) = true := decide_eq_true hk
            have d2 : decide (k' < 2 ^ x) = false := decide_eq_false (by omega)
            rw [d1, d2, bt_and, bt_not q2, q4]
            simp only [Bool.not_false, Bool.and_true, Bool.true_and]
            constructor
            · exact fun h => ⟨k' - 2 ^ x, q2, h, Or.inr (Or.inr (Or.inr ⟨cn, q5, q6.symm⟩))⟩
            · rintro ⟨k, h1, h2, ⟨z, -⟩ | ⟨z, -⟩ | ⟨z, -⟩ | ⟨-, z, rfl⟩⟩
              · exact absurd z c3
              · exact absurd z c4
              · exact absurd z c5
              · have := st_up x hx k h1 z
                rw [this.2.1, Nat.add_sub_cancel]
                exact h2
        · rw [if_pos rfl]
          have e : bt ((s &&& q_sets x).toUInt64 >>> ((((1 : Int32) <<< (nI x &&& 31)).toInt64).toUInt64 &&& Int64.toUInt64 63)).toInt64 k' = bt (s &&& q_sets x) (2 ^ x + k') := by
            unfold bt
            rw [ushr_bv _ x hx, BitVec.getLsbD_ushiftRight]
          rw [e, bt_and, Nat.add_comm]
          cases ht : k'.testBit x
          · obtain ⟨q1, q2, q3, q4, q5⟩ := st_up x hx k' hk ht
            rw [q3, Bool.and_true]
            constructor
            · exact fun h => ⟨k' + 2 ^ x, q1, h, Or.inr (Or.inr (Or.inr ⟨cn, q4, q5.symm⟩))⟩
            · rintro ⟨k, h1, h2, ⟨z, -⟩ | ⟨z, -⟩ | ⟨z, -⟩ | ⟨-, z, rfl⟩⟩
              · exact absurd z c3
              · exact absurd z c4
              · exact absurd z c5
              · have := st_up2 x hx k h1 z
                rw [this.2.2.2.1, Nat.sub_add_cancel this.2.1]
                exact h2
          · have q1 := (st_up2 x hx k' hk ht).1
            rw [q1, Bool.and_false]
            constructor
            · exact fun h => absurd h (by decide)
            · rintro ⟨k, h1, h2, ⟨z, -⟩ | ⟨z, -⟩ | ⟨z, -⟩ | ⟨-, z, rfl⟩⟩
              · exact absurd z c3
              · exact absurd z c4
              · exact absurd z c5
              · have := st_up2 x hx k h1 z
                rw [this.2.2.2.1, this.2.2.2.2.2.1] at ht
                exact absurd ht (by decide)
section BG
variable {so : Nat → Int32} {ea eb sp : Nat → Nat} {us : Int32} {B : q_FT} {m : Nat}
/-- crossing x can be used from cell c, and leads to cell c' -/
def uX (ea eb : Nat → Nat) (us : Int32) (x c c' : Nat) : Prop := mHas us x ∧ ¬ otN ea eb x (c / 8) = 99 ∧ c' = otN ea eb x (c / 8) * 8 + c % 8
/-- what gA does -/
theorem gA_bt {cell far : Nat} {sets : Int64} : ∀ (r x0 : Nat) (q : q_CT × Nat),
    (gA so ea eb sp us cell sets far r x0 q).1 184 = q.1 184 ∧
    (∀ i b, bt ((gA so ea eb sp us cell sets far r x0 q).1 183 i) b = true ↔ (bt (q.1 183 i) b = true ∨ ∃ x c', x0 ≤ x ∧ x < x0 + r ∧ uX ea eb us x cell c' ∧ i = (far + sp x) % 10 * 48 + c' ∧ bt (xM so x (decide (cell % 8 = 6)) sets &&& (q.1 184 c' ^^^ -1)) b = true)) ∧
    (q.2 ≤ (gA so ea eb sp us cell sets far r x0 q).2) ∧
    (∀ x c' b, x0 ≤ x → x < x0 + r → uX ea eb us x cell c' → bt (xM so x (decide (cell % 8 = 6)) sets &&& (q.1 184 c' ^^^ -1)) b = true → far + sp x ≤ (gA so ea eb sp us cell sets far r x0 q).2) ∧
    (∀ M, q.2 ≤ M → (∀ x, x0 ≤ x → x < x0 + r → far + sp x ≤ M) → (gA so ea eb sp us cell sets far r x0 q).2 ≤ M)
  | 0, x0, q => ⟨rfl, fun i b => ⟨Or.inl, fun z => z.elim id (fun ⟨x, c', h1, h2, _⟩ => absurd h1 (by omega))⟩, Nat.le_refl _, fun x c' b h1 h2 => absurd h1 (by omega), fun M h _ => h⟩
  | r + 1, x0, q => by
    obtain ⟨i1, i2, i3, i4, i5⟩ := gA_bt (cell := cell) (far := far) (sets := sets) r (x0 + 1) (gX so ea eb sp us cell sets far x0 q)
    have X : (gX so ea eb sp us cell sets far x0 q).1 184 = q.1 184 ∧
        (∀ i b, bt ((gX so ea eb sp us cell sets far x0 q).1 183 i) b = true ↔ (bt (q.1 183 i) b = true ∨ ∃ c', uX ea eb us x0 cell c' ∧ i = (far + sp x0) % 10 * 48 + c' ∧ bt (xM so x0 (decide (cell % 8 = 6)) sets &&& (q.1 184 c' ^^^ -1)) b = true)) ∧
        q.2 ≤ (gX so ea eb sp us cell sets far x0 q).2 ∧
        (∀ c' b, uX ea eb us x0 cell c' → bt (xM so x0 (decide (cell % 8 = 6)) sets &&& (q.1 184 c' ^^^ -1)) b = true → far + sp x0 ≤ (gX so ea eb sp us cell sets far x0 q).2) ∧
        (∀ M, q.2 ≤ M → far + sp x0 ≤ M → (gX so ea eb sp us cell sets far x0 q).2 ≤ M) := by
      unfold gX
      by_cases c1 : mHas us x0
      · rw [if_neg (not_not_intro c1)]
        by_cases c2 : otN ea eb x0 (cell / 8) = 99
        · rw [if_pos c2]
          exact ⟨rfl, fun i b => ⟨Or.inl, fun z => z.elim id (fun ⟨c', h, _⟩ => absurd c2 h.2.1)⟩, Nat.le_refl _, fun c' b h => absurd c2 h.2.1, fun M h _ => h⟩
        · rw [if_neg c2]
          by_cases c3 : xM so x0 (decide (cell % 8 = 6)) sets &&& (q.1 184 (otN ea eb x0 (cell / 8) * 8 + cell % 8) ^^^ -1) = 0
          · rw [if_pos c3]
            refine ⟨rfl, fun i b => ⟨Or.inl, fun z => z.elim id (fun ⟨c', h, h2, h3⟩ => ?_)⟩, Nat.le_refl _, fun c' b h h3 => ?_, fun M h _ => h⟩
            · rw [h.2.2, bt_z c3] at h3
              exact absurd h3 (by decide)
            · rw [h.2.2, bt_z c3] at h3
              exact absurd h3 (by decide)
          · rw [if_neg c3]
            have e184 : ∀ (G : q_CT) (i : Nat) (v : Int64), u2 G 183 i v 184 = G 184 := fun G i v => u2_r (by omega)
            refine ⟨by dsimp only; exact u2_r (by omega), fun i b => ?_, Nat.le_max_left _ _, fun c' b h h3 => Nat.le_max_right _ _, fun M h1 h2 => Nat.max_le.mpr ⟨h1, h2⟩⟩
            by_cases e : i = (far + sp x0) % 10 * 48 + (otN ea eb x0 (cell / 8) * 8 + cell % 8)
            · subst e
              show bt (u2 q.1 183 _ _ 183 _) b = true ↔ _
              rw [u2_s, bt_or, Bool.or_eq_true]
              constructor
              · rintro (z | z)
                · exact Or.inl z
                · exact Or.inr ⟨_, ⟨c1, c2, rfl⟩, rfl, z⟩
              · rintro (z | ⟨c', h, h2, h3⟩)
                · exact Or.inl z
                · rw [h.2.2] at h3
                  exact Or.inr h3
            · show bt (u2 q.1 183 _ _ 183 i) b = true ↔ _
              rw [show ∀ v, u2 q.1 183 ((far + sp x0) % 10 * 48 + (otN ea eb x0 (cell / 8) * 8 + cell % 8)) v 183 i = q.1 183 i from fun v => if_neg (fun z => e z.2)]
              exact ⟨Or.inl, fun z => z.elim id (fun ⟨c', h, h2, _⟩ => absurd (by rw [h2, h.2.2]) e)⟩
      · rw [if_pos c1]
        exact ⟨rfl, fun i b => ⟨Or.inl, fun z => z.elim id (fun ⟨c', h, _⟩ => absurd h.1 c1)⟩, Nat.le_refl _, fun c' b h => absurd h.1 c1, fun M h _ => h⟩
    obtain ⟨j1, j2, j3, j4, j5⟩ := X
    refine ⟨i1.trans j1, fun i b => ?_, Nat.le_trans j3 i3, fun x c' b h1 h2 h3 h4 => ?_, fun M h1 h2 => i5 M (j5 M h1 (h2 x0 (Nat.le_refl _) (by omega))) (fun x q1 q2 => h2 x (by omega) (by omega))⟩
    · refine (i2 i b).trans ?_
      rw [j2 i b, j1]
      constructor
      · rintro ((z | ⟨c', z1, z2, z3⟩) | ⟨x, c', z1, z2, z3, z4, z5⟩)
        · exact Or.inl z
        · exact Or.inr ⟨x0, c', Nat.le_refl _, by omega, z1, z2, z3⟩
        · exact Or.inr ⟨x, c', by omega, by omega, z3, z4, z5⟩
      · rintro (z | ⟨x, c', z1, z2, z3, z4, z5⟩)
        · exact Or.inl (Or.inl z)
        · rcases Nat.lt_or_ge x0 x with y | y
          · exact Or.inr ⟨x, c', by omega, by omega, z3, z4, z5⟩
          · have e : x = x0 := by omega
            subst e
            exact Or.inl (Or.inr ⟨c', z3, z4, z5⟩)
    · rcases Nat.lt_or_ge x0 x with y | y
      · exact i4 x c' b (by omega) (by omega) h3 (by rw [j1]; exact h4)
      · have e : x = x0 := by omega
        subst e
        exact Nat.le_trans (j4 c' b h3 h4) i3
/-- the two cells of a town that taking and laying joins -/
abbrev eC8 (tk t : Nat) : Nat := t * 8 + (if tk = 1 then t else 7)
theorem tC_at {tk layer t i : Nat} {C : q_CT} (h0 : ¬ tk = 0) (ht : t < 6) : tC tk layer t C 183 i = if i = layer + eC8 tk t ∨ i = layer + (t * 8 + 6) then C 183 (layer + eC8 tk t) ||| C 183 (layer + (t * 8 + 6)) else C 183 i := by
  unfold tC
  rw [if_neg h0, show layer + t * 8 + (if tk = 1 then t else 7) = layer + eC8 tk t by show _ = layer + (t * 8 + _); omega, show layer + t * 8 + 6 = layer + (t * 8 + 6) by omega]
  by_cases c2 : i = layer + (t * 8 + 6)
  · rw [if_pos (Or.inr c2), c2, u2_s]
  · by_cases c1 : i = layer + eC8 tk t
    · rw [if_pos (Or.inl c1), show ∀ (G : q_CT) v, u2 G 183 (layer + (t * 8 + 6)) v 183 i = G 183 i from fun G v => if_neg (fun z => c2 z.2), c1, u2_s]
    · rw [if_neg (fun z => z.elim c1 c2), show ∀ (G : q_CT) v, u2 G 183 (layer + (t * 8 + 6)) v 183 i = G 183 i from fun G v => if_neg (fun z => c2 z.2), show ∀ (G : q_CT) v, u2 G 183 (layer + eC8 tk t) v 183 i = G 183 i from fun G v => if_neg (fun z => c1 z.2)]
theorem tC_f {tk layer t a : Nat} {C : q_CT} (h : ¬ a = 183) : tC tk layer t C a = C a := by
  unfold tC
  split
  · rfl
  · rw [u2_r h, u2_r h]
theorem tA_f {tk layer a : Nat} (h : ¬ a = 183) : ∀ (r t : Nat) (C : q_CT), tA tk layer r t C a = C a
  | 0, t, C => rfl
  | r + 1, t, C => (tA_f h r (t + 1) _).trans (tC_f h)
theorem eC8_t {tk t : Nat} (ht : t < 6) : t * 8 ≤ eC8 tk t ∧ eC8 tk t < t * 8 + 8 ∧ ¬ eC8 tk t = t * 8 + 6 := by
  show t * 8 ≤ t * 8 + (if tk = 1 then t else 7) ∧ t * 8 + (if tk = 1 then t else 7) < t * 8 + 8 ∧ ¬ t * 8 + (if tk = 1 then t else 7) = t * 8 + 6
  split <;> omega
/-- what tA does: town by town -/
theorem tA_at {tk layer : Nat} (h0 : ¬ tk = 0) : ∀ (r t0 : Nat) (C : q_CT), t0 + r ≤ 6 → 
    (∀ t, t0 ≤ t → t < t0 + r → tA tk layer r t0 C 183 (layer + eC8 tk t) = C 183 (layer + eC8 tk t) ||| C 183 (layer + (t * 8 + 6)) ∧ tA tk layer r t0 C 183 (layer + (t * 8 + 6)) = C 183 (layer + eC8 tk t) ||| C 183 (layer + (t * 8 + 6))) ∧
    (∀ i, (∀ t, t0 ≤ t → t < t0 + r → ¬ i = layer + eC8 tk t ∧ ¬ i = layer + (t * 8 + 6)) → tA tk layer r t0 C 183 i = C 183 i)
  | 0, t0, C, h => ⟨fun t h1 h2 => absurd h1 (by omega), fun i _ => rfl⟩
  | r + 1, t0, C, h => by
    obtain ⟨i1, i2⟩ := tA_at h0 r (t0 + 1) (tC tk layer t0 C) (by omega)
    have e0 := eC8_t (tk := tk) (t := t0) (by omega)
    refine ⟨fun t h1 h2 => ?_, fun i hi => ?_⟩
    · rcases Nat.lt_or_ge t0 t with z | z
      · have et := eC8_t (tk := tk) (t := t) (by omega)
        obtain ⟨q1, q2⟩ := i1 t (by omega) (by omega)
        have n1 : tC tk layer t0 C 183 (layer + eC8 tk t) = C 183 (layer + eC8 tk t) := by rw [tC_at h0 (by omega), if_neg (by omega)]
        have n2 : tC tk layer t0 C 183 (layer + (t * 8 + 6)) = C 183 (layer + (t * 8 + 6)) := by rw [tC_at h0 (by omega), if_neg (by omega)]
        rw [n1, n2] at q1 q2
        exact ⟨q1, q2⟩
      · have e : t = t0 := by omega
        subst e
        have k1 := i2 (layer + eC8 tk t) (fun t' p1 p2 => by have := eC8_t (tk := tk) (t := t') (by omega); omega)
        have k2 := i2 (layer + (t * 8 + 6)) (fun t' p1 p2 => by have := eC8_t (tk := tk) (t := t') (by omega); omega)
        rw [tC_at h0 (by omega), if_pos (Or.inl rfl)] at k1
        rw [tC_at h0 (by omega), if_pos (Or.inr rfl)] at k2
        exact ⟨k1, k2⟩
    · refine (i2 i (fun t h1 h2 => hi t (by omega) (by omega))).trans ?_
      have := hi t0 (Nat.le_refl _) (by omega)
      rw [tC_at h0 (by omega), if_neg (fun z => z.elim this.1 this.2)]
end BG
