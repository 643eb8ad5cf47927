/-! BYTES with a sign and without tell the same text -/
def bR (x y : Int32) : Prop := (x = y ∧ 0 ≤ x) ∨ (x < 0 ∧ 127 < y)
theorem bR_in {x y lo hi : Int32} (h : bR x y) (h0 : 0 ≤ lo) (h1 : hi ≤ 127) : (lo ≤ x ∧ x ≤ hi) ↔ (lo ≤ y ∧ y ≤ hi) := by
  rcases h with ⟨rfl, -⟩ | ⟨a, c⟩
  · rfl
  · constructor
    · rintro ⟨q1, -⟩
      exact absurd (Int32.le_trans h0 q1) (Int32.not_le.mpr a)
    · rintro ⟨-, q2⟩
      exact absurd (Int32.le_trans q2 h1) (Int32.not_le.mpr c)
theorem bR_eq {x y k : Int32} (h : bR x y) (h0 : 0 ≤ k) (h1 : k ≤ 127) : x = k ↔ y = k := by
  rcases h with ⟨rfl, -⟩ | ⟨a, c⟩
  · rfl
  · constructor
    · rintro rfl
      exact absurd h0 (Int32.not_le.mpr a)
    · rintro rfl
      exact absurd h1 (Int32.not_le.mpr c)
theorem runTo_c {p q : Nat → Prop} [DecidablePred p] [DecidablePred q] (h : ∀ k, p k ↔ q k) : ∀ (r t : Nat), runTo p r t = runTo q r t
  | 0, t => rfl
  | r + 1, t => by
    unfold runTo
    by_cases c : p t
    · rw [if_pos c, if_pos ((h t).mp c)]
      exact runTo_c h r (t + 1)
    · rw [if_neg c, if_neg (fun z => c ((h t).mpr z))]
theorem prs_c {p q : Nat → Prop} [DecidablePred p] [DecidablePred q] {st : Nat → Nat → Int32 × Nat} (h : ∀ k, p k ↔ q k) : ∀ (r i t : Nat), prs p st r i t = prs q st r i t
  | 0, i, t => rfl
  | r + 1, i, t => by
    unfold prs
    by_cases c : p t
    · rw [if_pos c, if_pos ((h t).mp c)]
      split
      · exact prs_c h r (i + 1) _
      · rfl
    · rw [if_neg c, if_neg (fun z => c ((h t).mpr z))]
section BY
variable {b b' : Nat → Int32}
theorem bR_L (h : ∀ k, bR (b k) (b' k)) (k : Nat) : isL (b k) ↔ isL (b' k) := bR_in (h k) (by decide) (by decide)
theorem bR_D (h : ∀ k, bR (b k) (b' k)) (k : Nat) : isD (b k) ↔ isD (b' k) := bR_in (h k) (by decide) (by decide)
theorem bR_W (h : ∀ k, bR (b k) (b' k)) (k : Nat) : isW (b k) ↔ isW (b' k) := by
  have e1 := bR_eq (k := 32) (h k) (by decide) (by decide)
  have e2 := bR_eq (k := 10) (h k) (by decide) (by decide)
  exact ⟨fun z => z.elim (fun z => Or.inl (e1.mp z)) (fun z => Or.inr (e2.mp z)), fun z => z.elim (fun z => Or.inl (e1.mpr z)) (fun z => Or.inr (e2.mpr z))⟩
theorem bR_num (h : ∀ k, bR (b k) (b' k)) : ∀ (r t : Nat) (v : Int32), numOf b r t v = numOf b' r t v
  | 0, t, v => rfl
  | r + 1, t, v => by
    unfold numOf
    by_cases c : isD (b t)
    · have e : b t = b' t := by
        rcases h t with z | z
        · exact z.1
        · exact absurd (Int32.le_trans (by decide) c.1) (Int32.not_le.mpr z.1)
      rw [if_pos c, if_pos ((bR_D h t).mp c), e]
      exact bR_num h r (t + 1) _
    · rw [if_neg c, if_neg (fun z => c ((bR_D h t).mpr z))]
theorem bR_K (h : ∀ k, bR (b k) (b' k)) : tkK b = tkK b' := by
  funext n p
  unfold tkK
  rw [runTo_c (bR_D h)]
  have e := bR_eq (k := 59) (h p) (by decide) (by decide)
  by_cases c0 : n ≤ p
  · rw [if_pos c0, if_pos c0]
  · rw [if_neg c0, if_neg c0]
    by_cases c1 : isL (b p)
    · rw [if_pos c1, if_pos ((bR_L h p).mp c1)]
    · rw [if_neg c1, if_neg (fun z => c1 ((bR_L h p).mpr z))]
      by_cases c2 : isD (b p)
      · rw [if_pos c2, if_pos ((bR_D h p).mp c2)]
      · rw [if_neg c2, if_neg (fun z => c2 ((bR_D h p).mpr z))]
        by_cases c3 : b p = 59
        · rw [if_pos c3, if_pos (e.mp c3)]
        · rw [if_neg c3, if_neg (fun z => c3 (e.mpr z))]
theorem bR_E (h : ∀ k, bR (b k) (b' k)) : tkE b = tkE b' := by
  funext n p
  unfold tkE
  rw [runTo_c (bR_D h), runTo_c (bR_L h)]
  by_cases c0 : n ≤ p
  · rw [if_pos c0, if_pos c0]
  · rw [if_neg c0, if_neg c0]
    by_cases c1 : isL (b p)
    · rw [if_pos c1, if_pos ((bR_L h p).mp c1)]
    · rw [if_neg c1, if_neg (fun z => c1 ((bR_L h p).mpr z))]
      by_cases c2 : isD (b p)
      · rw [if_pos c2, if_pos ((bR_D h p).mp c2)]
      · rw [if_neg c2, if_neg (fun z => c2 ((bR_D h p).mpr z))]
theorem bR_skp (h : ∀ k, bR (b k) (b' k)) : skp b = skp b' := by
  funext n t
  unfold skp
  exact runTo_c (bR_W h) _ _
theorem bR_nx (h : ∀ k, bR (b k) (b' k)) : nx b = nx b' := by
  funext n p
  unfold nx
  rw [bR_skp h, bR_E h]
theorem bR_V (h : ∀ k, bR (b k) (b' k)) (n p : Nat) : tkV b n p = tkV b' n p := bR_num h _ _ _
theorem bR_wd (h : ∀ k, bR (b k) (b' k)) {n p j : Nat} (hj : j < 8) : wdA b n p j ↔ wdA b' n p j := by
  have h8 := sl_8 j hj
  show (tkK b n p = 1 ∧ nI (tkE b n p) - nI p = nI (sl j) ∧ wEq b (fun k => sb j k) (sl j) p 0 = true) ↔ (tkK b' n p = 1 ∧ nI (tkE b' n p) - nI p = nI (sl j) ∧ wEq b' (fun k => sb j k) (sl j) p 0 = true)
  rw [bR_K h, bR_E h, wEq_iff, wEq_iff]
  have e : (∀ i, i < sl j → b (p + i) = sb j (0 + i)) ↔ (∀ i, i < sl j → b' (p + i) = sb j (0 + i)) := by
    have q : ∀ i, i < sl j → (b (p + i) = sb j (0 + i) ↔ b' (p + i) = sb j (0 + i)) := fun i hi => by
      rw [Nat.zero_add]
      obtain ⟨-, q1, q2⟩ := sb_256 j hj i (by omega) hi
      exact bR_eq (h _) q1 (by
        rw [Int32.lt_iff_toInt_lt, show (128 : Int32).toInt = 128 from of_decide_eq_true rfl] at q2
        rw [Int32.le_iff_toInt_le, show (127 : Int32).toInt = 127 from of_decide_eq_true rfl]
        omega)
    exact ⟨fun z i hi => (q i hi).mp (z i hi), fun z i hi => (q i hi).mpr (z i hi)⟩
  rw [e]
theorem bR_sr (h : ∀ k, bR (b k) (b' k)) : srA b = srA b' := by
  funext n p
  have e : ∀ j, j < 8 → ∀ {α : Type} (x y : α), (if wdA b n p j then x else y) = if wdA b' n p j then x else y := fun j hj α x y => by
    by_cases c : wdA b n p j
    · rw [if_pos c, if_pos ((bR_wd h hj).mp c)]
    · rw [if_neg c, if_neg (fun z => c ((bR_wd h hj).mpr z))]
  show (if wdA b n p 3 then (1 : Int32) else if wdA b n p 4 then 3 else if wdA b n p 5 then 4 else if wdA b n p 6 then 5 else if wdA b n p 7 then 2 else 0) = (if wdA b' n p 3 then (1 : Int32) else if wdA b' n p 4 then 3 else if wdA b' n p 5 then 4 else if wdA b' n p 6 then 5 else if wdA b' n p 7 then 2 else 0)
  rw [e 3 (by omega), e 4 (by omega), e 5 (by omega), e 6 (by omega), e 7 (by omega)]
theorem bR_nu (h : ∀ k, bR (b k) (b' k)) : nuO b = nuO b' := by
  funext n p lo hi
  unfold nuO
  rw [bR_K h, bR_V h]
theorem bR_rc (h : ∀ k, bR (b k) (b' k)) : rcO b = rcO b' := by
  funext n x p
  unfold rcO
  rw [bR_nx h, bR_sr h, bR_nu h, bR_K h, bR_V h, bR_V h]
theorem bR_rm (h : ∀ k, bR (b k) (b' k)) : rmO b = rmO b' := by
  funext n up x p
  unfold rmO
  rw [bR_nx h, bR_nu h, bR_K h]
theorem bR_rl (h : ∀ k, bR (b k) (b' k)) : rlO b = rlO b' := by
  funext n x p
  unfold rlO
  rw [bR_nx h, bR_nu h, bR_K h]
theorem bR_r1 (h : ∀ k, bR (b k) (b' k)) (n : Nat) : r1 b n = r1 b' n := by
  unfold r1
  rw [bR_rc h, bR_skp h]
  exact prs_c (fun k => bR_wd h (by omega)) _ _ _
theorem bR_r2 (h : ∀ k, bR (b k) (b' k)) (n : Nat) : r2 b n = r2 b' n := by
  unfold r2
  rw [bR_rm h, bR_r1 h]
  exact prs_c (fun k => bR_wd h (by omega)) _ _ _
theorem bR_r3 (h : ∀ k, bR (b k) (b' k)) (n : Nat) : r3 b n = r3 b' n := by
  unfold r3
  rw [bR_rl h, bR_r2 h]
  exact prs_c (fun k => bR_wd h (by omega)) _ _ _
theorem bR_pr (h : ∀ k, bR (b k) (b' k)) (n : Nat) : prO b n = prO b' n := by
  unfold prO
  have e : ∀ {α : Type} (x y : α), (if ¬ wdA b n (skp b n 0) 0 then x else y) = if ¬ wdA b' n (skp b' n 0) 0 then x else y := fun {α} x y => by
    rw [← bR_skp h]
    by_cases c : wdA b n (skp b n 0) 0
    · rw [if_neg (not_not_intro c), if_neg (not_not_intro ((bR_wd h (by omega)).mp c))]
    · rw [if_pos c, if_pos (fun z => c ((bR_wd h (by omega)).mpr z))]
  rw [e, bR_skp h, bR_r1 h, bR_r2 h, bR_r3 h, bR_K h]
theorem bR_pC (h : ∀ k, bR (b k) (b' k)) (n k : Nat) : pC b n k = pC b' n k := by
  unfold pC
  rw [bR_rc h, bR_skp h]
theorem bR_pM (h : ∀ k, bR (b k) (b' k)) (n k : Nat) : pM b n k = pM b' n k := by
  unfold pM
  rw [bR_rm h, bR_r1 h]
theorem bR_pL (h : ∀ k, bR (b k) (b' k)) (n k : Nat) : pL b n k = pL b' n k := by
  unfold pL
  rw [bR_rl h, bR_r2 h]
end BY
