/-! METHODS: the class reads its tape -/
/-- statements of a sort, one after the other, r at most: fault (0 none), how many, place -/
def prs (isw : Nat → Prop) [DecidablePred isw] (st : Nat → Nat → Int32 × Nat) : Nat → Nat → Nat → Int32 × Nat × Nat
  | 0, i, p => (0, i, p)
  | r + 1, i, p => if isw p then (if (st i p).1 = 0 then prs isw st r (i + 1) (st i p).2 else ((st i p).1, i, (st i p).2)) else (0, i, p)
/-- where statement i begins -/
def pit (st : Nat → Nat → Int32 × Nat) (p0 : Nat) : Nat → Nat
  | 0 => p0
  | i + 1 => (st i (pit st p0 i)).2
theorem prs_ok {isw : Nat → Prop} [DecidablePred isw] {st : Nat → Nat → Int32 × Nat} {p0 : Nat} : ∀ (r i : Nat), (prs isw st r i (pit st p0 i)).1 = 0 → (∀ k, k < i → (st k (pit st p0 k)).1 = 0) → (prs isw st r i (pit st p0 i)).2.2 = pit st p0 (prs isw st r i (pit st p0 i)).2.1 ∧ ∀ k, k < (prs isw st r i (pit st p0 i)).2.1 → (st k (pit st p0 k)).1 = 0
  | 0, i, h, hk => ⟨rfl, hk⟩
  | r + 1, i, h, hk => by
    unfold prs at h ⊢
    by_cases c : isw (pit st p0 i)
    · rw [if_pos c] at h ⊢
      by_cases c2 : (st i (pit st p0 i)).1 = 0
      · rw [if_pos c2] at h ⊢
        refine prs_ok r (i + 1) h (fun k hk1 => ?_)
        rcases Nat.lt_or_ge k i with z | z
        · exact hk k z
        · rw [show k = i by omega]
          exact c2
      · rw [if_neg c2] at h
        exact absurd h c2
    · rw [if_neg c] at h ⊢
      exact ⟨rfl, hk⟩
abbrev upO (x : Nat) : Int32 := ((1 : Int32) <<< (nI x &&& 31)) - 1
abbrev r1 (b : Nat → Int32) (n : Nat) : Int32 × Nat × Nat := prs (fun p => wdA b n p 0) (rcO b n) 7 0 (skp b n 0)
abbrev r2 (b : Nat → Int32) (n : Nat) : Int32 × Nat × Nat := prs (fun p => wdA b n p 1) (rmO b n (upO (r1 b n).2.1)) 4 0 (r1 b n).2.2
abbrev r3 (b : Nat → Int32) (n : Nat) : Int32 × Nat × Nat := prs (fun p => wdA b n p 2) (rlO b n) 5 0 (r2 b n).2.2
/-- fault and place of a text -/
def prO (b : Nat → Int32) (n : Nat) : Int32 × Nat :=
  if ¬ wdA b n (skp b n 0) 0 then (1, skp b n 0)
  else if ¬ (r1 b n).1 = 0 then ((r1 b n).1, (r1 b n).2.2)
  else if ¬ (r2 b n).1 = 0 then ((r2 b n).1, (r2 b n).2.2)
  else if ¬ (r3 b n).1 = 0 then ((r3 b n).1, (r3 b n).2.2)
  else if tkK b n (r3 b n).2.2 = 0 then (0, (r3 b n).2.2) else (1, (r3 b n).2.2)
abbrev pC (b : Nat → Int32) (n k : Nat) : Nat := pit (rcO b n) (skp b n 0) k
abbrev pM (b : Nat → Int32) (n k : Nat) : Nat := pit (rmO b n (upO (r1 b n).2.1)) (r1 b n).2.2 k
abbrev pL (b : Nat → Int32) (n k : Nat) : Nat := pit (rlO b n) (r2 b n).2.2 k
def dC (B : q_FT) (b : Nat → Int32) (n x : Nat) : Prop := ∀ k, k < x → B 16 k = srA b n (nx b n (pC b n k)) ∧ B 17 k = tkV b n (nx b n (nx b n (pC b n k))) ∧ B 18 k = tkV b n (nx b n (nx b n (nx b n (pC b n k)))) ∧ B 19 k = tkV b n (nx b n (nx b n (nx b n (nx b n (pC b n k)))))
def dM (B : q_FT) (b : Nat → Int32) (n x c : Nat) : Prop := ∀ k, k < c → B 22 k = tkV b n (nx b n (pM b n k)) ∧ B 24 k = tkV b n (nx b n (nx b n (pM b n k))) &&& bsum (fun y => B 16 y = 1) x ∧ B 23 k = -1000000
def dL (B : q_FT) (b : Nat → Int32) (n l : Nat) : Prop := ∀ k, k < l → B 25 k = tkV b n (nx b n (pL b n k)) ∧ B 20 k = tkV b n (nx b n (nx b n (pL b n k)))
def xI (F0 B0 F B : q_FT) (b : Nat → Int32) (n x c l : Nat) : Prop := fF F0 F ∧ fB B0 B ∧ F 15 0 = 1 ∧ F 15 1 = nI x ∧ F 15 6 = nI c ∧ F 15 7 = nI l ∧ dC B b n x ∧ dM B b n x c ∧ dL B b n l
theorem xI_c {F0 B0 F B : q_FT} {b : Nat → Int32} {n x c l : Nat} (h : xI F0 B0 F B b n x 0 0) : xI F0 B0 (u2 F 15 1 (nI (x + 1))) (u2 (u2 (u2 (u2 B 16 x (srA b n (nx b n (pC b n x)))) 17 x (tkV b n (nx b n (nx b n (pC b n x))))) 18 x (tkV b n (nx b n (nx b n (nx b n (pC b n x)))))) 19 x (tkV b n (nx b n (nx b n (nx b n (nx b n (pC b n x))))))) b n (x + 1) 0 0 := by
  obtain ⟨h1, h2, h3, h4, h5, h6, h7, h8, h9⟩ := h
  refine ⟨fF_t h1 fF_15, fB_t h2 (fB_t (fB_t (fB_t (fB_u (by omega) (by omega)) (fB_u (by omega) (by omega))) (fB_u (by omega) (by omega))) (fB_u (by omega) (by omega))), ?_, u2_s, ?_, ?_, fun k hk => ?_, fun k hk => absurd hk (by omega), fun k hk => absurd hk (by omega)⟩
  · rw [← h3]; exact if_neg (by omega)
  · rw [← h5]; exact if_neg (by omega)
  · rw [← h6]; exact if_neg (by omega)
  · rcases Nat.lt_or_ge k x with z | z
    · obtain ⟨q1, q2, q3, q4⟩ := h7 k z
      refine ⟨?_, ?_, ?_, ?_⟩
      · rw [← q1]; unfold u2; rw [if_neg (by omega), if_neg (by omega), if_neg (by omega), if_neg (by omega)]
      · rw [← q2]; unfold u2; rw [if_neg (by omega), if_neg (by omega), if_neg (by omega), if_neg (by omega)]
      · rw [← q3]; unfold u2; rw [if_neg (by omega), if_neg (by omega), if_neg (by omega), if_neg (by omega)]
      · rw [← q4]; unfold u2; rw [if_neg (by omega), if_neg (by omega), if_neg (by omega), if_neg (by omega)]
    · have e : k = x := by omega
      subst e
      refine ⟨?_, ?_, ?_, ?_⟩ <;> simp [u2]
theorem bsum_c {p q : Nat → Prop} [DecidablePred p] [DecidablePred q] : ∀ n : Nat, (∀ k, k < n → (p k ↔ q k)) → bsum p n = bsum q n
  | 0, _ => rfl
  | n + 1, h => by
    have ih := bsum_c (p := p) (q := q) n (fun k hk => h k (by omega))
    unfold bsum
    by_cases c : p n
    · rw [if_pos c, if_pos ((h n (by omega)).mp c), ih]
    · rw [if_neg c, if_neg (fun z => c ((h n (by omega)).mpr z)), ih]
theorem xI_m {F0 B0 F B : q_FT} {b : Nat → Int32} {n x c : Nat} (h : xI F0 B0 F B b n x c 0) : xI F0 B0 (u2 F 15 6 (nI (c + 1))) (u2 (u2 (u2 B 22 c (tkV b n (nx b n (pM b n c)))) 24 c (tkV b n (nx b n (nx b n (pM b n c))) &&& bsum (fun y => B 16 y = 1) x)) 23 c (-1000000)) b n x (c + 1) 0 := by
  obtain ⟨h1, h2, h3, h4, h5, h6, h7, h8, h9⟩ := h
  have e16 : u2 (u2 (u2 B 22 c (tkV b n (nx b n (pM b n c)))) 24 c (tkV b n (nx b n (nx b n (pM b n c))) &&& bsum (fun y => B 16 y = 1) x)) 23 c (-1000000) 16 = B 16 := by
    rw [u2_r (by omega), u2_r (by omega), u2_r (by omega)]
  refine ⟨fF_t h1 fF_15, fB_t h2 (fB_t (fB_t (fB_u (by omega) (by omega)) (fB_u (by omega) (by omega))) (fB_u (by omega) (by omega))), ?_, ?_, u2_s, ?_, fun k hk => ?_, fun k hk => ?_, fun k hk => absurd hk (by omega)⟩
  · rw [← h3]; exact if_neg (by omega)
  · rw [← h4]; exact if_neg (by omega)
  · rw [← h6]; exact if_neg (by omega)
  · obtain ⟨q1, q2, q3, q4⟩ := h7 k hk
    refine ⟨?_, ?_, ?_, ?_⟩
    · rw [← q1]; unfold u2; rw [if_neg (by omega), if_neg (by omega), if_neg (by omega)]
    · rw [← q2]; unfold u2; rw [if_neg (by omega), if_neg (by omega), if_neg (by omega)]
    · rw [← q3]; unfold u2; rw [if_neg (by omega), if_neg (by omega), if_neg (by omega)]
    · rw [← q4]; unfold u2; rw [if_neg (by omega), if_neg (by omega), if_neg (by omega)]
  · rw [e16]
    rcases Nat.lt_or_ge k c with z | z
    · obtain ⟨q1, q2, q3⟩ := h8 k z
      refine ⟨?_, ?_, ?_⟩
      · rw [← q1]; unfold u2; rw [if_neg (by omega), if_neg (by omega), if_neg (by omega)]
      · rw [← q2]; unfold u2; rw [if_neg (by omega), if_neg (by omega), if_neg (by omega)]
      · rw [← q3]; unfold u2; rw [if_neg (by omega), if_neg (by omega), if_neg (by omega)]
    · have e : k = c := by omega
      subst e
      refine ⟨?_, ?_, ?_⟩ <;> simp [u2]
theorem xI_l {F0 B0 F B : q_FT} {b : Nat → Int32} {n x c l : Nat} (h : xI F0 B0 F B b n x c l) : xI F0 B0 (u2 F 15 7 (nI (l + 1))) (u2 (u2 B 25 l (tkV b n (nx b n (pL b n l)))) 20 l (tkV b n (nx b n (nx b n (pL b n l))))) b n x c (l + 1) := by
  obtain ⟨h1, h2, h3, h4, h5, h6, h7, h8, h9⟩ := h
  have e16 : u2 (u2 B 25 l (tkV b n (nx b n (pL b n l)))) 20 l (tkV b n (nx b n (nx b n (pL b n l)))) 16 = B 16 := by
    rw [u2_r (by omega), u2_r (by omega)]
  refine ⟨fF_t h1 fF_15, fB_t h2 (fB_t (fB_u (by omega) (by omega)) (fB_u (by omega) (by omega))), ?_, ?_, ?_, u2_s, fun k hk => ?_, fun k hk => ?_, fun k hk => ?_⟩
  · rw [← h3]; exact if_neg (by omega)
  · rw [← h4]; exact if_neg (by omega)
  · rw [← h5]; exact if_neg (by omega)
  · obtain ⟨q1, q2, q3, q4⟩ := h7 k hk
    refine ⟨?_, ?_, ?_, ?_⟩
    · rw [← q1]; unfold u2; rw [if_neg (by omega), if_neg (by omega)]
    · rw [← q2]; unfold u2; rw [if_neg (by omega), if_neg (by omega)]
    · rw [← q3]; unfold u2; rw [if_neg (by omega), if_neg (by omega)]
    · rw [← q4]; unfold u2; rw [if_neg (by omega), if_neg (by omega)]
  · rw [e16]
    obtain ⟨q1, q2, q3⟩ := h8 k hk
    refine ⟨?_, ?_, ?_⟩
    · rw [← q1]; unfold u2; rw [if_neg (by omega), if_neg (by omega)]
    · rw [← q2]; unfold u2; rw [if_neg (by omega), if_neg (by omega)]
    · rw [← q3]; unfold u2; rw [if_neg (by omega), if_neg (by omega)]
  · rcases Nat.lt_or_ge k l with z | z
    · obtain ⟨q1, q2⟩ := h9 k z
      refine ⟨?_, ?_⟩
      · rw [← q1]; unfold u2; rw [if_neg (by omega), if_neg (by omega)]
      · rw [← q2]; unfold u2; rw [if_neg (by omega), if_neg (by omega)]
    · have e : k = l := by omega
      subst e
      refine ⟨?_, ?_⟩ <;> simp [u2]
theorem xFail_m {F0 B0 F B F' B' : q_FT} {f : Int32} {p : Nat} (h1 : fF F0 F) (h2 : fB B0 B) (h : xFail F B F' B' f p) : xFail F0 B0 F' B' f p := ⟨h.1, h.2.1, fun a k p q r => (h.2.2.1 a k p q r).trans (h1 a k (by omega) q r), fB_t h2 h.2.2.2⟩
/-- places are on the tape -/
theorem rcO_le {b : Nat → Int32} {n x p : Nat} (h : p ≤ n) : (rcO b n x p).2 ≤ n := by
  have p1 := nx_le (b := b) h
  have p2 := nx_le (b := b) p1
  have p3 := nx_le (b := b) p2
  have p4 := nx_le (b := b) p3
  have p5 := nx_le (b := b) p4
  have p6 := nx_le (b := b) p5
  unfold rcO
  split
  · exact h
  · split
    · exact p1
    · split
      · exact p2
      · split
        · exact p3
        · split
          · exact p3
          · split
            · exact p4
            · split
              · exact p5
              · exact p6
theorem rmO_le {b : Nat → Int32} {n x p : Nat} {up : Int32} (h : p ≤ n) : (rmO b n up x p).2 ≤ n := by
  have p1 := nx_le (b := b) h
  have p2 := nx_le (b := b) p1
  have p3 := nx_le (b := b) p2
  have p4 := nx_le (b := b) p3
  unfold rmO
  split
  · exact h
  · split
    · exact p1
    · split
      · exact p2
      · split
        · exact p3
        · exact p4
theorem rlO_le {b : Nat → Int32} {n x p : Nat} (h : p ≤ n) : (rlO b n x p).2 ≤ n := by
  have p1 := nx_le (b := b) h
  have p2 := nx_le (b := b) p1
  have p3 := nx_le (b := b) p2
  have p4 := nx_le (b := b) p3
  unfold rlO
  split
  · exact h
  · split
    · exact p1
    · split
      · exact p2
      · split
        · exact p3
        · exact p4
theorem prs_le {isw : Nat → Prop} [DecidablePred isw] {st : Nat → Nat → Int32 × Nat} {n : Nat} (hs : ∀ i p, p ≤ n → (st i p).2 ≤ n) : ∀ (r i p : Nat), p ≤ n → (prs isw st r i p).2.2 ≤ n
  | 0, i, p, h => h
  | r + 1, i, p, h => by
    unfold prs
    split
    · split
      · exact prs_le hs r (i + 1) _ (hs i p h)
      · exact hs i p h
    · exact h
theorem pit_le {st : Nat → Nat → Int32 × Nat} {n p0 : Nat} (hs : ∀ i p, p ≤ n → (st i p).2 ≤ n) (h : p0 ≤ n) : ∀ i : Nat, pit st p0 i ≤ n
  | 0 => h
  | i + 1 => hs i _ (pit_le hs h i)
theorem r1_le {b : Nat → Int32} {n : Nat} : (r1 b n).2.2 ≤ n := prs_le (fun i p h => rcO_le h) 7 0 _ (skp_le (by omega))
theorem r2_le {b : Nat → Int32} {n : Nat} : (r2 b n).2.2 ≤ n := prs_le (fun i p h => rmO_le h) 4 0 _ r1_le
theorem r3_le {b : Nat → Int32} {n : Nat} : (r3 b n).2.2 ≤ n := prs_le (fun i p h => rlO_le h) 5 0 _ r2_le
theorem pC_le {b : Nat → Int32} {n k : Nat} : pC b n k ≤ n := pit_le (fun i p h => rcO_le h) (skp_le (by omega)) k
theorem pM_le {b : Nat → Int32} {n k : Nat} : pM b n k ≤ n := pit_le (fun i p h => rmO_le h) r1_le k
theorem pL_le {b : Nat → Int32} {n k : Nat} : pL b n k ≤ n := pit_le (fun i p h => rlO_le h) r2_le k
theorem rcO_6 {b : Nat → Int32} {n p : Nat} : (rcO b n 6 p).1 = 3 := by
  unfold rcO
  rw [if_pos (by omega)]
theorem rmO_3 {b : Nat → Int32} {n p : Nat} {up : Int32} : (rmO b n up 3 p).1 = 3 := by
  unfold rmO
  rw [if_pos (by omega)]
theorem rlO_4 {b : Nat → Int32} {n p : Nat} : (rlO b n 4 p).1 = 3 := by
  unfold rlO
  rw [if_pos (by omega)]
theorem r1_6 {b : Nat → Int32} {n : Nat} (h : (r1 b n).1 = 0) : (r1 b n).2.1 ≤ 6 := by
  have q := (prs_ok (isw := fun p => wdA b n p 0) (st := rcO b n) (p0 := skp b n 0) 7 0 h (fun k hk => absurd hk (by omega))).2
  rcases Nat.lt_or_ge 6 (r1 b n).2.1 with z | z
  · have := q 6 z
    exact absurd (rcO_6.symm.trans this) (by decide)
  · exact z
theorem r2_3 {b : Nat → Int32} {n : Nat} (h : (r2 b n).1 = 0) : (r2 b n).2.1 ≤ 3 := by
  have q := (prs_ok (isw := fun p => wdA b n p 1) (st := rmO b n (upO (r1 b n).2.1)) (p0 := (r1 b n).2.2) 4 0 h (fun k hk => absurd hk (by omega))).2
  rcases Nat.lt_or_ge 3 (r2 b n).2.1 with z | z
  · have := q 3 z
    exact absurd (rmO_3.symm.trans this) (by decide)
  · exact z
theorem r3_4 {b : Nat → Int32} {n : Nat} (h : (r3 b n).1 = 0) : (r3 b n).2.1 ≤ 4 := by
  have q := (prs_ok (isw := fun p => wdA b n p 2) (st := rlO b n) (p0 := (r2 b n).2.2) 5 0 h (fun k hk => absurd hk (by omega))).2
  rcases Nat.lt_or_ge 4 (r3 b n).2.1 with z | z
  · have := q 4 z
    exact absurd (rlO_4.symm.trans this) (by decide)
  · exact z
