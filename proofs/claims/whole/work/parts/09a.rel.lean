/-! THE RELATION of class and model -/
/-- rows -/
def R1 (B : q_FT) : Prop := ∀ r, r < 8 → (B 3 r = -1 ∧ B 192 r = -1000000) ∨ ∃ sz, sz ≤ 40 ∧ B 3 r = nI sz ∧ B 193 r = nI sz ∧ 0 ≤ B 2 r ∧ B 2 r ≤ 2 ∧ B 192 r = B 2 r ∧ ∀ i, i < 40 → B (5 + 1 * r) i = B 194 (40 * r + i)
def R3 (F B : q_FT) : Prop := (∃ t, t ≤ 400 ∧ F 13 1 = nI t ∧ F 187 10 = nI t) ∧ ∀ i, bR (B 14 i) (B 195 i)
/-- how all stand: the class's object b, the model's 16 numbers w -/
def SR (F B : q_FT) (b : Nat) (w : Nat → Int32) (n m p : Nat) (so : Nat → Int32) : Prop :=
  (∀ c, c < m → (∃ t, t < 6 ∧ B (b + 1) c = nI t) ∧ w c = B (b + 1) c ∧ w (3 + c) = B (b + 2) c ∧ (B (b + 2) c = -1000000 ∨ ∃ l, l < p ∧ B (b + 2) c = nI l ∧ B (b + 4) l = -1000000) ∧ B (b + 3) c = w (6 + c) &&& bsum (fun x => so x = 1) n) ∧
  (∀ c c', c < m → c' < m → B (b + 2) c = B (b + 2) c' → ¬ B (b + 2) c = -1000000 → c = c') ∧
  (∀ l, l < p → w (11 + l) = B (b + 4) l ∧ ((∃ t, t < 6 ∧ B (b + 4) l = nI t) ∨ (B (b + 4) l = -1000000 ∧ ∃ c, c < m ∧ B (b + 2) c = nI l))) ∧
  F b 4 = w 10 ∧ F b 5 = w 9 &&& bsum (fun x => so x = 2) n ∧ F b 6 = w 15
/-- what a land told: the class's object a, the model's numbers g -/
def GR (F B : q_FT) (a : Nat) (g : Nat → Int32) (n m p : Nat) : Prop :=
  (n ≤ 6 ∧ m ≤ 3 ∧ p ≤ 4) ∧ (F a 1 = nI n ∧ F a 6 = nI m ∧ F a 7 = nI p) ∧ (g 1 = nI n ∧ g 2 = nI m ∧ g 3 = nI p) ∧
  (∀ x, x < n → (g (4 + 4 * x) = B (a + 1) x ∧ g (5 + 4 * x) = B (a + 2) x ∧ g (6 + 4 * x) = B (a + 3) x ∧ g (7 + 4 * x) = B (a + 4) x) ∧ (B (a + 1) x = 1 ∨ B (a + 1) x = 2 ∨ B (a + 1) x = 3 ∨ B (a + 1) x = 4 ∨ B (a + 1) x = 5) ∧ (∃ e, e < 6 ∧ B (a + 2) x = nI e) ∧ (∃ e, e < 6 ∧ B (a + 3) x = nI e) ∧ ∃ s, 1 ≤ s ∧ s ≤ 9 ∧ B (a + 4) x = nI s) ∧
  (∀ l, l < p → g (28 + l) = B (a + 5) l ∧ ∃ t, t < 6 ∧ B (a + 5) l = nI t)
/-- acts that can be undone -/
def AR (F B : q_FT) (k c n m p : Nat) : Prop := k < 24 ∧ c ≤ 24 ∧ F 37 2 = nI k ∧ F 37 1 = nI c ∧ F 187 4 = nI c ∧ ∀ i, i < c → SR F B (39 + 5 * ((k + 24 - c + i) % 24)) (fun j => B 191 (16 * i + j)) n m p (B 27)
def R5 (F B : q_FT) : Prop := (F 26 0 = 0 ∨ F 26 0 = 1) ∧ B 188 0 = F 26 0 ∧ ∃ n m p, GR F B 26 (B 188) n m p ∧ SR F B 32 (fun j => B 188 (32 + j)) n m p (B 27) ∧ ∃ k c, AR F B k c n m p
def R6 (F B : q_FT) : Prop := ∀ k, k < 2 → (F (160 + 11 * k) 0 = 0 ∨ F (160 + 11 * k) 0 = 1) ∧ B 190 k = F (160 + 11 * k) 0 ∧ (F (160 + 11 * k) 0 = 1 → B 189 (48 * k) = 1 ∧ ∃ n m p, GR F B (160 + 11 * k) (fun j => B 189 (48 * k + j)) n m p ∧ SR F B (160 + 11 * k + 6) (fun j => B 189 (48 * k + (32 + j))) n m p (B (160 + 11 * k + 1)))
def R7 (F B : q_FT) : Prop := ∃ q, q ≤ 16 ∧ F 185 2 = nI q ∧ F 187 24 = nI q ∧ ∀ i, i < q → B 186 i = B 198 i
def R8 (F : q_FT) : Prop := F 21 5 = 0 ∧ F 21 6 = 0
def RE (F B : q_FT) : Prop := R1 B ∧ F 0 7 = F 187 8 ∧ R3 F B ∧ F 13 7 = F 187 17 ∧ R5 F B ∧ R6 F B ∧ R7 F B ∧ R8 F
section RC
variable {F F' B B' : q_FT}
theorem SR_c {b b' n m p : Nat} {w w' so so' : Nat → Int32} (hm : m ≤ 3) (hp : p ≤ 4) (f4 : F' b' 4 = F b 4) (f5 : F' b' 5 = F b 5) (f6 : F' b' 6 = F b 6) (h1 : ∀ j, j < 3 → B' (b' + 1) j = B (b + 1) j) (h2 : ∀ j, j < 3 → B' (b' + 2) j = B (b + 2) j) (h3 : ∀ j, j < 3 → B' (b' + 3) j = B (b + 3) j) (h4 : ∀ j, j < 4 → B' (b' + 4) j = B (b + 4) j) (hw : ∀ j, j < 16 → w' j = w j) (hso : ∀ x, x < n → so' x = so x) (h : SR F B b w n m p so) : SR F' B' b' w' n m p so' := by
  obtain ⟨q1, q2, q3, q4, q5, q6⟩ := h
  have e1 : bsum (fun x => so' x = 1) n = bsum (fun x => so x = 1) n := bsum_c n (fun x hx => by rw [hso x hx])
  have e2 : bsum (fun x => so' x = 2) n = bsum (fun x => so x = 2) n := bsum_c n (fun x hx => by rw [hso x hx])
  refine ⟨fun c hc => ?_, fun c c' hc hc' => ?_, fun l hl => ?_, ?_, ?_, ?_⟩
  · rw [h1 c (by omega), h2 c (by omega), h3 c (by omega), hw c (by omega), hw (3 + c) (by omega), hw (6 + c) (by omega), e1]
    obtain ⟨p1, p2, p3, p4, p5⟩ := q1 c hc
    refine ⟨p1, p2, p3, p4.elim Or.inl (fun ⟨l, z1, z2, z3⟩ => Or.inr ⟨l, z1, z2, ?_⟩), p5⟩
    rw [h4 l (by omega)]
    exact z3
  · rw [h2 c (by omega), h2 c' (by omega)]
    exact q2 c c' hc hc'
  · rw [h4 l (by omega), hw (11 + l) (by omega)]
    obtain ⟨p1, p2⟩ := q3 l hl
    refine ⟨p1, p2.elim Or.inl (fun ⟨z1, c, z2, z3⟩ => Or.inr ⟨z1, c, z2, ?_⟩)⟩
    rw [h2 c (by omega)]
    exact z3
  · rw [f4, hw 10 (by omega)]
    exact q4
  · rw [f5, hw 9 (by omega), e2]
    exact q5
  · rw [f6, hw 15 (by omega)]
    exact q6
theorem GR_c {a a' n m p : Nat} {g g' : Nat → Int32} (f1 : F' a' 1 = F a 1) (f6 : F' a' 6 = F a 6) (f7 : F' a' 7 = F a 7) (h1 : ∀ j, j < 6 → B' (a' + 1) j = B (a + 1) j) (h2 : ∀ j, j < 6 → B' (a' + 2) j = B (a + 2) j) (h3 : ∀ j, j < 6 → B' (a' + 3) j = B (a + 3) j) (h4 : ∀ j, j < 6 → B' (a' + 4) j = B (a + 4) j) (h5 : ∀ j, j < 4 → B' (a' + 5) j = B (a + 5) j) (hg : ∀ j, 1 ≤ j → j < 32 → g' j = g j) (h : GR F B a g n m p) : GR F' B' a' g' n m p := by
  obtain ⟨⟨n6, m3, p4⟩, q2, q3, q4, q5⟩ := h
  refine ⟨⟨n6, m3, p4⟩, ?_, ?_, fun x hx => ?_, fun l hl => ?_⟩
  · rw [f1, f6, f7]
    exact q2
  · rw [hg 1 (by omega) (by omega), hg 2 (by omega) (by omega), hg 3 (by omega) (by omega)]
    exact q3
  · rw [h1 x (by omega), h2 x (by omega), h3 x (by omega), h4 x (by omega), hg (4 + 4 * x) (by omega) (by omega), hg (5 + 4 * x) (by omega) (by omega), hg (6 + 4 * x) (by omega) (by omega), hg (7 + 4 * x) (by omega) (by omega)]
    exact q4 x hx
  · rw [h5 l (by omega), hg (28 + l) (by omega) (by omega)]
    exact q5 l hl
theorem SR_s {b n m p : Nat} {w : Nat → Int32} {so : Nat → Int32} (hm : m ≤ 3) (hp : p ≤ 4) (hF : ∀ j, F' b j = F b j) (hB : ∀ i, 1 ≤ i → i ≤ 4 → B' (b + i) = B (b + i)) (h : SR F B b w n m p so) : SR F' B' b w n m p so :=
  SR_c hm hp (hF 4) (hF 5) (hF 6) (fun j _ => by rw [hB 1 (by omega) (by omega)]) (fun j _ => by rw [hB 2 (by omega) (by omega)]) (fun j _ => by rw [hB 3 (by omega) (by omega)]) (fun j _ => by rw [hB 4 (by omega) (by omega)]) (fun _ _ => rfl) (fun _ _ => rfl) h
theorem GR_s {a n m p : Nat} {g : Nat → Int32} (hF : ∀ j, F' a j = F a j) (hB : ∀ i, 1 ≤ i → i ≤ 5 → B' (a + i) = B (a + i)) (h : GR F B a g n m p) : GR F' B' a g n m p :=
  GR_c (hF 1) (hF 6) (hF 7) (fun j _ => by rw [hB 1 (by omega) (by omega)]) (fun j _ => by rw [hB 2 (by omega) (by omega)]) (fun j _ => by rw [hB 3 (by omega) (by omega)]) (fun j _ => by rw [hB 4 (by omega) (by omega)]) (fun j _ => by rw [hB 5 (by omega) (by omega)]) (fun _ _ _ => rfl) h
theorem R1_c (h : ∀ a, (a = 2 ∨ a = 3 ∨ (5 ≤ a ∧ a ≤ 12) ∨ (192 ≤ a ∧ a ≤ 194)) → B' a = B a) (r : R1 B) : R1 B' := by
  intro i hi
  rw [h 2 (by omega), h 3 (by omega), h 192 (by omega), h 193 (by omega), h 194 (by omega), h (5 + 1 * i) (by omega)]
  exact r i hi
theorem R3_c (f1 : F' 13 1 = F 13 1) (f2 : F' 187 10 = F 187 10) (b1 : B' 14 = B 14) (b2 : B' 195 = B 195) (r : R3 F B) : R3 F' B' := by
  unfold R3
  rw [f1, f2, b1, b2]
  exact r
theorem AR_c {k c n m p : Nat} (hm : m ≤ 3) (hp : p ≤ 4) (f1 : F' 37 2 = F 37 2) (f2 : F' 37 1 = F 37 1) (f3 : F' 187 4 = F 187 4) (hF : ∀ a j, 39 ≤ a → a ≤ 158 → F' a j = F a j) (hB : ∀ a, 39 ≤ a → a ≤ 158 → B' a = B a) (b1 : B' 191 = B 191) (b2 : B' 27 = B 27) (h : AR F B k c n m p) : AR F' B' k c n m p := by
  obtain ⟨q1, q2, q3, q4, q5, q6⟩ := h
  refine ⟨q1, q2, f1.trans q3, f2.trans q4, f3.trans q5, fun i hi => ?_⟩
  rw [b1, b2]
  have hlt : (k + 24 - c + i) % 24 < 24 := Nat.mod_lt _ (by omega)
  exact SR_s hm hp (fun j => hF _ j (by omega) (by omega)) (fun x h1 h2 => hB _ (by omega) (by omega)) (q6 i hi)
theorem R5_c (hF : ∀ a j, 26 ≤ a → a ≤ 158 → F' a j = F a j) (f3 : F' 187 4 = F 187 4) (hB : ∀ a, 26 ≤ a → a ≤ 158 → B' a = B a) (b1 : B' 188 = B 188) (b2 : B' 191 = B 191) (r : R5 F B) : R5 F' B' := by
  obtain ⟨q1, q2, n, m, p, q3, q4, k, c, q5⟩ := r
  have hmp := q3.1
  unfold R5
  rw [hF 26 0 (by omega) (by omega), b1]
  refine ⟨q1, q2, n, m, p, GR_s (fun j => hF _ j (by omega) (by omega)) (fun x h1 h2 => hB _ (by omega) (by omega)) q3, ?_, k, c, AR_c hmp.2.1 hmp.2.2 (hF _ _ (by omega) (by omega)) (hF _ _ (by omega) (by omega)) f3 (fun a j h1 h2 => hF a j (by omega) (by omega)) (fun a h1 h2 => hB a (by omega) (by omega)) b2 (hB 27 (by omega) (by omega)) q5⟩
  rw [hB 27 (by omega) (by omega)]
  exact SR_s hmp.2.1 hmp.2.2 (fun j => hF _ j (by omega) (by omega)) (fun x h1 h2 => hB _ (by omega) (by omega)) q4
theorem R6_c (hF : ∀ a j, 160 ≤ a → a ≤ 181 → F' a j = F a j) (hB : ∀ a, 160 ≤ a → a ≤ 181 → B' a = B a) (b1 : B' 189 = B 189) (b2 : B' 190 = B 190) (r : R6 F B) : R6 F' B' := by
  intro k hk
  obtain ⟨q1, q2, q3⟩ := r k hk
  rw [hF _ 0 (by omega) (by omega), b1, b2]
  refine ⟨q1, q2, fun h => ?_⟩
  obtain ⟨z0, n, m, p, z1, z2⟩ := q3 h
  refine ⟨z0, n, m, p, GR_s (fun j => hF _ j (by omega) (by omega)) (fun x h1 h2 => hB _ (by omega) (by omega)) z1, ?_⟩
  rw [hB (160 + 11 * k + 1) (by omega) (by omega)]
  exact SR_s z1.1.2.1 z1.1.2.2 (fun j => hF _ j (by omega) (by omega)) (fun x h1 h2 => hB _ (by omega) (by omega)) z2
theorem R7_c (f1 : F' 185 2 = F 185 2) (f2 : F' 187 24 = F 187 24) (b1 : B' 186 = B 186) (b2 : B' 198 = B 198) (r : R7 F B) : R7 F' B' := by
  unfold R7
  rw [f1, f2, b1, b2]
  exact r
theorem R8_c (h : ∀ j, F' 21 j = F 21 j) (r : R8 F) : R8 F' := by
  unfold R8
  rw [h, h]
  exact r
/-- only what nobody sees, and the status, changes -/
theorem RE_f (r : RE F B) (hs : F' 0 7 = F' 187 8) (hF : ∀ a j, ¬ a = 182 → ¬ (a = 0 ∧ j = 7) → ¬ (a = 187 ∧ (j = 8 ∨ j = 20 ∨ j = 21 ∨ j = 22)) → F' a j = F a j) (hB : ∀ a, ¬ a = 197 → B' a = B a) : RE F' B' := by
  obtain ⟨r1, r2, r3, r4, r5, r6, r7, r8⟩ := r
  refine ⟨R1_c (fun a h => hB a (by omega)) r1, hs, R3_c (hF _ _ (by omega) (by omega) (by omega)) (hF _ _ (by omega) (by omega) (by omega)) (hB _ (by omega)) (hB _ (by omega)) r3, ?_, R5_c (fun a j h1 h2 => hF _ _ (by omega) (by omega) (by omega)) (hF _ _ (by omega) (by omega) (by omega)) (fun a h1 h2 => hB _ (by omega)) (hB _ (by omega)) (hB _ (by omega)) r5, R6_c (fun a j h1 h2 => hF _ _ (by omega) (by omega) (by omega)) (fun a h1 h2 => hB _ (by omega)) (hB _ (by omega)) (hB _ (by omega)) r6, R7_c (hF _ _ (by omega) (by omega) (by omega)) (hF _ _ (by omega) (by omega) (by omega)) (hB _ (by omega)) (hB _ (by omega)) r7, R8_c (fun j => hF _ _ (by omega) (by omega) (by omega)) r8⟩
  rw [hF 13 7 (by omega) (by omega) (by omega), hF 187 17 (by omega) (by omega) (by omega)]
  exact r4
end RC
/-- the class's call answers as the model's behind it, and they stand alike again -/
def OK2 (S SL : Nat) (xs : Nat → Int32) (dc dm Mc Mm : Nat) (Lc Lm : q_L) (F B : q_FT) (C : q_CT) : Prop :=
  ∀ Pc : Option Value → q_H → Nat → Nat → Prop, (∀ (v : Int32) (F1 B1 : q_FT) (C1 : q_CT), (∀ Pm : Option Value → q_H → Nat → Nat → Prop, (∀ (F2 B2 : q_FT) (C2 : q_CT), RE F2 B2 → Pm (some (.int v)) (hp SL xs F2 B2 C2) 199 S) → E 199 S dm Mm 0 Lm [] (hp SL xs F1 B1 C1) Pm) → Pc (some (.int v)) (hp SL xs F1 B1 C1) 199 S) → E 199 S dc Mc 0 Lc [] (hp SL xs F B C) Pc
