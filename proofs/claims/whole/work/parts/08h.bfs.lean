/-! LAYERS of steps are least ways -/
theorem tA_0 {tk layer : Nat} (h0 : tk = 0) : ∀ (r t : Nat) (C : q_CT), tA tk layer r t C = C
  | 0, t, C => rfl
  | r + 1, t, C => by
    have e : tC tk layer t C = C := if_pos h0
    show tA tk layer r (t + 1) (tC tk layer t C) = C
    rw [e]
    exact tA_0 h0 r (t + 1) C
/-- cells that are joined -/
def jC (tk c c' : Nat) : Prop := ¬ tk = 0 ∧ ∃ t, t < 6 ∧ ((c = eC8 tk t ∧ c' = t * 8 + 6) ∨ (c = t * 8 + 6 ∧ c' = eC8 tk t))
theorem tA_bt {tk layer c k : Nat} {C : q_CT} (hc : c < 48) : bt (tA tk layer 6 0 C 183 (layer + c)) k = true ↔ (bt (C 183 (layer + c)) k = true ∨ ∃ c', jC tk c c' ∧ bt (C 183 (layer + c')) k = true) := by
  by_cases h0 : tk = 0
  · rw [tA_0 h0]
    exact ⟨Or.inl, fun z => z.elim id (fun ⟨c', h, _⟩ => absurd h0 h.1)⟩
  · obtain ⟨i1, i2⟩ := tA_at (layer := layer) h0 6 0 C (by omega)
    have ht : c / 8 < 6 := by omega
    obtain ⟨q1, q2⟩ := i1 (c / 8) (by omega) (by omega)
    by_cases c1 : c = eC8 tk (c / 8)
    · rw [← c1] at q1
      rw [q1, bt_or, Bool.or_eq_true]
      constructor
      · rintro (z | z)
        · exact Or.inl z
        · exact Or.inr ⟨_, ⟨h0, c / 8, ht, Or.inl ⟨c1, rfl⟩⟩, z⟩
      · rintro (z | ⟨c', ⟨-, t, ht', ⟨z1, z2⟩ | ⟨z1, z2⟩⟩, z3⟩)
        · exact Or.inl z
        · have e := eC8_t (tk := tk) ht'
          have : t = c / 8 := by omega
          rw [z2, this] at z3
          exact Or.inr z3
        · have e := eC8_t (tk := tk) ht
          omega
    · by_cases c2 : c = c / 8 * 8 + 6
      · rw [← c2] at q2
        rw [q2, bt_or, Bool.or_eq_true]
        constructor
        · rintro (z | z)
          · exact Or.inr ⟨_, ⟨h0, c / 8, ht, Or.inr ⟨c2, rfl⟩⟩, z⟩
          · exact Or.inl z
        · rintro (z | ⟨c', ⟨-, t, ht', ⟨z1, z2⟩ | ⟨z1, z2⟩⟩, z3⟩)
          · exact Or.inr z
          · have e := eC8_t (tk := tk) ht'
            omega
          · have : t = c / 8 := by omega
            rw [z2, this] at z3
            exact Or.inl z3
      · rw [i2 (layer + c) (fun t _ ht' => by
          have e := eC8_t (tk := tk) (t := t) (by omega)
          refine ⟨fun z => c1 ?_, fun z => c2 ?_⟩
          · have : t = c / 8 := by omega
            rw [← this]
            omega
          · omega)]
        refine ⟨Or.inl, fun z => z.elim id (fun ⟨c', ⟨_, t, ht', y⟩, _⟩ => ?_)⟩
        have e := eC8_t (tk := tk) ht'
        rcases y with ⟨y, -⟩ | ⟨y, -⟩
        · exact absurd (by rw [show c / 8 = t by omega]; exact y) c1
        · exact absurd (by omega) c2
theorem tA_o {tk far j c : Nat} {C : q_CT} (hc : c < 48) (h : ¬ j % 10 = far % 10) : tA tk (far % 10 * 48) 6 0 C 183 (j % 10 * 48 + c) = C 183 (j % 10 * 48 + c) := by
  by_cases h0 : tk = 0
  · rw [tA_0 h0]
  · exact (tA_at (layer := far % 10 * 48) h0 6 0 C (by omega)).2 _ (fun t _ ht => by
      have e := eC8_t (tk := tk) (t := t) (by omega)
      omega)
section BF
variable {so : Nat → Int32} {ea eb sp : Nat → Nat} {us : Int32} {m tk s0 c0 k0 : Nat} {E1 : Nat → Nat → Nat → Prop} {VC : Nat → Prop} {cn : Nat → Nat → Nat}
/-- cells and sets are nodes -/
def BH (so : Nat → Int32) (ea eb sp : Nat → Nat) (us : Int32) (m tk s0 c0 k0 : Nat) (E1 : Nat → Nat → Nat → Prop) (VC : Nat → Prop) (cn : Nat → Nat → Nat) : Prop :=
  (∀ c, VC c → c < 48) ∧
  (∀ c k x c' k', VC c → k < 64 → x < m → uX ea eb us x c c' → xmR so x (decide (c % 8 = 6)) k k' → k' < 64 ∧ VC c' ∧ E1 (cn c k) (cn c' k') (sp x)) ∧
  (∀ c k t w, VC c → k < 64 → E1 (cn c k) t w → (∃ c1 k1 x c' k', VC c1 ∧ k1 < 64 ∧ cn c1 k1 = cn c k ∧ x < m ∧ uX ea eb us x c1 c' ∧ xmR so x (decide (c1 % 8 = 6)) k1 k' ∧ cn c' k' = t ∧ w = sp x) ∨ (w = 0 ∧ ∃ c', jC tk c c' ∧ t = cn c' k)) ∧
  (∀ c c' k v, jC tk c c' → k < 64 → VC c ∧ VC c' ∧ (RP E1 s0 (cn c k) v ↔ RP E1 s0 (cn c' k) v)) ∧
  (∀ c k c' k', VC c → VC c' → k < 64 → k' < 64 → cn c k = cn c' k' → k = k' ∧ (c = c' ∨ jC tk c c')) ∧
  (VC c0 ∧ k0 < 64 ∧ cn c0 k0 = s0) ∧ (∀ x, x < m → 1 ≤ sp x ∧ sp x ≤ 9) ∧ (∀ x c c', x < m → uX ea eb us x c c' → c % 8 < 8 → c' < 48) ∧ m ≤ 6
theorem jC_s {c c' : Nat} (h : jC tk c c') : jC tk c' c := ⟨h.1, by
  obtain ⟨-, t, ht, ⟨h1, h2⟩ | ⟨h1, h2⟩⟩ := h
  · exact ⟨t, ht, Or.inr ⟨h2, h1⟩⟩
  · exact ⟨t, ht, Or.inl ⟨h2, h1⟩⟩⟩
/-- how far a node is -/
def dS (E1 : Nat → Nat → Nat → Prop) (s0 s v : Nat) : Prop := RP E1 s0 s v ∧ ∀ v', v' < v → ¬ RP E1 s0 s v'
theorem dS_ex {s v : Nat} (h : RP E1 s0 s v) : ∃ d, d ≤ v ∧ dS E1 s0 s d := by
  obtain ⟨d, h1, h2⟩ := pk_least (RP E1 s0 s) ⟨v, h⟩
  refine ⟨d, ?_, h1, h2⟩
  rcases Nat.lt_or_ge v d with z | z
  · exact absurd h (h2 v z)
  · exact z
/-- the search's state ahead of layer far -/
def lI (so : Nat → Int32) (ea eb sp : Nat → Nat) (us : Int32) (m s0 c0 k0 : Nat) (E1 : Nat → Nat → Nat → Prop) (VC : Nat → Prop) (cn : Nat → Nat → Nat) (gc : Nat) (gs : Int64) (far : Nat) (C : q_CT) (la : Nat) : Prop :=
  la ≤ far + 9 ∧
  (∀ c k, c < 48 → k < 64 → (bt (C 184 c) k = true ↔ VC c ∧ ∃ v, v < far ∧ RP E1 s0 (cn c k) v)) ∧
  (∀ j c k, far ≤ j → j < far + 10 → c < 48 → k < 64 → bt (C 183 (j % 10 * 48 + c)) k = true → VC c ∧ RP E1 s0 (cn c k) j ∧ j ≤ la) ∧
  (∀ c k d x c' k', VC c → k < 64 → dS E1 s0 (cn c k) d → d < far → x < m → uX ea eb us x c c' → xmR so x (decide (c % 8 = 6)) k k' → far ≤ d + sp x → bt (C 183 ((d + sp x) % 10 * 48 + c')) k' = true ∨ ∃ v, v < far ∧ RP E1 s0 (cn c' k') v) ∧
  (far = 0 → bt (C 183 c0) k0 = true) ∧
  (∀ k, k < 64 → bt gs k = true → ∀ v, v < far → ¬ RP E1 s0 (cn gc k) v)
theorem rep_ex (H : BH so ea eb sp us m tk s0 c0 k0 E1 VC cn) : ∀ (n s v : Nat), rch E1 s0 n s v → ∃ c k, VC c ∧ k < 64 ∧ cn c k = s
  | 0, s, v, h => ⟨c0, k0, H.2.2.2.2.2.1.1, H.2.2.2.2.2.1.2.1, H.2.2.2.2.2.1.2.2.trans h.1.symm⟩
  | n + 1, s, v, h => by
    obtain ⟨s', v', w, h1, h2, -⟩ := h
    obtain ⟨c, k, hc, hk, rfl⟩ := rep_ex H n s' v' h1
    rcases H.2.2.1 c k s w hc hk h2 with ⟨c1, k1, x, c', k', q1, q2, q3, q4, q5, q6, q7, q8⟩ | ⟨-, c', q1, q2⟩
    · obtain ⟨p1, p2, -⟩ := H.2.1 c1 k1 x c' k' q1 q2 q4 q5 q6
      exact ⟨c', k', p2, p1, q7⟩
    · exact ⟨c', k, (H.2.2.2.1 c c' k 0 q1 hk).2.1, hk, q2.symm⟩
/-- all nodes that are far away are in the layer -/
theorem lay_M {gc far la : Nat} {gs : Int64} {C : q_CT} (H : BH so ea eb sp us m tk s0 c0 k0 E1 VC cn) (I : lI so ea eb sp us m s0 c0 k0 E1 VC cn gc gs far C la) : ∀ (n s : Nat), rch E1 s0 n s far → dS E1 s0 s far → ∀ c k, VC c → k < 64 → cn c k = s → bt (tA tk (far % 10 * 48) 6 0 C 183 (far % 10 * 48 + c)) k = true := by
  have tr : ∀ c1 k1 c k, VC c1 → k1 < 64 → VC c → k < 64 → cn c1 k1 = cn c k → bt (tA tk (far % 10 * 48) 6 0 C 183 (far % 10 * 48 + c1)) k1 = true → bt (tA tk (far % 10 * 48) 6 0 C 183 (far % 10 * 48 + c)) k = true := by
    intro c1 k1 c k h1 h2 h3 h4 h5 h6
    obtain ⟨rfl, rfl | h⟩ := H.2.2.2.2.1 c1 k1 c k h1 h3 h2 h4 h5
    · exact h6
    · rw [tA_bt (H.1 _ h3)]
      rw [tA_bt (H.1 _ h1)] at h6
      rcases h6 with z | ⟨c', z1, z2⟩
      · exact Or.inr ⟨c1, jC_s h, z⟩
      · have : c' = c := by
          obtain ⟨-, t, ht, y⟩ := h
          obtain ⟨-, t', ht', y'⟩ := z1
          have e := eC8_t (tk := tk) ht
          have e' := eC8_t (tk := tk) ht'
          rcases y with ⟨y1, y2⟩ | ⟨y1, y2⟩ <;> rcases y' with ⟨y3, y4⟩ | ⟨y3, y4⟩
          · have : t = t' := by omega
            rw [y4, y2, this]
          · omega
          · omega
          · have : t = t' := by omega
            rw [y4, y2, this]
        rw [this] at z2
        exact Or.inl z2
  intro n
  induction n with
  | zero =>
    rintro s ⟨rfl, rfl⟩ hd c k hc hk he
    have h0 := I.2.2.2.2.1 rfl
    obtain ⟨q1, q2, q3⟩ := H.2.2.2.2.2.1
    refine tr c0 k0 c k q1 q2 hc hk (q3.trans he.symm) ?_
    rw [tA_bt (H.1 _ q1)]
    refine Or.inl ?_
    rw [show 0 % 10 * 48 + c0 = c0 by omega]
    exact h0
  | succ n ih =>
    rintro s ⟨s', v', w, h1, h2, h3⟩ hd c k hc hk he
    obtain ⟨c2, k2, g1, g2, g3⟩ := rep_ex H n s' v' h1
    subst g3
    have hd' : dS E1 s0 (cn c2 k2) v' := ⟨⟨n, h1⟩, fun v'' hv z => hd.2 (v'' + w) (by omega) (RP_s z h2)⟩
    rcases H.2.2.1 c2 k2 s w g1 g2 h2 with ⟨c1, k1, x, c', k', q1, q2, q3, q4, q5, q6, q7, q8⟩ | ⟨q0, c', q1, q2⟩
    · have hw := H.2.2.2.2.2.2.1 x q4
      obtain ⟨p1, p2, -⟩ := H.2.1 c1 k1 x c' k' q1 q2 q4 q5 q6
      rw [← q3] at hd'
      refine tr c' k' c k p2 p1 hc hk (q7.trans he.symm) ?_
      rw [tA_bt (H.1 _ p2)]
      rcases I.2.2.2.1 c1 k1 v' x c' k' q1 q2 hd' (by omega) q4 q5 q6 (by omega) with z | ⟨v, z1, z2⟩
      · rw [show v' + sp x = far by omega] at z
        exact Or.inl z
      · rw [q7] at z2
        exact absurd z2 (hd.2 v z1)
    · have e : v' = far := by omega
      subst e
      have hb := ih _ h1 hd' c2 k2 g1 g2 rfl
      obtain ⟨r1, r2, -⟩ := H.2.2.2.1 c2 c' k2 0 q1 g2
      refine tr c' k2 c k r2 g2 hc hk (q2.symm.trans he.symm) ?_
      rw [tA_bt (H.1 _ r2)]
      rw [tA_bt (H.1 _ r1)] at hb
      rcases hb with z | ⟨c'', z1, z2⟩
      · exact Or.inr ⟨c2, jC_s q1, z⟩
      · have : c'' = c' := by
          obtain ⟨-, t, ht, y⟩ := q1
          obtain ⟨-, t', ht', y'⟩ := z1
          have e := eC8_t (tk := tk) ht
          have e' := eC8_t (tk := tk) ht'
          rcases y with ⟨y1, y2⟩ | ⟨y1, y2⟩ <;> rcases y' with ⟨y3, y4⟩ | ⟨y3, y4⟩
          · have : t = t' := by omega
            rw [y4, y2, this]
          · omega
          · omega
          · have : t = t' := by omega
            rw [y4, y2, this]
        rw [this] at z2
        exact Or.inl z2
theorem lay_S {gc far la c k : Nat} {gs : Int64} {C : q_CT} (H : BH so ea eb sp us m tk s0 c0 k0 E1 VC cn) (I : lI so ea eb sp us m s0 c0 k0 E1 VC cn gc gs far C la) (hc : c < 48) (hk : k < 64) (h : bt (tA tk (far % 10 * 48) 6 0 C 183 (far % 10 * 48 + c)) k = true) : VC c ∧ RP E1 s0 (cn c k) far ∧ far ≤ la := by
  rw [tA_bt hc] at h
  rcases h with z | ⟨c', z1, z2⟩
  · exact I.2.2.1 far c k (Nat.le_refl _) (by omega) hc hk z
  · obtain ⟨r1, r2, r3⟩ := H.2.2.2.1 c c' k far z1 hk
    obtain ⟨-, p2, p3⟩ := I.2.2.1 far c' k (Nat.le_refl _) (by omega) (H.1 _ r2) hk z2
    exact ⟨r1, r3.mpr p2, p3⟩
/-- what is fresh is just so far -/
theorem lay_F {gc far la c k : Nat} {gs : Int64} {C : q_CT} (H : BH so ea eb sp us m tk s0 c0 k0 E1 VC cn) (I : lI so ea eb sp us m s0 c0 k0 E1 VC cn gc gs far C la) (hc : c < 48) (hk : k < 64) : (bt (tA tk (far % 10 * 48) 6 0 C 183 (far % 10 * 48 + c)) k = true ∧ bt (C 184 c) k = false) ↔ (VC c ∧ dS E1 s0 (cn c k) far) := by
  constructor
  · rintro ⟨h1, h2⟩
    obtain ⟨q1, q2, -⟩ := lay_S H I hc hk h1
    refine ⟨q1, q2, fun v hv z => ?_⟩
    have := (I.2.1 c k hc hk).mpr ⟨q1, v, hv, z⟩
    rw [h2] at this
    exact absurd this (by decide)
  · rintro ⟨h1, h2⟩
    obtain ⟨⟨n, hn⟩, h4⟩ := h2
    refine ⟨lay_M H I n _ hn ⟨⟨n, hn⟩, h4⟩ c k h1 hk rfl, ?_⟩
    refine Bool.eq_false_iff.mpr (fun z => ?_)
    obtain ⟨-, v, hv, z2⟩ := (I.2.1 c k hc hk).mp z
    exact h4 v hv z2
/-- the cells below i are done -/
def cI (so : Nat → Int32) (ea eb sp : Nat → Nat) (us : Int32) (m s0 : Nat) (E1 : Nat → Nat → Nat → Prop) (VC : Nat → Prop) (cn : Nat → Nat → Nat) (far : Nat) (C1 : q_CT) (la i : Nat) (q : q_CT × Nat) : Prop :=
  (∀ c, c < 48 → (c < i → ∀ k, k < 64 → (bt (q.1 184 c) k = true ↔ VC c ∧ ∃ v, v < far + 1 ∧ RP E1 s0 (cn c k) v)) ∧ (i ≤ c → q.1 184 c = C1 184 c)) ∧
  (∀ c k, c < 48 → k < 64 → (c < i → bt (q.1 183 (far % 10 * 48 + c)) k = false) ∧ (i ≤ c → bt (q.1 183 (far % 10 * 48 + c)) k = bt (C1 183 (far % 10 * 48 + c)) k)) ∧
  (∀ j c k, far < j → j < far + 10 → c < 48 → k < 64 → (bt (C1 183 (j % 10 * 48 + c)) k = true → bt (q.1 183 (j % 10 * 48 + c)) k = true) ∧ (bt (q.1 183 (j % 10 * 48 + c)) k = true → VC c ∧ RP E1 s0 (cn c k) j ∧ j ≤ q.2)) ∧
  (∀ c k x c' k', c < i → VC c → k < 64 → dS E1 s0 (cn c k) far → x < m → uX ea eb us x c c' → xmR so x (decide (c % 8 = 6)) k k' → bt (q.1 183 ((far + sp x) % 10 * 48 + c')) k' = true ∨ ∃ v, v < far + 1 ∧ RP E1 s0 (cn c' k') v) ∧
  la ≤ q.2 ∧ q.2 ≤ far + 10
theorem cI_0 {gc far la : Nat} {gs : Int64} {C : q_CT} (I : lI so ea eb sp us m s0 c0 k0 E1 VC cn gc gs far C la) : cI so ea eb sp us m s0 E1 VC cn far (tA tk (far % 10 * 48) 6 0 C) la 0 (tA tk (far % 10 * 48) 6 0 C, la) := by
  refine ⟨fun c hc => ⟨fun h => absurd h (by omega), fun _ => rfl⟩, fun c k hc hk => ⟨fun h => absurd h (by omega), fun _ => rfl⟩, fun j c k h1 h2 hc hk => ⟨id, fun h => ?_⟩, fun c k x c' k' h => absurd h (by omega), Nat.le_refl _, by have := I.1; show la ≤ far + 10; omega⟩
  have e := tA_o (tk := tk) (far := far) (j := j) (C := C) hc (by omega)
  have h' : bt (C 183 (j % 10 * 48 + c)) k = true := by rw [← e]; exact h
  exact I.2.2.1 j c k (by omega) h2 hc hk h'
theorem cI_s {gc far la i : Nat} {gs : Int64} {C : q_CT} {q : q_CT × Nat} (H : BH so ea eb sp us m tk s0 c0 k0 E1 VC cn) (I : lI so ea eb sp us m s0 c0 k0 E1 VC cn gc gs far C la) (hi : i < 48) (J : cI so ea eb sp us m s0 E1 VC cn far (tA tk (far % 10 * 48) 6 0 C) la i q) : cI so ea eb sp us m s0 E1 VC cn far (tA tk (far % 10 * 48) 6 0 C) la (i + 1) (cX so ea eb sp us m far i q) := by
  obtain ⟨J1, J2, J3, J4, J5, J6⟩ := J
  have e184 : q.1 184 i = C 184 i := ((J1 i hi).2 (Nat.le_refl _)).trans (by rw [tA_f (by omega)])
  have hfr : ∀ k, k < 64 → (bt (q.1 183 (far % 10 * 48 + i) &&& (q.1 184 i ^^^ -1)) k = true ↔ VC i ∧ dS E1 s0 (cn i k) far) := fun k hk => by
    rw [bt_and, bt_not hk, (J2 i k hi hk).2 (Nat.le_refl _), e184, Bool.and_eq_true, Bool.not_eq_true']
    exact lay_F H I hi hk
  have hseen : ∀ k, k < 64 → ((VC i ∧ ∃ v, v < far + 1 ∧ RP E1 s0 (cn i k) v) ↔ (bt (C 184 i) k = true ∨ (VC i ∧ dS E1 s0 (cn i k) far))) := fun k hk => by
    rw [I.2.1 i k hi hk]
    constructor
    · rintro ⟨h1, v, h2, h3⟩
      by_cases z : ∃ v', v' < far ∧ RP E1 s0 (cn i k) v'
      · exact Or.inl ⟨h1, z⟩
      · have hv : v = far := by
          rcases Nat.lt_or_ge v far with y | y
          · exact absurd ⟨v, y, h3⟩ z
          · omega
        rw [hv] at h3
        exact Or.inr ⟨h1, h3, fun v' hv' h => z ⟨v', hv', h⟩⟩
    · rintro (⟨h1, v, h2, h3⟩ | ⟨h1, h2, -⟩)
      · exact ⟨h1, v, by omega, h3⟩
      · exact ⟨h1, far, by omega, h2⟩
  unfold cX
  by_cases c1 : q.1 183 (far % 10 * 48 + i) &&& (q.1 184 i ^^^ -1) = 0
  · rw [if_pos c1]
    have hno : ∀ k, k < 64 → ¬ (VC i ∧ dS E1 s0 (cn i k) far) := fun k hk z => by
      have := (hfr k hk).mpr z
      rw [bt_z c1] at this
      exact absurd this (by decide)
    have e1 : ∀ c v, u2 q.1 183 (far % 10 * 48 + i) v 184 c = q.1 184 c := fun c v => if_neg (by omega)
    refine ⟨fun c hc => ⟨fun h k hk => ?_, fun h => ?_⟩, fun c k hc hk => ⟨fun h => ?_, fun h => ?_⟩, fun j c k h1 h2 hc hk => ?_, fun c k x c' k' h hV hk hd hx hu hr => ?_, J5, J6⟩
    · dsimp only
      rw [e1]
      rcases Nat.lt_or_ge c i with z | z
      · exact (J1 c hc).1 z k hk
      · have e : c = i := by omega
        subst e
        rw [hseen k hk, e184]
        exact ⟨Or.inl, fun y => y.elim id (fun y => absurd y (hno k hk))⟩
    · dsimp only
      rw [e1]
      exact (J1 c hc).2 (by omega)
    · dsimp only
      rcases Nat.lt_or_ge c i with z | z
      · rw [show ∀ v, u2 q.1 183 (far % 10 * 48 + i) v 183 (far % 10 * 48 + c) = q.1 183 (far % 10 * 48 + c) from fun v => if_neg (by omega)]
        exact (J2 c k hc hk).1 z
      · have e : c = i := by omega
        subst e
        rw [u2_s]
        exact bt_0
    · dsimp only
      rw [show ∀ v, u2 q.1 183 (far % 10 * 48 + i) v 183 (far % 10 * 48 + c) = q.1 183 (far % 10 * 48 + c) from fun v => if_neg (by omega)]
      exact (J2 c k hc hk).2 (by omega)
    · dsimp only
      rw [show ∀ v, u2 q.1 183 (far % 10 * 48 + i) v 183 (j % 10 * 48 + c) = q.1 183 (j % 10 * 48 + c) from fun v => if_neg (by omega)]
      exact J3 j c k h1 h2 hc hk
    · dsimp only
      rcases Nat.lt_or_ge c i with z | z
      · have hw := H.2.2.2.2.2.2.1 x hx
        have hc' := H.2.2.2.2.2.2.2.1 x c c' hx hu (Nat.mod_lt _ (by omega))
        rw [show ∀ v, u2 q.1 183 (far % 10 * 48 + i) v 183 ((far + sp x) % 10 * 48 + c') = q.1 183 ((far + sp x) % 10 * 48 + c') from fun v => if_neg (by omega)]
        exact J4 c k x c' k' z hV hk hd hx hu hr
      · have e : c = i := by omega
        subst e
        exact absurd ⟨hV, hd⟩ (hno k hk)
  · rw [if_neg c1]
    have G := gA_bt (so := so) (ea := ea) (eb := eb) (sp := sp) (us := us) (cell := i) (far := far) (sets := q.1 183 (far % 10 * 48 + i) &&& (q.1 184 i ^^^ -1)) m 0 (u2 (u2 q.1 183 (far % 10 * 48 + i) 0) 184 i (q.1 184 i ||| (q.1 183 (far % 10 * 48 + i) &&& (q.1 184 i ^^^ -1))), q.2)
    generalize gA so ea eb sp us i (q.1 183 (far % 10 * 48 + i) &&& (q.1 184 i ^^^ -1)) far m 0 (u2 (u2 q.1 183 (far % 10 * 48 + i) 0) 184 i (q.1 184 i ||| (q.1 183 (far % 10 * 48 + i) &&& (q.1 184 i ^^^ -1))), q.2) = q' at G ⊢
    generalize hfe : q.1 183 (far % 10 * 48 + i) &&& (q.1 184 i ^^^ -1) = fr at G hfr c1
    obtain ⟨G1, G2, G3, G4, G5⟩ := G
    dsimp only at G1 G2 G3 G4 G5
    have e2 : ∀ c, ¬ c = i → q'.1 184 c = q.1 184 c := fun c hc => by
      rw [G1, show ∀ (A : q_CT) v, u2 A 184 i v 184 c = A 184 c from fun A v => if_neg (fun z => hc z.2)]
      exact if_neg (by omega)
    have e3 : q'.1 184 i = q.1 184 i ||| fr := by rw [G1, u2_s]
    have e4 : ∀ j c, ¬ j % 10 * 48 + c = far % 10 * 48 + i → u2 (u2 q.1 183 (far % 10 * 48 + i) 0) 184 i (q.1 184 i ||| fr) 183 (j % 10 * 48 + c) = q.1 183 (j % 10 * 48 + c) := fun j c h => by
      rw [show ∀ (A : q_CT) v, u2 A 184 i v 183 (j % 10 * 48 + c) = A 183 (j % 10 * 48 + c) from fun A v => if_neg (by omega)]
      exact if_neg (fun z => h z.2)
    have B1 : ∀ c, c < 48 → (c < i + 1 → ∀ k, k < 64 → (bt (q'.1 184 c) k = true ↔ VC c ∧ ∃ v, v < far + 1 ∧ RP E1 s0 (cn c k) v)) ∧ (i + 1 ≤ c → q'.1 184 c = tA tk (far % 10 * 48) 6 0 C 184 c) := fun c hc => by
      refine ⟨fun h k hk => ?_, fun h => ?_⟩
      · rcases Nat.lt_or_ge c i with z | z
        · rw [e2 c (by omega)]
          exact (J1 c hc).1 z k hk
        · have e : c = i := by omega
          subst e
          rw [e3, bt_or, Bool.or_eq_true, hfr k hk, hseen k hk, e184]
      · rw [e2 c (by omega)]
        exact (J1 c hc).2 (by omega)
    have nofar : ∀ c b, c < 48 → ¬ ∃ x c', 0 ≤ x ∧ x < 0 + m ∧ uX ea eb us x i c' ∧ far % 10 * 48 + c = (far + sp x) % 10 * 48 + c' ∧ bt (xM so x (decide (i % 8 = 6)) fr &&& (u2 (u2 q.1 183 (far % 10 * 48 + i) 0) 184 i (q.1 184 i ||| fr) 184 c' ^^^ -1)) b = true := by
      rintro c b hc ⟨x, c', -, hx, hu, he, -⟩
      have hw := H.2.2.2.2.2.2.1 x (by omega)
      have hc' := H.2.2.2.2.2.2.2.1 x i c' (by omega) hu (Nat.mod_lt _ (by omega))
      omega
    refine ⟨B1, fun c k hc hk => ⟨fun h => ?_, fun h => ?_⟩, fun j c k h1 h2 hc hk => ⟨fun h => ?_, fun h => ?_⟩, fun c k x c' k' h hV hk hd hx hu hr => ?_, Nat.le_trans J5 G3, G5 (far + 10) J6 (fun x _ hx => by have := H.2.2.2.2.2.2.1 x (by omega); omega)⟩
    · refine Bool.eq_false_iff.mpr (fun z => ?_)
      rcases (G2 _ k).mp z with y | y
      · rcases Nat.lt_or_ge c i with x | x
        · rw [e4 far c (by omega), (J2 c k hc hk).1 x] at y
          exact absurd y (by decide)
        · have e : c = i := by omega
          subst e
          rw [show ∀ (A : q_CT) v, u2 A 184 c v 183 (far % 10 * 48 + c) = A 183 (far % 10 * 48 + c) from fun A v => if_neg (by omega), u2_s, bt_0] at y
          exact absurd y (by decide)
      · exact nofar c k hc y
    · rw [← (J2 c k hc hk).2 (by omega)]
      have : bt (q'.1 183 (far % 10 * 48 + c)) k = true ↔ bt (q.1 183 (far % 10 * 48 + c)) k = true := by
        refine (G2 _ k).trans ?_
        rw [e4 far c (by omega)]
        exact ⟨fun y => y.elim id (fun y => absurd y (nofar c k hc)), Or.inl⟩
      exact Bool.eq_iff_iff.mpr this
    · refine (G2 _ k).mpr (Or.inl ?_)
      rw [e4 j c (by omega)]
      exact (J3 j c k h1 h2 hc hk).1 h
    · rcases (G2 _ k).mp h with y | ⟨x, c', -, hx, hu, he, y⟩
      · rw [e4 j c (by omega)] at y
        obtain ⟨p1, p2, p3⟩ := (J3 j c k h1 h2 hc hk).2 y
        exact ⟨p1, p2, Nat.le_trans p3 G3⟩
      · have hx' : x < m := by omega
        have hw := H.2.2.2.2.2.2.1 x hx'
        have hc' := H.2.2.2.2.2.2.2.1 x i c' hx' hu (Nat.mod_lt _ (by omega))
        have ec : c' = c := by omega
        have ej : j = far + sp x := by omega
        subst ec
        have hle := G4 x c' k (by omega) hx hu y
        rw [bt_and, Bool.and_eq_true] at y
        obtain ⟨k1, z1, z2, z3⟩ := (xM_bt (by have := H.2.2.2.2.2.2.2.2; omega) hk).mp y.1
        obtain ⟨z4, z5⟩ := (hfr k1 z1).mp z2
        obtain ⟨-, p2, p3⟩ := H.2.1 i k1 x c' k z4 z1 hx' hu z3
        rw [ej]
        exact ⟨p2, RP_s z5.1 p3, hle⟩
    · have hw := H.2.2.2.2.2.2.1 x hx
      have hc' := H.2.2.2.2.2.2.2.1 x c c' hx hu (Nat.mod_lt _ (by omega))
      rcases Nat.lt_or_ge c i with z | z
      · rcases J4 c k x c' k' z hV hk hd hx hu hr with y | y
        · refine Or.inl ((G2 _ k').mpr (Or.inl ?_))
          rw [e4 (far + sp x) c' (by omega)]
          exact y
        · exact Or.inr y
      · have e : c = i := by omega
        subst e
        obtain ⟨p1, p2, p3⟩ := H.2.1 c k x c' k' hV hk hx hu hr
        have hb : bt (xM so x (decide (c % 8 = 6)) fr) k' = true := (xM_bt (by have := H.2.2.2.2.2.2.2.2; omega) p1).mpr ⟨k, hk, (hfr k hk).mpr ⟨hV, hd⟩, hr⟩
        by_cases y : bt (q'.1 184 c') k' = true
        · refine Or.inr ?_
          rcases Nat.lt_or_ge c' (c + 1) with w | w
          · exact (((B1 c' hc').1 w k' p1).mp y).2
          · rw [(B1 c' hc').2 w, tA_f (by omega)] at y
            obtain ⟨-, v, w1, w2⟩ := (I.2.1 c' k' hc' p1).mp y
            exact ⟨v, by omega, w2⟩
        · refine Or.inl ((G2 _ k').mpr (Or.inr ⟨x, c', Nat.zero_le _, by omega, hu, rfl, ?_⟩))
          rw [bt_and, Bool.and_eq_true, ← G1]
          refine ⟨hb, ?_⟩
          rw [bt_not p1, Bool.not_eq_true']
          exact Bool.eq_false_iff.mpr y
theorem cI_A {gc far la : Nat} {gs : Int64} {C : q_CT} (H : BH so ea eb sp us m tk s0 c0 k0 E1 VC cn) (I : lI so ea eb sp us m s0 c0 k0 E1 VC cn gc gs far C la) : ∀ (r i : Nat) (q : q_CT × Nat), i + r = 48 → cI so ea eb sp us m s0 E1 VC cn far (tA tk (far % 10 * 48) 6 0 C) la i q → cI so ea eb sp us m s0 E1 VC cn far (tA tk (far % 10 * 48) 6 0 C) la 48 (cA so ea eb sp us m far r i q)
  | 0, i, q, hi, J => by
    have e : i = 48 := by omega
    subst e
    exact J
  | r + 1, i, q, hi, J => cI_A H I r (i + 1) _ (by omega) (cI_s H I (by omega) J)
/-- a layer more -/
theorem lI_s {gc far la : Nat} {gs : Int64} {C : q_CT} (H : BH so ea eb sp us m tk s0 c0 k0 E1 VC cn) (hgc : VC gc) (I : lI so ea eb sp us m s0 c0 k0 E1 VC cn gc gs far C la) :
    ((lY so ea eb sp us m tk far (C, la)).1 184 gc &&& gs = 0 → lI so ea eb sp us m s0 c0 k0 E1 VC cn gc gs (far + 1) (lY so ea eb sp us m tk far (C, la)).1 (lY so ea eb sp us m tk far (C, la)).2) ∧
    (¬ (lY so ea eb sp us m tk far (C, la)).1 184 gc &&& gs = 0 → ∃ k, k < 64 ∧ bt gs k = true ∧ RP E1 s0 (cn gc k) far) := by
  have J := cI_A H I 48 0 (tA tk (far % 10 * 48) 6 0 C, la) (by omega) (cI_0 I)
  show ((cA so ea eb sp us m far 48 0 (tA tk (far % 10 * 48) 6 0 C, la)).1 184 gc &&& gs = 0 → lI so ea eb sp us m s0 c0 k0 E1 VC cn gc gs (far + 1) (cA so ea eb sp us m far 48 0 (tA tk (far % 10 * 48) 6 0 C, la)).1 (cA so ea eb sp us m far 48 0 (tA tk (far % 10 * 48) 6 0 C, la)).2) ∧ (¬ (cA so ea eb sp us m far 48 0 (tA tk (far % 10 * 48) 6 0 C, la)).1 184 gc &&& gs = 0 → _)
  generalize cA so ea eb sp us m far 48 0 (tA tk (far % 10 * 48) 6 0 C, la) = q' at J ⊢
  obtain ⟨J1, J2, J3, J4, J5, J6⟩ := J
  refine ⟨fun h => ⟨by omega, fun c k hc hk => (J1 c hc).1 hc k hk, fun j c k h1 h2 hc hk z => ?_, fun c k d x c' k' hV hk hd hdf hx hu hr hle => ?_, fun z => absurd z (by omega), fun k hk hg v hv z => ?_⟩, fun h => ?_⟩
  · rcases Nat.lt_or_ge j (far + 10) with y | y
    · exact (J3 j c k (by omega) y hc hk).2 z
    · have e : j = far + 10 := by omega
      subst e
      rw [show (far + 10) % 10 = far % 10 by omega, (J2 c k hc hk).1 hc] at z
      exact absurd z (by decide)
  · have hw := H.2.2.2.2.2.2.1 x hx
    have hc' := H.2.2.2.2.2.2.2.1 x c c' hx hu (Nat.mod_lt _ (by omega))
    obtain ⟨p1, p2, -⟩ := H.2.1 c k x c' k' hV hk hx hu hr
    rcases Nat.lt_or_ge d far with y | y
    · rcases I.2.2.2.1 c k d x c' k' hV hk hd y hx hu hr (by omega) with w | ⟨v, w1, w2⟩
      · refine Or.inl ((J3 (d + sp x) c' k' (by omega) (by omega) hc' p1).1 ?_)
        rw [tA_o hc' (by omega)]
        exact w
      · exact Or.inr ⟨v, by omega, w2⟩
    · have e : d = far := by omega
      subst e
      exact J4 c k x c' k' (H.1 _ hV) hV hk hd hx hu hr
  · have := ((J1 gc (H.1 _ hgc)).1 (H.1 _ hgc) k hk).mpr ⟨hgc, v, hv, z⟩
    have h2 := bt_z h k
    rw [bt_and, this, hg] at h2
    exact absurd h2 (by decide)
  · obtain ⟨k, hk, z⟩ := bt_nz.mp h
    rw [bt_and, Bool.and_eq_true] at z
    obtain ⟨-, v, hv, z2⟩ := ((J1 gc (H.1 _ hgc)).1 (H.1 _ hgc) k hk).mp z.1
    have : v = far := by
      rcases Nat.lt_or_ge v far with y | y
      · exact absurd z2 (I.2.2.2.2.2 k hk z.2 v y)
      · omega
    rw [this] at z2
    exact ⟨k, hk, z.2, z2⟩
/-- behind the last layer -/
theorem lI_e {gc far la : Nat} {gs : Int64} {C : q_CT} (H : BH so ea eb sp us m tk s0 c0 k0 E1 VC cn) (I : lI so ea eb sp us m s0 c0 k0 E1 VC cn gc gs far C la) (hl : la < far) : ∀ (n s v : Nat), rch E1 s0 n s v → ∃ v', v' < far ∧ RP E1 s0 s v'
  | 0, s, v, h => ⟨0, by omega, by rw [h.1]; exact RP_0⟩
  | n + 1, s, v, h => by
    obtain ⟨s', v', w, h1, h2, -⟩ := h
    obtain ⟨v2, q1, q2⟩ := lI_e H I hl n s' v' h1
    obtain ⟨d, hd1, hd⟩ := dS_ex q2
    obtain ⟨c2, k2, g1, g2, g3⟩ := rep_ex H n s' v' h1
    subst g3
    rcases H.2.2.1 c2 k2 s w g1 g2 h2 with ⟨c1, k1, x, c', k', p1, p2, p3, p4, p5, p6, p7, p8⟩ | ⟨p0, c', p1, p2⟩
    · rw [← p3] at hd
      have hc' := H.2.2.2.2.2.2.2.1 x c1 c' p4 p5 (Nat.mod_lt _ (by omega))
      have hw := H.2.2.2.2.2.2.1 x p4
      obtain ⟨r1, r2, r3⟩ := H.2.1 c1 k1 x c' k' p1 p2 p4 p5 p6
      rw [p7] at r3
      rcases Nat.lt_or_ge (d + sp x) far with y | y
      · exact ⟨d + sp x, y, RP_s hd.1 r3⟩
      · rcases I.2.2.2.1 c1 k1 d x c' k' p1 p2 hd (by omega) p4 p5 p6 y with z | ⟨u, z1, z2⟩
        · have := (I.2.2.1 (d + sp x) c' k' y (by omega) hc' r1 z).2.2
          omega
        · rw [p7] at z2
          exact ⟨u, z1, z2⟩
    · exact ⟨d, by omega, by
        have := RP_s hd.1 h2
        rw [p0] at this
        exact this⟩
end BF
