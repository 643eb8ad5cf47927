/-! PRICES: what the model's table tells -/
/-- a way from node s to node t, w long -/
def Ed (so : Nat → Int32) (ea eb sp : Nat → Nat) (up : Int32) (m how : Nat) (isl : Bool) (s t w : Nat) : Prop :=
  (∃ x, x < m ∧ mHas up x ∧ ¬ otN ea eb x (s / 448) = 99 ∧ ltB so how x (ldS how s isl) (s / 7 % 64) ∧ t = nd (otN ea eb x (s / 448)) (thN so x (s / 7 % 64)) (s % 7) ∧ w = sp x)
  ∨ (how = 0 ∧ s % 7 = 6 ∧ t = nd (s / 448) (s / 7 % 64) (s / 448) ∧ w = 0) ∨ (how = 0 ∧ s % 7 = s / 448 ∧ t = nd (s / 448) (s / 7 % 64) 6 ∧ w = 0)
/-- by k ways from s0, v long -/
def rch (E1 : Nat → Nat → Nat → Prop) (s0 : Nat) : Nat → Nat → Nat → Prop
  | 0, s, v => s = s0 ∧ v = 0
  | k + 1, s, v => ∃ s' v' w, rch E1 s0 k s' v' ∧ E1 s' s w ∧ v = v' + w
def RP (E1 : Nat → Nat → Nat → Prop) (s0 s v : Nat) : Prop := ∃ k, rch E1 s0 k s v
theorem RP_0 {E1 : Nat → Nat → Nat → Prop} {s0 : Nat} : RP E1 s0 s0 0 := ⟨0, rfl, rfl⟩
theorem RP_s {E1 : Nat → Nat → Nat → Prop} {s0 s t v w : Nat} (h : RP E1 s0 s v) (e : E1 s t w) : RP E1 s0 t (v + w) := by
  obtain ⟨k, hk⟩ := h
  exact ⟨k + 1, s, v, w, hk, e, rfl⟩
def sm (g : Int32 → Nat) (p : Nat → Int32) : Nat → Nat
  | 0 => 0
  | n + 1 => sm g p n + g (p n)
theorem sm_u {g : Int32 → Nat} {B : q_FT} {t : Nat} {v : Int32} : ∀ n : Nat, (t < n → sm g (u2 B 197 t v 197) n + g (B 197 t) = sm g (B 197) n + g v) ∧ (n ≤ t → sm g (u2 B 197 t v 197) n = sm g (B 197) n)
  | 0 => ⟨fun h => absurd h (by omega), fun _ => rfl⟩
  | n + 1 => by
    obtain ⟨h1, h2⟩ := sm_u (g := g) (B := B) (t := t) (v := v) n
    refine ⟨fun h => ?_, fun h => ?_⟩
    · rw [sm, sm]
      rcases Nat.lt_or_ge t n with z | z
      · rw [show u2 B 197 t v 197 n = B 197 n from if_neg (by omega)]
        have := h1 z
        omega
      · have e : n = t := by omega
        subst e
        rw [show u2 B 197 n v 197 n = v from u2_s, h2 (Nat.le_refl _)]
        omega
    · rw [sm, sm, h2 (by omega), show u2 B 197 t v 197 n = B 197 n from if_neg (by omega)]
def gc (x : Int32) : Nat := if x = -1000000 then 0 else 1
def gm (x : Int32) : Nat := if x = -1000000 then 30000 else x.toNatClampNeg
theorem sm_gc {p : Nat → Int32} : ∀ n : Nat, sm gc p n ≤ n
  | 0 => Nat.le_refl _
  | n + 1 => by
    have := sm_gc (p := p) n
    have h1 : gc (p n) ≤ 1 := by
      unfold gc
      split <;> omega
    rw [sm]
    omega
theorem sm_0 {g : Int32 → Nat} {p : Nat → Int32} : ∀ n : Nat, (∀ k, k < n → g (p k) = 0) → sm g p n = 0
  | 0, _ => rfl
  | n + 1, h => by rw [sm, sm_0 n (fun k hk => h k (by omega)), h n (by omega)]
section PR
variable {so : Nat → Int32} {ea eb sp : Nat → Nat} {up : Int32} {m how s0 : Nat} {isl : Bool} {E1 : Nat → Nat → Nat → Prop}
def pI (so : Nat → Int32) (ea eb sp : Nat → Nat) (up : Int32) (m : Nat) (E1 : Nat → Nat → Nat → Prop) (s0 : Nat) (B : q_FT) : Prop :=
  mG B so ea eb sp up m ∧ B 197 s0 = nI 0 ∧ ∀ s, s < 2688 → B 197 s = -1000000 ∨ ∃ v, B 197 s = nI v ∧ v + 9 ≤ 9 * sm gc (B 197) 2688 ∧ RP E1 s0 s v
abbrev mu (B : q_FT) : Nat := sm gm (B 197) 2688
/-- from state q to q' -/
def pS (so : Nat → Int32) (ea eb sp : Nat → Nat) (up : Int32) (m : Nat) (E1 : Nat → Nat → Nat → Prop) (s0 : Nat) (q q' : q_FT × Int32) : Prop :=
  pI so ea eb sp up m E1 s0 q'.1 ∧ (q' = q ∨ (q'.2 = 1 ∧ mu q'.1 < mu q.1)) ∧ ∀ s, ¬ q.1 197 s = -1000000 → ¬ q'.1 197 s = -1000000
theorem pS_r {q : q_FT × Int32} (h : pI so ea eb sp up m E1 s0 q.1) : pS so ea eb sp up m E1 s0 q q := ⟨h, Or.inl rfl, fun _ z => z⟩
theorem pS_t {q q1 q2 : q_FT × Int32} (h1 : pS so ea eb sp up m E1 s0 q q1) (h2 : pS so ea eb sp up m E1 s0 q1 q2) : pS so ea eb sp up m E1 s0 q q2 := by
  refine ⟨h2.1, ?_, fun s z => h2.2.2 s (h1.2.2 s z)⟩
  rcases h2.2.1 with e | ⟨e1, e2⟩
  · rw [e]
    exact h1.2.1
  · rcases h1.2.1 with f | ⟨f1, f2⟩
    · rw [← f]
      exact Or.inr ⟨e1, e2⟩
    · exact Or.inr ⟨e1, by omega⟩
theorem pS_cm {q : q_FT × Int32} {t v w : Nat} (hI : pI so ea eb sp up m E1 s0 q.1) (ht : t < 2688) (hs0 : s0 < 2688) (hv : v + 9 ≤ 9 * sm gc (q.1 197) 2688) (hw : w ≤ 9) (hr : RP E1 s0 t (v + w)) : pS so ea eb sp up m E1 s0 q (cmS t (nI (v + w)) q) := by
  unfold cmS
  by_cases c : q.1 197 t = -1000000 ∨ nI (v + w) < q.1 197 t
  · rw [if_pos c]
    have hcn := sm_gc (p := q.1 197) 2688
    have uc := (sm_u (g := gc) (B := q.1) (t := t) (v := nI (v + w)) 2688).1 ht
    have um := (sm_u (g := gm) (B := q.1) (t := t) (v := nI (v + w)) 2688).1 ht
    have hne : ¬ nI (v + w) = -1000000 := nI_none (by omega)
    have gv : gc (nI (v + w)) = 1 := if_neg hne
    have mv : gm (nI (v + w)) = v + w := by
      unfold gm
      rw [if_neg hne, nI_clamp (by omega)]
    have key : v + w + 9 ≤ 9 * sm gc (u2 q.1 197 t (nI (v + w)) 197) 2688 ∧ sm gc (q.1 197) 2688 ≤ sm gc (u2 q.1 197 t (nI (v + w)) 197) 2688 ∧ mu (u2 q.1 197 t (nI (v + w))) < mu q.1 := by
      rcases hI.2.2 t ht with z | ⟨u, z, zu, -⟩
      · have g0 : gc (q.1 197 t) = 0 := if_pos z
        have m0 : gm (q.1 197 t) = 30000 := if_pos z
        rw [g0, gv] at uc
        rw [m0, mv] at um
        refine ⟨by omega, by omega, ?_⟩
        show sm gm _ 2688 < sm gm _ 2688
        omega
      · have hu : ¬ nI u = -1000000 := nI_none (by omega)
        have g0 : gc (q.1 197 t) = 1 := by rw [z]; exact if_neg hu
        have m0 : gm (q.1 197 t) = u := by
          rw [z]
          unfold gm
          rw [if_neg hu, nI_clamp (by omega)]
        have hlt : v + w < u := by
          rcases c with c | c
          · exact absurd (z.symm.trans c) hu
          · rw [z] at c
            exact (nI_ltI (by omega) (by omega)).mp c
        rw [g0, gv] at uc
        rw [m0, mv] at um
        refine ⟨by omega, by omega, ?_⟩
        show sm gm _ 2688 < sm gm _ 2688
        omega
    refine ⟨⟨mG_c (show u2 q.1 197 t (nI (v + w)) 188 = q.1 188 from u2_r (by omega)) hI.1, ?_, fun s hs => ?_⟩, Or.inr ⟨rfl, key.2.2⟩, fun s z => ?_⟩
    · by_cases e : s0 = t
      · exfalso
        rw [← e, hI.2.1] at c
        rcases c with c | c
        · exact nI_none (by omega) c
        · have := (nI_ltI (a := v + w) (b := 0) (by omega) (by omega)).mp c
          omega
      · show u2 q.1 197 t (nI (v + w)) 197 s0 = nI 0
        rw [show u2 q.1 197 t (nI (v + w)) 197 s0 = q.1 197 s0 from if_neg (fun z => e z.2)]
        exact hI.2.1
    · by_cases e : s = t
      · subst e
        exact Or.inr ⟨v + w, u2_s, key.1, hr⟩
      · show u2 q.1 197 t (nI (v + w)) 197 s = _ ∨ ∃ v', u2 q.1 197 t (nI (v + w)) 197 s = _ ∧ _
        rw [show u2 q.1 197 t (nI (v + w)) 197 s = q.1 197 s from if_neg (fun z => e z.2)]
        rcases hI.2.2 s hs with z | ⟨u, z, zu, zr⟩
        · exact Or.inl z
        · exact Or.inr ⟨u, z, by have := key.2.1; show u + 9 ≤ 9 * sm gc (u2 q.1 197 t (nI (v + w)) 197) 2688; omega, zr⟩
    · by_cases e : s = t
      · subst e
        show ¬ u2 q.1 197 s (nI (v + w)) 197 s = _
        rw [u2_s]
        exact hne
      · show ¬ u2 q.1 197 t (nI (v + w)) 197 s = _
        rw [show u2 q.1 197 t (nI (v + w)) 197 s = q.1 197 s from if_neg (fun z => e z.2)]
        exact z
  · rw [if_neg c]
    exact pS_r hI
theorem pI_at {B : q_FT} {s : Nat} (hI : pI so ea eb sp up m E1 s0 B) (hs : s < 2688) (h : ¬ B 197 s = -1000000) : ∃ v, B 197 s = nI v ∧ v + 9 ≤ 9 * sm gc (B 197) 2688 ∧ RP E1 s0 s v := (hI.2.2 s hs).elim (fun z => absurd z h) id
theorem pS_X {s x : Nat} {q : q_FT × Int32} (hE : E1 = Ed so ea eb sp up m how isl) (hs0 : s0 < 2688) (hI : pI so ea eb sp up m E1 s0 q.1) (hs : s < 2688) (hx : x < m) (h : ¬ q.1 197 s = -1000000) : pS so ea eb sp up m E1 s0 q (spX so ea eb sp up how s (ldS how s isl) x q) := by
  obtain ⟨v, h1, h2, h3⟩ := pI_at hI hs h
  have g := hI.1
  obtain ⟨-, -, -, -, g5, g6, g7, g8, -⟩ := g.2.2.2 x hx
  have hx6 : x < 6 := by have := g.1; omega
  unfold spX
  by_cases c1 : mHas up x
  · rw [if_neg (not_not_intro c1)]
    by_cases c2 : otN ea eb x (s / 448) = 99
    · rw [if_pos c2]
      exact pS_r hI
    · rw [if_neg c2]
      by_cases c3 : ltB so how x (ldS how s isl) (s / 7 % 64)
      · rw [if_neg (not_not_intro c3), h1, nI_add]
        have ho : otN ea eb x (s / 448) < 6 := by
          unfold otN at c2 ⊢
          split at c2
          · rename_i c; rw [if_pos c]; exact g6
          · split at c2
            · rename_i c c'; rw [if_neg c, if_pos c']; exact g5
            · exact absurd rfl c2
        refine pS_cm hI (nd_lt ho (thN_lt hx6 (Nat.mod_lt _ (by omega))) (Nat.mod_lt _ (by omega))) hs0 h2 g8 ?_
        refine RP_s h3 ?_
        rw [hE]
        exact Or.inl ⟨x, hx, c1, c2, c3, rfl, rfl⟩
      · rw [if_pos c3]
        exact pS_r hI
  · rw [if_pos c1]
    exact pS_r hI
theorem pS_A {s : Nat} (hE : E1 = Ed so ea eb sp up m how isl) (hs0 : s0 < 2688) (hs : s < 2688) : ∀ (r x : Nat) (q : q_FT × Int32), x + r ≤ m → pI so ea eb sp up m E1 s0 q.1 → ¬ q.1 197 s = -1000000 → pS so ea eb sp up m E1 s0 q (spA so ea eb sp up how s (ldS how s isl) r x q)
  | 0, x, q, hx, hI, h => pS_r hI
  | r + 1, x, q, hx, hI, h => by
    have h1 := pS_X (x := x) hE hs0 hI hs (by omega) h
    exact pS_t h1 (pS_A hE hs0 hs r (x + 1) _ (by omega) h1.1 (h1.2.2 s h))
theorem pS_S {s : Nat} {q : q_FT × Int32} (hE : E1 = Ed so ea eb sp up m how isl) (hs0 : s0 < 2688) (hs : s < 2688) (hI : pI so ea eb sp up m E1 s0 q.1) (h : ¬ q.1 197 s = -1000000) : pS so ea eb sp up m E1 s0 q (spS so ea eb sp up m how isl s q) := by
  have h1 := pS_A hE hs0 hs m 0 q (by omega) hI h
  unfold spS
  have hh := h1.2.2 s h
  generalize spA so ea eb sp up how s (ldS how s isl) m 0 q = q1 at h1 hh ⊢
  have hx : s / 7 % 64 < 64 := Nat.mod_lt _ (by omega)
  have h2 : pS so ea eb sp up m E1 s0 q1 (sp1 how s q1) := by
    unfold sp1
    by_cases c : how = 0 ∧ s % 7 = 6
    · rw [if_pos c]
      obtain ⟨v, e1, e2, e3⟩ := pI_at h1.1 hs hh
      rw [e1]
      exact pS_cm (w := 0) h1.1 (nd_lt (by omega) hx (by omega)) hs0 e2 (by omega) (RP_s e3 (by rw [hE]; exact Or.inr (Or.inl ⟨c.1, c.2, rfl, rfl⟩)))
    · rw [if_neg c]
      exact pS_r h1.1
  have h3 := h2.2.2 s hh
  refine pS_t h1 (pS_t h2 ?_)
  generalize sp1 how s q1 = q2 at h2 h3 ⊢
  unfold sp2
  by_cases c : how = 0 ∧ s % 7 = s / 448
  · rw [if_pos c]
    obtain ⟨v, e1, e2, e3⟩ := pI_at h2.1 hs h3
    rw [e1]
    exact pS_cm (w := 0) h2.1 (nd_lt (by omega) hx (by omega)) hs0 e2 (by omega) (RP_s e3 (by rw [hE]; exact Or.inr (Or.inr ⟨c.1, c.2, rfl, rfl⟩)))
  · rw [if_neg c]
    exact pS_r h2.1
theorem pS_P (hE : E1 = Ed so ea eb sp up m how isl) (hs0 : s0 < 2688) : ∀ (r s : Nat) (q : q_FT × Int32), s + r ≤ 2688 → pI so ea eb sp up m E1 s0 q.1 → pS so ea eb sp up m E1 s0 q (psA so ea eb sp up m how isl r s q)
  | 0, s, q, hs, hI => pS_r hI
  | r + 1, s, q, hs, hI => by
    have h1 : pS so ea eb sp up m E1 s0 q (if q.1 197 s = -1000000 then q else spS so ea eb sp up m how isl s q) := by
      by_cases c : q.1 197 s = -1000000
      · rw [if_pos c]
        exact pS_r hI
      · rw [if_neg c]
        exact pS_S hE hs0 (by omega) hI c
    exact pS_t h1 (pS_P hE hs0 r (s + 1) _ (by omega) h1.1)
/-! what a pass that changes nothing says -/
def gd (f : q_FT × Int32 → q_FT × Int32) : Prop := ∀ q, (f q = q ∨ (f q).2 = 1) ∧ (q.2 = 1 → (f q).2 = 1)
theorem gd_id : gd (fun q => q) := fun _ => ⟨Or.inl rfl, id⟩
theorem cm_d {t : Nat} {v : Int32} {q : q_FT × Int32} : (cmS t v q = q ∨ (cmS t v q).2 = 1) ∧ (q.2 = 1 → (cmS t v q).2 = 1) := by
  unfold cmS
  by_cases c : q.1 197 t = -1000000 ∨ v < q.1 197 t
  · rw [if_pos c]
    exact ⟨Or.inr rfl, fun _ => rfl⟩
  · rw [if_neg c]
    exact ⟨Or.inl rfl, fun h => h⟩
theorem gd_cm {t : Nat} {v : q_FT × Int32 → Int32} : gd (fun q => cmS t (v q) q) := fun _ => cm_d
theorem gd_t {f g : q_FT × Int32 → q_FT × Int32} (hf : gd f) (hg : gd g) : gd (fun q => g (f q)) := fun q => by
  refine ⟨?_, fun h => (hg _).2 ((hf q).2 h)⟩
  rcases (hf q).1 with e | e
  · show g (f q) = q ∨ (g (f q)).2 = 1
    rw [e]
    exact (hg q).1
  · exact Or.inr ((hg _).2 e)
theorem gd_0 {f g : q_FT × Int32 → q_FT × Int32} (hf : gd f) (hg : gd g) {q : q_FT × Int32} (h : (g (f q)).2 = 0) : f q = q ∧ g q = q := by
  have k1 : ¬ (1 : Int32) = 0 := by decide
  rcases (hf q).1 with e | e
  · rw [e] at h
    refine ⟨e, ?_⟩
    rcases (hg q).1 with e2 | e2
    · exact e2
    · exact absurd (e2.symm.trans h) k1
  · exact absurd (((hg _).2 e).symm.trans h) k1
theorem gd_X {s x : Nat} {l : Bool} : gd (spX so ea eb sp up how s l x) := fun q => by
  unfold spX
  split
  · exact gd_id q
  · split
    · exact gd_id q
    · split
      · exact gd_id q
      · exact gd_cm (v := fun q => q.1 197 s + nI (sp x)) q
theorem gd_A {s : Nat} {l : Bool} : ∀ (r x : Nat), gd (spA so ea eb sp up how s l r x)
  | 0, x => gd_id
  | r + 1, x => gd_t (f := spX so ea eb sp up how s l x) (g := spA so ea eb sp up how s l r (x + 1)) gd_X (gd_A r (x + 1))
theorem gd_1 {s : Nat} : gd (sp1 how s) := fun q => by
  unfold sp1
  split
  · exact gd_cm (v := fun q => q.1 197 s) q
  · exact gd_id q
theorem gd_2 {s : Nat} : gd (sp2 how s) := fun q => by
  unfold sp2
  split
  · exact gd_cm (v := fun q => q.1 197 s) q
  · exact gd_id q
theorem gd_S {s : Nat} : gd (spS so ea eb sp up m how isl s) := gd_t (f := spA so ea eb sp up how s (ldS how s isl) m 0) (g := fun q => sp2 how s (sp1 how s q)) (gd_A m 0) (gd_t (f := sp1 how s) (g := sp2 how s) gd_1 gd_2)
theorem gd_sel {s : Nat} : gd (fun q => if q.1 197 s = -1000000 then q else spS so ea eb sp up m how isl s q) := fun q => by
  show ((if _ then _ else _) = q ∨ (if _ then _ else _ : q_FT × Int32).2 = 1) ∧ (_ → (if _ then _ else _ : q_FT × Int32).2 = 1)
  split
  · exact gd_id q
  · exact gd_S q
theorem gd_P : ∀ (r s : Nat), gd (psA so ea eb sp up m how isl r s)
  | 0, s => gd_id
  | r + 1, s => gd_t (f := fun q => if q.1 197 s = -1000000 then q else spS so ea eb sp up m how isl s q) (g := psA so ea eb sp up m how isl r (s + 1)) gd_sel (gd_P r (s + 1))
theorem fx_A {s : Nat} {l : Bool} {q : q_FT × Int32} : ∀ (r x : Nat), (spA so ea eb sp up how s l r x q).2 = 0 → ∀ y, x ≤ y → y < x + r → spX so ea eb sp up how s l y q = q
  | 0, x, h, y, h1, h2 => absurd h1 (by omega)
  | r + 1, x, h, y, h1, h2 => by
    obtain ⟨e1, e2⟩ := gd_0 (f := spX so ea eb sp up how s l x) (g := spA so ea eb sp up how s l r (x + 1)) gd_X (gd_A r (x + 1)) h
    rcases Nat.lt_or_ge x y with z | z
    · have h' : (spA so ea eb sp up how s l (r + 1) x q).2 = (spA so ea eb sp up how s l r (x + 1) (spX so ea eb sp up how s l x q)).2 := rfl
      rw [h', e1] at h
      exact fx_A r (x + 1) h y (by omega) (by omega)
    · rw [show y = x by omega]
      exact e1
theorem fx_P {q : q_FT × Int32} : ∀ (r s : Nat), (psA so ea eb sp up m how isl r s q).2 = 0 → ∀ y, s ≤ y → y < s + r → ¬ q.1 197 y = -1000000 → spS so ea eb sp up m how isl y q = q
  | 0, s, h, y, h1, h2, h3 => absurd h1 (by omega)
  | r + 1, s, h, y, h1, h2, h3 => by
    obtain ⟨e1, e2⟩ := gd_0 (f := fun q => if q.1 197 s = -1000000 then q else spS so ea eb sp up m how isl s q) (g := psA so ea eb sp up m how isl r (s + 1)) gd_sel (gd_P r (s + 1)) h
    rcases Nat.lt_or_ge s y with z | z
    · have h' : (psA so ea eb sp up m how isl (r + 1) s q).2 = (psA so ea eb sp up m how isl r (s + 1) (if q.1 197 s = -1000000 then q else spS so ea eb sp up m how isl s q)).2 := rfl
      have e1' : (if q.1 197 s = -1000000 then q else spS so ea eb sp up m how isl s q) = q := e1
      rw [h', e1'] at h
      exact fx_P r (s + 1) h y (by omega) (by omega) h3
    · have e : y = s := by omega
      subst e
      have := e1
      simp only [if_neg h3] at this
      exact this
theorem cm_fx {t : Nat} {v : Int32} {q : q_FT × Int32} (h0 : q.2 = 0) (h : cmS t v q = q) : ¬ (q.1 197 t = -1000000 ∨ v < q.1 197 t) := fun c => by
  unfold cmS at h
  rw [if_pos c] at h
  have h1 : (1 : Int32) = q.2 := congrArg Prod.snd h
  rw [h0] at h1
  exact absurd h1 (by decide)
/-- the table is closed -/
theorem fx_E {B : q_FT} (h : (psA so ea eb sp up m how isl 2688 0 (B, 0)).2 = 0) {s t w : Nat} (hs : s < 2688) (hp : ¬ B 197 s = -1000000) (e : Ed so ea eb sp up m how isl s t w) : ¬ B 197 t = -1000000 ∧ ¬ B 197 s + nI w < B 197 t := by
  have f := fx_P (q := (B, 0)) 2688 0 h s (by omega) (by omega) hp
  have f2 : (spS so ea eb sp up m how isl s (B, 0)).2 = 0 := by rw [f]
  obtain ⟨fA, fB⟩ := gd_0 (f := spA so ea eb sp up how s (ldS how s isl) m 0) (g := fun q => sp2 how s (sp1 how s q)) (gd_A m 0) (gd_t (f := sp1 how s) (g := sp2 how s) gd_1 gd_2) (q := (B, 0)) f2
  have fA2 : (spA so ea eb sp up how s (ldS how s isl) m 0 (B, 0)).2 = 0 := by rw [fA]
  have fB2 : (sp2 how s (sp1 how s (B, (0 : Int32)))).2 = 0 := by rw [show sp2 how s (sp1 how s (B, (0 : Int32))) = (B, 0) from fB]
  obtain ⟨f1, f22⟩ := gd_0 (f := sp1 how s) (g := sp2 how s) gd_1 gd_2 (q := (B, 0)) fB2
  have fin : ∀ v : Int32, cmS t v (B, 0) = (B, 0) → ¬ B 197 t = -1000000 ∧ ¬ v < B 197 t := fun v hv => by
    have := cm_fx (q := (B, 0)) rfl hv
    exact ⟨fun z => this (Or.inl z), fun z => this (Or.inr z)⟩
  have w0 : B 197 s + nI 0 = B 197 s := Int32.add_zero _
  rcases e with ⟨x, hx, c1, c2, c3, rfl, rfl⟩ | ⟨c1, c2, rfl, rfl⟩ | ⟨c1, c2, rfl, rfl⟩
  · have g := fx_A (q := (B, 0)) m 0 fA2 x (by omega) (by omega)
    unfold spX at g
    rw [if_neg (not_not_intro c1), if_neg c2, if_neg (not_not_intro c3)] at g
    exact fin _ g
  · unfold sp1 at f1
    rw [if_pos ⟨c1, c2⟩] at f1
    rw [w0]
    exact fin _ f1
  · unfold sp2 at f22
    rw [if_pos ⟨c1, c2⟩] at f22
    rw [w0]
    exact fin _ f22
/-- a least number, or none -/
def LD (G : Nat → Prop) (r : Int32) : Prop := (r = -1000000 ∧ ∀ v, ¬ G v) ∨ ∃ u, r = nI u ∧ u < 2 ^ 30 ∧ G u ∧ ∀ v, G v → u ≤ v
theorem LD_u {G : Nat → Prop} {r r' : Int32} (h : LD G r) (h' : LD G r') : r = r' := by
  rcases h with ⟨h1, h2⟩ | ⟨u, h1, -, h2, h3⟩
  · rcases h' with ⟨h4, -⟩ | ⟨u', -, -, h5, -⟩
    · rw [h1, h4]
    · exact absurd h5 (h2 u')
  · rcases h' with ⟨-, h5⟩ | ⟨u', h4, -, h5, h6⟩
    · exact absurd h2 (h5 u)
    · rw [h1, h4, show u = u' from Nat.le_antisymm (h3 u' h5) (h6 u h2)]
theorem LD_c {G G' : Nat → Prop} {r : Int32} (h : ∀ v, G v ↔ G' v) (hl : LD G r) : LD G' r := by
  rcases hl with ⟨h1, h2⟩ | ⟨u, h1, h0, h2, h3⟩
  · exact Or.inl ⟨h1, fun v z => h2 v ((h v).mpr z)⟩
  · exact Or.inr ⟨u, h1, h0, (h u).mp h2, fun v z => h3 v ((h v).mpr z)⟩
/-- the table is right: for each node the least, or none -/
def PX (E1 : Nat → Nat → Nat → Prop) (s0 : Nat) (B : q_FT) : Prop := ∀ s, s < 2688 → LD (RP E1 s0 s) (B 197 s) ∧ (∀ v, B 197 s = nI v → v < 2 ^ 30 → v ≤ 24192)
theorem PX_of {B : q_FT} (hE : E1 = Ed so ea eb sp up m how isl) (hs0 : s0 < 2688) (hI : pI so ea eb sp up m E1 s0 B) (h : (psA so ea eb sp up m how isl 2688 0 (B, 0)).2 = 0) (hEd : ∀ s t w, s < 2688 → E1 s t w → t < 2688 ∧ w ≤ 9) : PX E1 s0 B := by
  have cl : ∀ k s v, rch E1 s0 k s v → s < 2688 ∧ ∃ u, u ≤ v ∧ u ≤ 24192 ∧ B 197 s = nI u := by
    intro k
    induction k with
    | zero =>
      rintro s v ⟨rfl, rfl⟩
      exact ⟨hs0, 0, Nat.le_refl _, by omega, hI.2.1⟩
    | succ k ih =>
      rintro s v ⟨s', v', w, h1, h2, rfl⟩
      obtain ⟨q1, u, q2, q4, q3⟩ := ih s' v' h1
      have q5 := hEd s' s w q1 h2
      refine ⟨q5.1, ?_⟩
      have hne : ¬ B 197 s' = -1000000 := by rw [q3]; exact nI_none (by omega)
      rw [hE] at h2
      obtain ⟨p1, p2⟩ := fx_E h q1 hne h2
      have hI' := hI.2.2 s q5.1
      rcases hI' with z | ⟨y, z, zy, -⟩
      · exact absurd z p1
      · have hcn := sm_gc (p := B 197) 2688
        rw [q3, nI_add, z, nI_ltI (by omega) (by omega)] at p2
        exact ⟨y, by omega, by omega, z⟩
  intro s hs
  have hcn := sm_gc (p := B 197) 2688
  refine ⟨?_, ?_⟩
  · rcases hI.2.2 s hs with z | ⟨u, z, zu, zr⟩
    · refine Or.inl ⟨z, fun v hv => ?_⟩
      obtain ⟨k, hk⟩ := hv
      obtain ⟨-, u, -, h4, h3⟩ := cl k s v hk
      exact nI_none (k := u) (by omega) (h3.symm.trans z)
    · refine Or.inr ⟨u, z, by omega, zr, fun v hv => ?_⟩
      obtain ⟨k, hk⟩ := hv
      obtain ⟨-, u', h1, h2, h3⟩ := cl k s v hk
      have : u = u' := (nI_eq (by omega) (by omega)).mp (z.symm.trans h3)
      omega
  · intro v hv hv2
    rcases hI.2.2 s hs with z | ⟨u, z, zu, -⟩
    · exact absurd (hv.symm.trans z) (nI_none (by omega))
    · have : v = u := (nI_eq (by omega) (by omega)).mp (hv.symm.trans z)
      omega
theorem lsr_LD {A G : Nat → Prop} {a f : Int32} (ha : LD A a) (hf : LD G f) : LD (fun v => A v ∨ G v) (lsr a f) := by
  unfold lsr
  rcases ha with ⟨a1, a2⟩ | ⟨u, a1, a0, a2, a3⟩
  · rw [if_pos (Or.inl a1)]
    rcases hf with ⟨f1, f2⟩ | ⟨w, f1, f0, f2, f3⟩
    · exact Or.inl ⟨f1, fun v z => z.elim (a2 v) (f2 v)⟩
    · exact Or.inr ⟨w, f1, f0, Or.inr f2, fun v z => z.elim (fun z => absurd z (a2 v)) (f3 v)⟩
  · have n1 : ¬ a = -1000000 := by rw [a1]; exact nI_none (by omega)
    rcases hf with ⟨f1, f2⟩ | ⟨w, f1, f0, f2, f3⟩
    · rw [if_neg (fun z => z.elim n1 (fun z => z.1 f1))]
      exact Or.inr ⟨u, a1, a0, Or.inl a2, fun v z => z.elim (a3 v) (fun z => absurd z (f2 v))⟩
    · have n2 : ¬ f = -1000000 := by rw [f1]; exact nI_none (by omega)
      by_cases c : w < u
      · rw [if_pos (Or.inr ⟨n2, by rw [a1, f1]; exact nI_lt c (by omega)⟩)]
        exact Or.inr ⟨w, f1, f0, Or.inr f2, fun v z => z.elim (fun z => by have := a3 v z; omega) (f3 v)⟩
      · rw [if_neg (fun z => z.elim n1 (fun z => by
          have := z.2
          rw [a1, f1, nI_ltI (by omega) (by omega)] at this
          omega))]
        exact Or.inr ⟨u, a1, a0, Or.inl a2, fun v z => z.elim (a3 v) (fun z => by have := f3 v z; omega)⟩
theorem lsA_LD {f : Nat → Int32} {G : Nat → Nat → Prop} : ∀ (r k : Nat) (a : Int32) (A : Nat → Prop), LD A a → (∀ j, k ≤ j → j < k + r → LD (G j) (f j)) → LD (fun v => A v ∨ ∃ j, k ≤ j ∧ j < k + r ∧ G j v) (lsA f r k a)
  | 0, k, a, A, ha, h => LD_c (fun v => ⟨Or.inl, fun z => z.elim id (fun ⟨j, h1, h2, _⟩ => absurd h1 (by omega))⟩) ha
  | r + 1, k, a, A, ha, h => by
    have h1 := lsr_LD ha (h k (by omega) (by omega))
    refine LD_c (fun v => ?_) (lsA_LD r (k + 1) _ _ h1 (fun j q1 q2 => h j (by omega) (by omega)))
    constructor
    · rintro ((z | z) | ⟨j, q1, q2, q3⟩)
      · exact Or.inl z
      · exact Or.inr ⟨k, Nat.le_refl _, by omega, z⟩
      · exact Or.inr ⟨j, by omega, by omega, q3⟩
    · rintro (z | ⟨j, q1, q2, q3⟩)
      · exact Or.inl (Or.inl z)
      · rcases Nat.lt_or_ge k j with y | y
        · exact Or.inr ⟨j, by omega, by omega, q3⟩
        · rw [show j = k by omega] at q3
          exact Or.inl (Or.inr q3)
end PR
