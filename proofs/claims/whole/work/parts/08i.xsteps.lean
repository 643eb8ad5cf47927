/-! The search of the class: cells and sets are nodes -/
theorem nd_448 {t k l : Nat} (hk : k < 64) (hl : l < 7) : nd t k l / 448 = t := by unfold nd; omega
theorem nd_64 {t k l : Nat} (hk : k < 64) (hl : l < 7) : nd t k l / 7 % 64 = k := by unfold nd; omega
theorem nd_7 {t k l : Nat} (hl : l < 7) : nd t k l % 7 = l := by unfold nd; omega
theorem nd_inj {t k l t' k' l' : Nat} (hk : k < 64) (hl : l < 7) (hk' : k' < 64) (hl' : l' < 7) (h : nd t k l = nd t' k' l') : t = t' ∧ k = k' ∧ l = l' := by unfold nd at h; omega
theorem mH_t : ∀ x : Nat, x < 6 → ∀ k : Nat, k < 64 → (mHas (nI k) x ↔ k.testBit x = true) := by decide +kernel
theorem LD_le {G G' : Nat → Prop} {r : Int32} (h1 : ∀ v, G' v → G v) (h2 : ∀ v, G v → ∃ v0, v0 ≤ v ∧ G' v0) (h : LD G' r) : LD G r := by
  rcases h with ⟨a, b⟩ | ⟨u, a, b, c, d⟩
  · refine Or.inl ⟨a, fun v z => ?_⟩
    obtain ⟨v0, -, y⟩ := h2 v z
    exact b v0 y
  · refine Or.inr ⟨u, a, b, h1 u c, fun v z => ?_⟩
    obtain ⟨v0, y1, y2⟩ := h2 v z
    have := d v0 y2
    omega
section RB
variable {so : Nat → Int32} {ea eb sp : Nat → Nat} {up : Int32} {m how s0 : Nat} {isl : Bool} {B : q_FT}
theorem pI_ex (hs0 : s0 < 2688) (n : Nat) : ∀ (B : q_FT), mu B ≤ n → pI so ea eb sp up m (Ed so ea eb sp up m how isl) s0 B → ∃ B', pI so ea eb sp up m (Ed so ea eb sp up m how isl) s0 B' ∧ (psA so ea eb sp up m how isl 2688 0 (B', 0)).2 = 0 := by
  induction n with
  | zero =>
    intro B hn hI
    have hs := pS_P (how := how) (isl := isl) rfl hs0 2688 0 (B, 0) (by omega) hI
    rcases hs.2.1 with z | ⟨z1, z2⟩
    · exact ⟨B, hI, by rw [z]⟩
    · exact absurd (Nat.lt_of_lt_of_le z2 hn) (Nat.not_lt_zero _)
  | succ n ih =>
    intro B hn hI
    have hs := pS_P (how := how) (isl := isl) rfl hs0 2688 0 (B, 0) (by omega) hI
    rcases hs.2.1 with z | ⟨z1, z2⟩
    · exact ⟨B, hI, by rw [z]⟩
    · exact ih _ (Nat.le_of_lt_succ (Nat.lt_of_lt_of_le z2 hn)) hs.1
theorem RP_bd (g : mG B so ea eb sp up m) (hs0 : s0 < 2688) {s v : Nat} (h : RP (Ed so ea eb sp up m how isl) s0 s v) : ∃ v', v' ≤ 24192 ∧ RP (Ed so ea eb sp up m how isl) s0 s v' := by
  have h0 : pI so ea eb sp up m (Ed so ea eb sp up m how isl) s0 (u2 (zfill B 197 0 2688 (-1000000)) 197 s0 0) := by
    refine ⟨mG_c ?_ g, u2_s, fun s hs => ?_⟩
    · rw [u2_r (by omega)]
      exact funext fun k => if_neg (by omega)
    · by_cases e : s = s0
      · subst e
        refine Or.inr ⟨0, u2_s, ?_, RP_0⟩
        have uc := (sm_u (g := gc) (B := zfill B 197 0 2688 (-1000000)) (t := s) (v := 0) 2688).1 hs
        have e0 : zfill B 197 0 2688 (-1000000) 197 s = -1000000 := if_pos ⟨rfl, by omega, hs⟩
        have e1 : gc (-1000000) = 0 := if_pos rfl
        have e2 : gc 0 = 1 := if_neg (by decide)
        rw [e0, e1, e2] at uc
        omega
      · refine Or.inl ?_
        rw [show u2 (zfill B 197 0 2688 (-1000000)) 197 s0 0 197 s = zfill B 197 0 2688 (-1000000) 197 s from if_neg (fun z => e z.2)]
        exact if_pos ⟨rfl, by omega, hs⟩
  obtain ⟨B', hI, hz⟩ := pI_ex hs0 _ _ (Nat.le_refl _) h0
  have hP := PX_of rfl hs0 hI hz (Ed_lt g)
  have hlt : ∀ k s v, rch (Ed so ea eb sp up m how isl) s0 k s v → s < 2688 := by
    intro k
    induction k with
    | zero =>
      rintro s v ⟨rfl, -⟩
      exact hs0
    | succ k ih =>
      rintro s v ⟨s', v', w, h1, h2, -⟩
      exact (Ed_lt g s' s w (ih s' v' h1) h2).1
  obtain ⟨k, hk⟩ := h
  obtain ⟨q1, q2⟩ := hP s (hlt k s v hk)
  rcases q1 with ⟨-, q1⟩ | ⟨u, a, b, c, d⟩
  · exact absurd ⟨k, hk⟩ (q1 v)
  · exact ⟨u, q2 u a b, c⟩
theorem xmR_th {x k k' : Nat} {l : Bool} (hs : so x = 1 ∨ so x = 2 ∨ so x = 3 ∨ so x = 4 ∨ so x = 5) (h : xmR so x l k k') : k' = thN so x k := by
  unfold thN
  rcases h with ⟨a, b⟩ | ⟨a, -, b⟩ | ⟨a, -, b⟩ | ⟨a, -, b⟩
  · rw [if_neg (by rw [a]; decide), b]
  · rw [if_neg (by rw [a]; decide), b]
  · rw [if_neg (by rw [a]; decide), b]
  · rw [if_pos (by
      rcases hs with z | z | z | z | z
      · exact Or.inl z
      · exact Or.inr z
      · exact absurd (Or.inl z) a
      · exact absurd (Or.inr (Or.inl z)) a
      · exact absurd (Or.inr (Or.inr z)) a), b]
theorem xmR_lt {x k k' : Nat} {l : Bool} (hx : x < 6) (hk : k < 64) (hh : ¬ how = 2) (h : xmR so x l k k') : ltB so how x l k := by
  refine Or.inr ⟨hh, ?_⟩
  rcases h with ⟨a, -⟩ | ⟨a, b, -⟩ | ⟨a, b, -⟩ | ⟨a, b, -⟩
  · exact Or.inl a
  · exact Or.inr (Or.inl ⟨a, by rw [b]; decide⟩)
  · exact Or.inr (Or.inr (Or.inl ⟨a, b⟩))
  · refine Or.inr (Or.inr (Or.inr ⟨a, ?_⟩))
    rw [mH_t x hx k hk, b]
theorem lt_xmR {x k : Nat} {l : Bool} (hx : x < 6) (hk : k < 64) (hs : so x = 1 ∨ so x = 2 ∨ so x = 3 ∨ so x = 4 ∨ so x = 5) (hh : ¬ how = 2) (h : ltB so how x l k) : xmR so x l k (thN so x k) := by
  rcases h with z | ⟨-, a | ⟨a, b⟩ | ⟨a, b⟩ | ⟨a, b⟩⟩
  · exact absurd z.1 hh
  · exact Or.inl ⟨a, if_neg (by rw [a]; decide)⟩
  · exact Or.inr (Or.inl ⟨a, by simpa using b, if_neg (by rw [a]; decide)⟩)
  · exact Or.inr (Or.inr (Or.inl ⟨a, b, if_neg (by rw [a]; decide)⟩))
  · refine Or.inr (Or.inr (Or.inr ⟨a, ?_, if_pos ?_⟩))
    · rw [mH_t x hx k hk] at b
      exact (Bool.eq_iff_iff.mpr b).symm
    · rcases hs with z | z | z | z | z
      · exact Or.inl z
      · exact Or.inr z
      · exact absurd (Or.inl z) a
      · exact absurd (Or.inr (Or.inl z)) a
      · exact absurd (Or.inr (Or.inr z)) a
theorem otN_lt (g : xG B so ea eb sp m) {x t : Nat} (hx : x < m) (h : ¬ otN ea eb x t = 99) : otN ea eb x t < 6 := by
  obtain ⟨-, -, -, -, g5, g6, -⟩ := g.2 x hx
  unfold otN at h ⊢
  split at h
  · rename_i c; rw [if_pos c]; exact g6
  · split at h
    · rename_i c c'; rw [if_neg c, if_pos c']; exact g5
    · exact absurd rfl h
theorem uX_lt (g : xG B so ea eb sp m) {us : Int32} {x c c' : Nat} (hx : x < m) (h : uX ea eb us x c c') : c' < 48 ∧ c' / 8 = otN ea eb x (c / 8) ∧ c' % 8 = c % 8 := by
  have := otN_lt g hx h.2.1
  have e := h.2.2
  omega
theorem BH_0 (g : xG B so ea eb sp m) {t li k0 : Nat} (ht : t < 6) (hli : li < 7) (hk0 : k0 < 64) : BH so ea eb sp up m 1 (nd t k0 li) (t * 8 + li) k0 (Ed so ea eb sp up m 0 isl) (fun c => c < 48 ∧ c % 8 < 7) (fun c k => nd (c / 8) k (c % 8)) := by
  dsimp only [BH]
  refine ⟨fun c h => h.1, fun c k x c' k' hV hk hx hu hr => ?_, fun c k s w hV hk hE => ?_, fun c c' k v hj hk => ?_, fun c k c' k' hV hV' hk hk' he => ?_, ⟨⟨by omega, by omega⟩, hk0, by rw [show (t * 8 + li) / 8 = t by omega, show (t * 8 + li) % 8 = li by omega]⟩, fun x hx => ?_, fun x c c' hx hu _ => (uX_lt g hx hu).1, g.1⟩
  · obtain ⟨-, -, -, -, -, -, -, -, g9⟩ := g.2 x hx
    have hx6 : x < 6 := by have := g.1; omega
    obtain ⟨u1, u2', u3⟩ := uX_lt g hx hu
    have e := xmR_th g9 hr
    refine ⟨by rw [e]; exact thN_lt hx6 hk, ⟨u1, by rw [u3]; exact hV.2⟩, Or.inl ⟨x, hx, hu.1, ?_, ?_, ?_, rfl⟩⟩
    · rw [nd_448 hk hV.2]
      exact hu.2.1
    · show ltB so 0 x (if 0 = 0 then decide (nd (c / 8) k (c % 8) % 7 = 6) else isl) _
      rw [if_pos rfl, nd_7 hV.2, nd_64 hk hV.2]
      exact xmR_lt hx6 hk (by omega) hr
    · rw [nd_448 hk hV.2, nd_64 hk hV.2, nd_7 hV.2, u2', u3, e]
  · rcases hE with ⟨x, hx, q1, q2, q3, q4, q5⟩ | ⟨-, q1, q2, q3⟩ | ⟨-, q1, q2, q3⟩
    · obtain ⟨-, -, -, -, -, -, -, -, g9⟩ := g.2 x hx
      have hx6 : x < 6 := by have := g.1; omega
      rw [nd_448 hk hV.2] at q2 q4
      rw [nd_64 hk hV.2] at q4
      rw [nd_7 hV.2] at q4
      have q3' : ltB so 0 x (if 0 = 0 then decide (nd (c / 8) k (c % 8) % 7 = 6) else isl) (nd (c / 8) k (c % 8) / 7 % 64) := q3
      rw [if_pos rfl, nd_7 hV.2, nd_64 hk hV.2] at q3'
      have ho := otN_lt g hx q2
      refine Or.inl ⟨c, k, x, otN ea eb x (c / 8) * 8 + c % 8, thN so x k, hV, hk, rfl, hx, ⟨q1, q2, rfl⟩, lt_xmR hx6 hk g9 (by omega) q3', ?_, q5⟩
      rw [q4, show (otN ea eb x (c / 8) * 8 + c % 8) / 8 = otN ea eb x (c / 8) by omega, show (otN ea eb x (c / 8) * 8 + c % 8) % 8 = c % 8 by omega]
    · rw [nd_7 hV.2] at q1
      rw [nd_448 hk hV.2, nd_64 hk hV.2] at q2
      refine Or.inr ⟨q3, c / 8 * 8 + c / 8, ⟨by omega, c / 8, by omega, Or.inr ⟨by omega, rfl⟩⟩, ?_⟩
      rw [q2, show (c / 8 * 8 + c / 8) / 8 = c / 8 by omega, show (c / 8 * 8 + c / 8) % 8 = c / 8 by omega]
    · rw [nd_7 hV.2, nd_448 hk hV.2] at q1
      rw [nd_448 hk hV.2, nd_64 hk hV.2] at q2
      refine Or.inr ⟨q3, c / 8 * 8 + 6, ⟨by omega, c / 8, by omega, Or.inl ⟨?_, rfl⟩⟩, ?_⟩
      · show c = c / 8 * 8 + (if 1 = 1 then c / 8 else 7)
        rw [if_pos rfl]
        omega
      · rw [q2, show (c / 8 * 8 + 6) / 8 = c / 8 by omega, show (c / 8 * 8 + 6) % 8 = 6 by omega]
  · obtain ⟨-, y, hy, z⟩ := hj
    have ee : eC8 1 y = y * 8 + y := by show y * 8 + (if 1 = 1 then y else 7) = _; rw [if_pos rfl]
    rw [ee] at z
    have f1 : ∀ v, RP (Ed so ea eb sp up m 0 isl) (nd t k0 li) (nd y k y) v → RP (Ed so ea eb sp up m 0 isl) (nd t k0 li) (nd y k 6) v := fun v h => RP_s h (Or.inr (Or.inr ⟨rfl, by rw [nd_7 (by omega), nd_448 hk (by omega)], by rw [nd_448 hk (by omega), nd_64 hk (by omega)], rfl⟩))
    have f2 : ∀ v, RP (Ed so ea eb sp up m 0 isl) (nd t k0 li) (nd y k 6) v → RP (Ed so ea eb sp up m 0 isl) (nd t k0 li) (nd y k y) v := fun v h => RP_s h (Or.inr (Or.inl ⟨rfl, by rw [nd_7 (by omega)], by rw [nd_448 hk (by omega), nd_64 hk (by omega)], rfl⟩))
    rcases z with ⟨rfl, rfl⟩ | ⟨rfl, rfl⟩
    · refine ⟨⟨by omega, by omega⟩, ⟨by omega, by omega⟩, ?_⟩
      rw [show (y * 8 + y) / 8 = y by omega, show (y * 8 + y) % 8 = y by omega, show (y * 8 + 6) / 8 = y by omega, show (y * 8 + 6) % 8 = 6 by omega]
      exact ⟨f1 v, f2 v⟩
    · refine ⟨⟨by omega, by omega⟩, ⟨by omega, by omega⟩, ?_⟩
      rw [show (y * 8 + y) / 8 = y by omega, show (y * 8 + y) % 8 = y by omega, show (y * 8 + 6) / 8 = y by omega, show (y * 8 + 6) % 8 = 6 by omega]
      exact ⟨f2 v, f1 v⟩
  · obtain ⟨h1, h2, h3⟩ := nd_inj hk hV.2 hk' hV'.2 he
    exact ⟨h2, Or.inl (by omega)⟩
  · obtain ⟨-, -, -, -, -, -, g7, g8, -⟩ := g.2 x hx
    exact ⟨g7, g8⟩
theorem BH_1 (g : xG B so ea eb sp m) {t k0 : Nat} (ht : t < 6) (hk0 : k0 < 64) {pl : Nat} (hpl : pl = if isl = true then 6 else 7) : BH so ea eb sp up m 0 (nd t k0 0) (t * 8 + pl) k0 (Ed so ea eb sp up m 1 isl) (fun c => c < 48 ∧ c % 8 = pl) (fun c k => nd (c / 8) k 0) := by
  have hp8 : pl = 6 ∨ pl = 7 := by
    rw [hpl]
    cases isl <;> simp
  have hil : decide (pl = 6) = isl := by
    rw [hpl]
    cases isl <;> simp
  dsimp only [BH]
  refine ⟨fun c h => h.1, fun c k x c' k' hV hk hx hu hr => ?_, fun c k s w hV hk hE => ?_, fun c c' k v hj hk => absurd rfl hj.1, fun c k c' k' hV hV' hk hk' he => ?_, ⟨⟨by omega, by omega⟩, hk0, by rw [show (t * 8 + pl) / 8 = t by omega]⟩, fun x hx => ?_, fun x c c' hx hu _ => (uX_lt g hx hu).1, g.1⟩
  · obtain ⟨-, -, -, -, -, -, -, -, g9⟩ := g.2 x hx
    have hx6 : x < 6 := by have := g.1; omega
    obtain ⟨u1, u2', u3⟩ := uX_lt g hx hu
    have e := xmR_th g9 hr
    rw [hV.2, hil] at hr
    refine ⟨by rw [e]; exact thN_lt hx6 hk, ⟨u1, by rw [u3]; exact hV.2⟩, Or.inl ⟨x, hx, hu.1, ?_, ?_, ?_, rfl⟩⟩
    · rw [nd_448 hk (by omega)]
      exact hu.2.1
    · show ltB so 1 x (if 1 = 0 then decide (nd (c / 8) k 0 % 7 = 6) else isl) _
      rw [if_neg (by omega), nd_64 hk (by omega)]
      exact xmR_lt hx6 hk (by omega) hr
    · rw [nd_448 hk (by omega), nd_64 hk (by omega), nd_7 (by omega), u2', e]
  · rcases hE with ⟨x, hx, q1, q2, q3, q4, q5⟩ | ⟨q0, -⟩ | ⟨q0, -⟩
    · obtain ⟨-, -, -, -, -, -, -, -, g9⟩ := g.2 x hx
      have hx6 : x < 6 := by have := g.1; omega
      rw [nd_448 hk (by omega)] at q2 q4
      rw [nd_64 hk (by omega), nd_7 (by omega)] at q4
      have q3' : ltB so 1 x (if 1 = 0 then decide (nd (c / 8) k 0 % 7 = 6) else isl) (nd (c / 8) k 0 / 7 % 64) := q3
      rw [if_neg (by omega), nd_64 hk (by omega)] at q3'
      have ho := otN_lt g hx q2
      have hp := hV.2
      refine Or.inl ⟨c, k, x, otN ea eb x (c / 8) * 8 + c % 8, thN so x k, hV, hk, rfl, hx, ⟨q1, q2, rfl⟩, ?_, ?_, q5⟩
      · rw [hp, hil]
        exact lt_xmR hx6 hk g9 (by omega) q3'
      · rw [q4, show (otN ea eb x (c / 8) * 8 + c % 8) / 8 = otN ea eb x (c / 8) by omega]
    · exact absurd q0 (by omega)
    · exact absurd q0 (by omega)
  · obtain ⟨h1, h2, h3⟩ := nd_inj hk (by omega) hk' (by omega) he
    have a1 := hV.2
    have a2 := hV'.2
    exact ⟨h2, Or.inl (by omega)⟩
  · obtain ⟨-, -, -, -, -, -, g7, g8, -⟩ := g.2 x hx
    exact ⟨g7, g8⟩
theorem BH_2 (g : xG B so ea eb sp m) {us : Int32} (hus : ∀ x, x < m → (mHas us x ↔ mHas up x ∧ ¬ so x = 2)) {t k0 : Nat} (ht : t < 6) (hk0 : k0 < 64) : BH so ea eb sp us m 2 (nd t k0 0) (t * 8 + 7) k0 (Ed so ea eb sp up m 2 isl) (fun c => c < 48 ∧ (c % 8 = 6 ∨ c % 8 = 7)) (fun c k => nd (c / 8) k 0) := by
  dsimp only [BH]
  refine ⟨fun c h => h.1, fun c k x c' k' hV hk hx hu hr => ?_, fun c k s w hV hk hE => ?_, fun c c' k v hj hk => ?_, fun c k c' k' hV hV' hk hk' he => ?_, ⟨⟨by omega, by omega⟩, hk0, by rw [show (t * 8 + 7) / 8 = t by omega]⟩, fun x hx => ?_, fun x c c' hx hu _ => (uX_lt g hx hu).1, g.1⟩
  · obtain ⟨-, -, -, -, -, -, -, -, g9⟩ := g.2 x hx
    have hx6 : x < 6 := by have := g.1; omega
    obtain ⟨u1, u2', u3⟩ := uX_lt g hx hu
    have e := xmR_th g9 hr
    obtain ⟨h1, h2⟩ := (hus x hx).mp hu.1
    have hc8 := hV.2
    refine ⟨by rw [e]; exact thN_lt hx6 hk, ⟨u1, by rw [u3]; exact hV.2⟩, Or.inl ⟨x, hx, h1, ?_, Or.inl ⟨rfl, h2⟩, ?_, rfl⟩⟩
    · rw [nd_448 hk (by omega)]
      exact hu.2.1
    · rw [nd_448 hk (by omega), nd_64 hk (by omega), nd_7 (by omega), u2', e]
  · rcases hE with ⟨x, hx, q1, q2, q3, q4, q5⟩ | ⟨q0, -⟩ | ⟨q0, -⟩
    · obtain ⟨-, -, -, -, -, -, -, -, g9⟩ := g.2 x hx
      have hx6 : x < 6 := by have := g.1; omega
      rw [nd_448 hk (by omega)] at q2 q4
      rw [nd_64 hk (by omega), nd_7 (by omega)] at q4
      have q3' : ¬ so x = 2 := q3.elim (fun z => z.2) (fun z => absurd rfl z.1)
      have ho := otN_lt g hx q2
      have hu := (hus x hx).mpr ⟨q1, q3'⟩
      have hc48 := hV.1
      have mk : ∀ z, z = 6 ∨ z = 7 → xmR so x (decide (z = 6)) k (thN so x k) → (∃ c1 k1 x c' k', (c1 < 48 ∧ (c1 % 8 = 6 ∨ c1 % 8 = 7)) ∧ k1 < 64 ∧ nd (c1 / 8) k1 0 = nd (c / 8) k 0 ∧ x < m ∧ uX ea eb us x c1 c' ∧ xmR so x (decide (c1 % 8 = 6)) k1 k' ∧ nd (c' / 8) k' 0 = s ∧ w = sp x) := fun z hz hr => by
        refine ⟨c / 8 * 8 + z, k, x, otN ea eb x (c / 8) * 8 + z, thN so x k, ⟨by omega, by omega⟩, hk, by rw [show (c / 8 * 8 + z) / 8 = c / 8 by omega], hx, ⟨hu, ?_, ?_⟩, ?_, ?_, q5⟩
        · rw [show (c / 8 * 8 + z) / 8 = c / 8 by omega]
          exact q2
        · rw [show (c / 8 * 8 + z) / 8 = c / 8 by omega, show (c / 8 * 8 + z) % 8 = z by omega]
        · rw [show (c / 8 * 8 + z) % 8 = z by omega]
          exact hr
        · rw [q4, show (otN ea eb x (c / 8) * 8 + z) / 8 = otN ea eb x (c / 8) by omega]
      refine Or.inl ?_
      rcases g9 with z | z | z | z | z
      · have et : thN so x k = k ^^^ 2 ^ x := if_pos (Or.inl z)
        have n3 : ¬ (so x = 3 ∨ so x = 4 ∨ so x = 5) := by rw [z]; decide
        cases hb : k.testBit x
        · exact mk 7 (Or.inr rfl) (Or.inr (Or.inr (Or.inr ⟨n3, by rw [hb]; rfl, et⟩)))
        · exact mk 6 (Or.inl rfl) (Or.inr (Or.inr (Or.inr ⟨n3, by rw [hb]; rfl, et⟩)))
      · exact absurd z q3'
      · exact mk 6 (Or.inl rfl) (Or.inl ⟨z, if_neg (by rw [z]; decide)⟩)
      · exact mk 7 (Or.inr rfl) (Or.inr (Or.inl ⟨z, rfl, if_neg (by rw [z]; decide)⟩))
      · exact mk 6 (Or.inl rfl) (Or.inr (Or.inr (Or.inl ⟨z, rfl, if_neg (by rw [z]; decide)⟩)))
    · exact absurd q0 (by omega)
    · exact absurd q0 (by omega)
  · obtain ⟨-, y, hy, z⟩ := hj
    have ee : eC8 2 y = y * 8 + 7 := by show y * 8 + (if 2 = 1 then y else 7) = _; rw [if_neg (by omega)]
    rw [ee] at z
    rcases z with ⟨rfl, rfl⟩ | ⟨rfl, rfl⟩
    · refine ⟨⟨by omega, by omega⟩, ⟨by omega, by omega⟩, ?_⟩
      rw [show (y * 8 + 7) / 8 = y by omega, show (y * 8 + 6) / 8 = y by omega]
    · refine ⟨⟨by omega, by omega⟩, ⟨by omega, by omega⟩, ?_⟩
      rw [show (y * 8 + 7) / 8 = y by omega, show (y * 8 + 6) / 8 = y by omega]
  · obtain ⟨h1, h2, h3⟩ := nd_inj hk (by omega) hk' (by omega) he
    have a1 := hV.2
    have a2 := hV'.2
    have a3 := hV.1
    refine ⟨h2, ?_⟩
    rcases Nat.decEq c c' with z | z
    · refine Or.inr ⟨by omega, c / 8, by omega, ?_⟩
      show (c = c / 8 * 8 + (if 2 = 1 then c / 8 else 7) ∧ _) ∨ (_ ∧ c' = c / 8 * 8 + (if 2 = 1 then c / 8 else 7))
      rw [if_neg (by omega)]
      omega
    · exact Or.inl z
  · obtain ⟨-, -, -, -, -, -, g7, g8, -⟩ := g.2 x hx
    exact ⟨g7, g8⟩
end RB
