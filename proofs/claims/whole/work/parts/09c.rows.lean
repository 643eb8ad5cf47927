/-! OPS: set, copy -/
section OB
variable {S SL : Nat} {xs : Nat → Int32} {F B : q_FT} {C : q_CT}
theorem R1_sz (r : R1 B) (k : Nat) (hk : k < 8) : B 3 k ≤ 40 ∧ -1 ≤ B 3 k := by
  rcases r k hk with ⟨h, -⟩ | ⟨sz, h0, h1, -⟩
  · rw [h]; decide
  · rw [h1]
    refine ⟨nI_le (b := 40) h0 (by omega), ?_⟩
    exact Int32.le_trans (by decide) (nI_pos' (by omega))
theorem R1_msz {F : q_FT} (r : R1 B) (k : Nat) (hk : k < 8) (h : ¬ B 192 k = -1000000) : 0 ≤ B 193 k ∧ B 193 k ≤ 40 := by
  rcases r k hk with ⟨-, z⟩ | ⟨sz, h0, -, h1, -⟩
  · exact absurd z h
  · rw [h1]
    exact ⟨nI_pos' (by omega), nI_le (b := 40) h0 (by omega)⟩
theorem o_set (r : RE F B) {x i v : Int32} : OK2 S SL xs 10 10 70 113 [some (.ref (0 : Nat)), some (.int x), some (.int i), some (.int v)] [some (.ref (187 : Nat)), some (.int x), some (.int i), some (.int v), none] F B C := fun Pc k => by
  refine (s_xset (d := 8) (fun k hk => (R1_sz r.1 k hk).1)).mpr ?_
  by_cases c : 0 ≤ x ∧ x < 8
  · rw [if_neg (not_not_intro c)]
    obtain ⟨q, hq, rfl⟩ := q_rng (n := 8) (by omega) c
    rw [nI_clamp (by omega)]
    have hm := R1_miss r.1 hq
    by_cases c1 : B 3 q = -1
    · rw [if_pos c1]
      refine k _ _ _ _ (fun Pm km => (s_mset (d := 8) (fun k hk h => R1_msz (F := F) r.1 k hk h)).mpr ?_)
      rw [if_neg (not_not_intro c), nI_clamp (by omega), if_pos (hm.mp c1)]
      exact km _ _ _ (st8 r)
    · rw [if_neg c1]
      rcases r.1 q hq with ⟨z, -⟩ | ⟨sz, h0, h1, h1', h2, h3, h4, h5⟩
      · exact absurd z c1
      · rw [h1]
        by_cases c2 : 0 ≤ i ∧ i < nI sz
        · rw [if_neg (not_not_intro c2)]
          obtain ⟨j, hj, rfl⟩ := q_rng (n := sz) (by omega) c2
          rw [nI_clamp (n := j) (by omega)]
          generalize hv : (if B 2 q = 0 then v.toInt8.toInt32 else if B 2 q = 1 then v.toInt16.toInt32 else v) = vv
          have eB : ∀ a t, ¬ a = 5 + 1 * q → u2 B (5 + 1 * q) j vv a t = B a t := fun a t h => if_neg (fun z => h z.1)
          have r1' : R1 (u2 B (5 + 1 * q) j vv) → True := fun _ => trivial
          refine k _ _ _ _ (fun Pm km => (s_mset (d := 8) (fun k hk h => ?_)).mpr ?_)
          · rw [eB 192 _ (by omega)] at h
            rw [eB 193 _ (by omega)]
            exact R1_msz (F := F) r.1 k hk h
          · rw [if_neg (not_not_intro c), nI_clamp (n := q) (by omega), eB 192 _ (by omega), if_neg (fun z => c1 (hm.mpr z)), eB 193 _ (by omega), h1', if_neg (not_not_intro c2), nI_clamp (n := j) (by omega), h4, hv]
            refine km _ _ _ (RE_rows r s8s s8f (fun a z1 z2 => ?_) (fun t ht => ?_))
            · rw [u2_r (by omega), u2_r (by omega)]
            · have eC : ∀ a, ¬ a = 5 + 1 * q → ¬ a = 194 → u2 (u2 B (5 + 1 * q) j vv) 194 (40 * q + j) vv a = B a := fun a z1 z2 => by rw [u2_r z2, u2_r z1]
              rw [eC 3 (by omega) (by omega), eC 2 (by omega) (by omega), eC 192 (by omega) (by omega), eC 193 (by omega) (by omega)]
              rcases r.1 t ht with z | ⟨sz', z0, z1, z1', z2, z3, z4, z5⟩
              · exact Or.inl z
              · refine Or.inr ⟨sz', z0, z1, z1', z2, z3, z4, fun y hy => ?_⟩
                by_cases e : t = q
                · subst e
                  by_cases e2 : y = j
                  · subst e2
                    rw [u2_s, u2_r (by omega), u2_s]
                  · rw [u2_r (by omega), show u2 B (5 + 1 * t) j vv (5 + 1 * t) y = B (5 + 1 * t) y from if_neg (fun z => e2 z.2), show ∀ G : q_FT, u2 G 194 (40 * t + j) vv 194 (40 * t + y) = G 194 (40 * t + y) from fun G => if_neg (by omega), eB _ _ (by omega)]
                    exact z5 y hy
                · rw [eC _ (by omega) (by omega), show ∀ G : q_FT, u2 G 194 (40 * q + j) vv 194 (40 * t + y) = G 194 (40 * t + y) from fun G => if_neg (by omega), eB _ _ (by omega)]
                  exact z5 y hy
        · rw [if_pos c2]
          refine k _ _ _ _ (fun Pm km => (s_mset (d := 8) (fun k hk h => R1_msz (F := F) r.1 k hk h)).mpr ?_)
          rw [if_neg (not_not_intro c), nI_clamp (by omega), if_neg (fun z => c1 (hm.mpr z)), h1', if_pos c2]
          exact km _ _ _ (st8 r)
  · rw [if_pos c]
    refine k _ _ _ _ (fun Pm km => (s_mset (d := 8) (fun k hk h => R1_msz (F := F) r.1 k hk h)).mpr ?_)
    rw [if_pos c]
    exact km _ _ _ r
theorem o_copy (r : RE F B) {a i b j n : Int32} : OK2 S SL xs 10 10 71 115 [some (.ref (0 : Nat)), some (.int a), some (.int i), some (.int b), some (.int j), some (.int n)] [some (.ref (187 : Nat)), some (.int a), some (.int i), some (.int b), some (.int j), some (.int n), none, none] F B C := fun Pc k => by
  refine (s_xcopy (d := 8) (R1_sz r.1)).mpr ?_
  by_cases c : (0 ≤ a ∧ a < 8) ∧ 0 ≤ b ∧ b < 8
  · rw [if_neg (not_not_intro c)]
    obtain ⟨p, hp, rfl⟩ := q_rng (n := 8) (by omega) c.1
    obtain ⟨q, hq, rfl⟩ := q_rng (n := 8) (by omega) c.2
    rw [nI_clamp (n := p) (by omega), nI_clamp (n := q) (by omega)]
    have hm := R1_miss r.1 hp
    have hm' := R1_miss r.1 hq
    by_cases c1 : B 3 p = -1 ∨ B 3 q = -1
    · rw [if_pos c1]
      refine k _ _ _ _ (fun Pm km => (s_mcopy (d := 8) (fun k hk h => R1_msz (F := F) r.1 k hk h)).mpr ?_)
      rw [if_neg (not_not_intro c), nI_clamp (n := p) (by omega), nI_clamp (n := q) (by omega), if_pos (c1.elim (fun z => Or.inl (hm.mp z)) (fun z => Or.inr (hm'.mp z)))]
      exact km _ _ _ (st8 r)
    · rw [if_neg c1]
      have c1' : ¬ (B 192 p = -1000000 ∨ B 192 q = -1000000) := fun z => c1 (z.elim (fun z => Or.inl (hm.mpr z)) (fun z => Or.inr (hm'.mpr z)))
      rcases r.1 p hp with ⟨z, -⟩ | ⟨sp, p0, p1, p1', p2, p3, p4, p5⟩
      · exact absurd (Or.inl z) c1
      · rcases r.1 q hq with ⟨z, -⟩ | ⟨sq, q0, q1, q1', q2, q3, q4, q5⟩
        · exact absurd (Or.inr z) c1
        · by_cases cq : B 2 p = B 2 q
          · rw [if_neg (not_not_intro cq), p1, q1]
            have cq' : B 192 p = B 192 q := by rw [p4, q4]; exact cq
            by_cases c3 : (0 ≤ i ∧ 0 ≤ n ∧ n ≤ nI sp - i) ∧ 0 ≤ j ∧ 0 ≤ n ∧ n ≤ nI sq - j
            · rw [if_neg (not_not_intro c3)]
              have c3' := c3
              obtain ⟨i0, n0, rfl, rfl, hi⟩ := span_ex p0 c3.1
              obtain ⟨j0, n1, rfl, e, hj⟩ := span_ex q0 c3.2
              have en : n0 = n1 := (nI_eq (by omega) (by omega)).mp e
              subst en
              rw [nI_clamp (n := i0) (by omega), nI_clamp (n := j0) (by omega), nI_clamp (n := n0) (by omega)]
              have eB : ∀ a, ¬ a = 5 + 1 * q → c2 B (5 + 1 * q) (va_cpy (B (5 + 1 * p)) (B (5 + 1 * q)) i0 j0 n0) a = B a := fun a h => if_neg h
              refine k _ _ _ _ (fun Pm km => (s_mcopy (d := 8) (fun k hk h => ?_)).mpr ?_)
              · rw [eB 192 (by omega)] at h
                rw [eB 193 (by omega)]
                exact R1_msz (F := F) r.1 k hk h
              · rw [if_neg (not_not_intro c), nI_clamp (n := p) (by omega), nI_clamp (n := q) (by omega), eB 192 (by omega), eB 193 (by omega), if_neg c1', if_neg (not_not_intro cq'), p1', q1', if_neg (not_not_intro c3'), nI_clamp (n := i0) (by omega), nI_clamp (n := j0) (by omega), nI_clamp (n := n0) (by omega)]
                refine km _ _ _ (RE_rows r s8s s8f (fun a z1 z2 => ?_) (fun t ht => ?_))
                · funext y
                  rw [bc_ne (by omega), eB a (by omega)]
                · have eC : ∀ a y, ¬ a = 5 + 1 * q → ¬ a = 194 → bc (c2 B (5 + 1 * q) (va_cpy (B (5 + 1 * p)) (B (5 + 1 * q)) i0 j0 n0)) 194 (40 * p + i0) 194 (40 * q + j0) n0 a y = B a y := fun a y z1 z2 => by rw [bc_ne z2, eB a z1]
                  rw [eC 3 _ (by omega) (by omega), eC 2 _ (by omega) (by omega), eC 192 _ (by omega) (by omega), eC 193 _ (by omega) (by omega)]
                  rcases r.1 t ht with z | ⟨sz', z0, z1, z1', z2, z3, z4, z5⟩
                  · exact Or.inl z
                  · refine Or.inr ⟨sz', z0, z1, z1', z2, z3, z4, fun y hy => ?_⟩
                    have e194 : bc (c2 B (5 + 1 * q) (va_cpy (B (5 + 1 * p)) (B (5 + 1 * q)) i0 j0 n0)) 194 (40 * p + i0) 194 (40 * q + j0) n0 194 (40 * t + y) = if 40 * q + j0 ≤ 40 * t + y ∧ 40 * t + y < 40 * q + j0 + n0 then B 194 (40 * p + i0 + (40 * t + y - (40 * q + j0))) else B 194 (40 * t + y) := by
                      show (if 194 = 194 ∧ _ then _ else _) = _
                      rw [eB 194 (by omega)]
                      by_cases w : 40 * q + j0 ≤ 40 * t + y ∧ 40 * t + y < 40 * q + j0 + n0
                      · rw [if_pos w, if_pos ⟨rfl, w⟩]
                      · rw [if_neg w, if_neg (fun z => w z.2)]
                    rw [e194]
                    by_cases e : t = q
                    · subst e
                      rw [bc_ne (by omega), show c2 B (5 + 1 * t) (va_cpy (B (5 + 1 * p)) (B (5 + 1 * t)) i0 j0 n0) (5 + 1 * t) = va_cpy (B (5 + 1 * p)) (B (5 + 1 * t)) i0 j0 n0 from if_pos rfl]
                      by_cases w : j0 ≤ y ∧ y < j0 + n0
                      · rw [if_pos (by omega), pk_cpy_in w.1 w.2, p5 _ (by omega)]
                        congr 1
                        omega
                      · rw [if_neg (by omega), pk_cpy_out (by omega)]
                        exact z5 y hy
                    · rw [eC _ _ (by omega) (by omega), if_neg (by omega)]
                      exact z5 y hy
            · rw [if_pos c3]
              refine k _ _ _ _ (fun Pm km => (s_mcopy (d := 8) (fun k hk h => R1_msz (F := F) r.1 k hk h)).mpr ?_)
              rw [if_neg (not_not_intro c), nI_clamp (n := p) (by omega), nI_clamp (n := q) (by omega), if_neg c1', if_neg (not_not_intro cq'), p1', q1', if_pos c3]
              exact km _ _ _ (st8 r)
          · rw [if_pos cq]
            refine k _ _ _ _ (fun Pm km => (s_mcopy (d := 8) (fun k hk h => R1_msz (F := F) r.1 k hk h)).mpr ?_)
            rw [if_neg (not_not_intro c), nI_clamp (n := p) (by omega), nI_clamp (n := q) (by omega), if_neg c1', if_pos (by rw [p4, q4]; exact cq)]
            exact km _ _ _ (st8 r)
  · rw [if_pos c]
    refine k _ _ _ _ (fun Pm km => (s_mcopy (d := 8) (fun k hk h => R1_msz (F := F) r.1 k hk h)).mpr ?_)
    rw [if_pos c]
    exact km _ _ _ r
end OB
