/-! RUNS AS PROPOSITIONS: E, rewriting rules by kind of instruction -/
def E (N S d M pc : Nat) (L : q_L) (st : List Value) (h : q_H) (P : Option Value → q_H → Nat → Nat → Prop) : Prop := ∃ (n : Nat) (r : Option Value) (h' : q_H) (N' S' : Nat), q_run n d M pc L st h N S = some (r, h', N', S') ∧ P r h' N' S'
theorem q_run_more : ∀ (n d M pc : Nat) (L : q_L) (st : List Value) (h : q_H) (N S : Nat) (x : q_RS), q_run n d M pc L st h N S = some x → q_run (n + 1) d M pc L st h N S = some x
  | 0, d, M, pc, L, st, h, N, S, x, hr => by rw [q_run] at hr; cases hr
  | n + 1, d, M, pc, L, st, h, N, S, x, hr => by
    rw [q_run] at hr ⊢
    split at hr
    · cases hr
    · rename_i i len hdec
      split at hr
      · exact hr
      · split at hr
        · rename_i k M' hcal
          split at hr
          · cases hr
          · rename_i d'
            split at hr
            · rename_i hlm
              split at hr
              · rename_i r1 h1 N1 S1 hrun
                split at hr
                · rename_i hwf
                  have e1 := q_run_more n _ _ _ _ _ _ _ _ _ hrun
                  have e2 := q_run_more n _ _ _ _ _ _ _ _ _ hr
                  simp only [if_pos hlm, e1, if_pos hwf]
                  exact e2
                · cases hr
              · cases hr
            · cases hr
        · split at hr
          · exact q_run_more n _ _ _ _ _ _ _ _ _ hr
          · cases hr
theorem q_run_le {n k d M pc : Nat} {L : q_L} {st : List Value} {h : q_H} {N S : Nat} {x : q_RS} (hk : n ≤ k) (hr : q_run n d M pc L st h N S = some x) : q_run k d M pc L st h N S = some x := by
  induction hk with
  | refl => exact hr
  | step _ ih => exact q_run_more _ _ _ _ _ _ _ _ _ _ ih
section EL
variable {N S d M pc len : Nat} {L : q_L} {st : List Value} {h : q_H} {P : Option Value → q_H → Nat → Nat → Prop} {i : Instr}
theorem E_step {pc' N' S' : Nat} {L' : q_L} {st' : List Value} {h' : q_H} (hd : decode (q_code M) pc = .ok (i, len)) (he : q_end M i st h N S = none) (hc : q_cal (q_own M) i = none) (hi : q_ins (q_own M) ((q_y M).name == "<init>") i len pc L st h N S = some (pc', L', st', h', N', S')) :
    E N S d M pc L st h P ↔ E N' S' d M pc' L' st' h' P := by
  constructor
  · rintro ⟨n, r, h2, N2, S2, hr, hp⟩
    cases n with
    | zero => rw [q_run] at hr; cases hr
    | succ n =>
      rw [q_run, hd] at hr
      simp only [he, hc, hi] at hr
      exact ⟨n, r, h2, N2, S2, hr, hp⟩
  · rintro ⟨n, r, h2, N2, S2, hr, hp⟩
    refine ⟨n + 1, r, h2, N2, S2, ?_, hp⟩
    rw [q_run, hd]
    simp only [he, hc, hi]
    exact hr
theorem E_ret {r : Option Value} {h' : q_H} {N' S' : Nat} (hd : decode (q_code M) pc = .ok (i, 1)) (he : q_end M i st h N S = some (r, h', N', S')) : E N S d M pc L st h P ↔ P r h' N' S' := by
  constructor
  · rintro ⟨n, r, h2, N2, S2, hr, hp⟩
    cases n with
    | zero => rw [q_run] at hr; cases hr
    | succ n =>
      rw [q_run, hd] at hr
      simp only [he, if_true] at hr
      cases hr
      exact hp
  · intro hp
    refine ⟨1, r, h', N', S', ?_, hp⟩
    rw [q_run, hd]
    simp only [he, if_true]
theorem E_call {k M' : Nat} (hd : decode (q_code M) pc = .ok (i, 3)) (he : q_end M i st h N S = none) (hc : q_cal (q_own M) i = some (k, M')) (hm : q_may k M' st h N = true) :
    E N S (d + 1) M pc L st h P ↔ E N S d M' 0 (q_loc (st.take (q_na M')).reverse (q_ml M')) [] h (fun r h' N' S' => (N' = N ∨ q_wf N L (st.drop (q_na M')) h) ∧ E N' S' (d + 1) M (pc + 3) L (r.toList ++ st.drop (q_na M')) h' P) := by
  constructor
  · rintro ⟨n, r, h2, N2, S2, hr, hp⟩
    cases n with
    | zero => rw [q_run] at hr; cases hr
    | succ n =>
      rw [q_run, hd] at hr
      simp only [he, hc, hm, and_self, if_true] at hr
      split at hr
      · rename_i r1 h1 N1 S1 hrun
        split at hr
        · rename_i hwf
          exact ⟨n, r1, h1, N1, S1, hrun, hwf, n, r, h2, N2, S2, hr, hp⟩
        · cases hr
      · cases hr
  · rintro ⟨n, r1, h1, N1, S1, hrun, hwf, n2, r, h2, N2, S2, hr, hp⟩
    refine ⟨n + n2 + 1, r, h2, N2, S2, ?_, hp⟩
    rw [q_run, hd]
    simp only [he, hc, hm, and_self, if_true]
    rw [q_run_le (show n ≤ n + n2 by omega) hrun]
    simp only [if_pos hwf]
    exact q_run_le (by omega) hr
theorem E_alu {st' : List Value} (hd : decode (q_code M) pc = .ok (i, len)) (he : q_end M i st h N S = none) (hc : q_cal (q_own M) i = none) (h1 : q_alu i st = some (len, st')) : E N S d M pc L st h P ↔ E N S d M (pc + len) L st' h P :=
  E_step hd he hc (by unfold q_ins; simp only [h1, if_true])
theorem E_cst {st' : List Value} {o : Nat} (ho : q_own M = o) (hd : decode (q_code M) pc = .ok (i, len)) (he : q_end M i st h N S = none) (hc : q_cal o i = none) (h0 : q_alu i st = none) (h1 : q_cst o i st = some (len, st')) : E N S d M pc L st h P ↔ E N S d M (pc + len) L st' h P :=
  E_step hd he (by rw [ho]; exact hc) (by unfold q_ins; simp only [h0, ho, h1, if_true])
theorem E_lop {L' : q_L} {st' : List Value} (hd : decode (q_code M) pc = .ok (i, len)) (he : q_end M i st h N S = none) (hc : q_cal (q_own M) i = none) (h0 : q_alu i st = none) (h2 : q_cst (q_own M) i st = none) (h1 : q_lop i L st = some (len, L', st')) : E N S d M pc L st h P ↔ E N S d M (pc + len) L' st' h P :=
  E_step hd he hc (by unfold q_ins; simp only [h0, h2, h1, if_true])
theorem E_br {t : Nat} {st' : List Value} (hd : decode (q_code M) pc = .ok (i, len)) (he : q_end M i st h N S = none) (hc : q_cal (q_own M) i = none) (h0 : q_alu i st = none) (h2 : q_cst (q_own M) i st = none) (h3 : q_lop i L st = none) (h1 : q_br i len pc st = some (t, st')) : E N S d M pc L st h P ↔ E N S d M t L st' h P :=
  E_step hd he hc (by unfold q_ins; simp only [h0, h2, h3, h1])
theorem E_hop {o : Nat} {st' : List Value} {h' : q_H} (ho : q_own M = o) (hd : decode (q_code M) pc = .ok (i, len)) (he : q_end M i st h N S = none) (hc : q_cal o i = none) (h0 : q_alu i st = none) (h2 : q_cst o i st = none) (h3 : q_lop i L st = none) (h4 : q_br i len pc st = none) (h1 : q_hop o ((q_y M).name == "<init>") i st h N = some (len, st', h')) : E N S d M pc L st h P ↔ E N S d M (pc + len) L st' h' P :=
  E_step hd he (by rw [ho]; exact hc) (by unfold q_ins; simp only [h0, ho, h2, h3, h4, h1, if_true])
theorem E_if {a b : Nat} {c : Prop} [Decidable c] : E N S d M (if c then a else b) L st h P ↔ if c then E N S d M a L st h P else E N S d M b L st h P := by
  split <;> rfl
theorem E_c1 {c : Jvm.ClassFile.Cond} {a b : Nat} {x : Int32} {k : Prop} [Decidable k] (hk : q_c1 c x = decide k) : E N S d M (if q_c1 c x = true then a else b) L st h P ↔ if k then E N S d M a L st h P else E N S d M b L st h P := by
  rw [hk]
  by_cases z : k
  · simp [z]
  · simp [z]
theorem E_c2 {c : Jvm.ClassFile.Cond} {a b : Nat} {x y : Int32} {k : Prop} [Decidable k] (hk : q_c2 c x y = decide k) : E N S d M (if q_c2 c x y = true then a else b) L st h P ↔ if k then E N S d M a L st h P else E N S d M b L st h P := by
  rw [hk]
  by_cases z : k
  · simp [z]
  · simp [z]
end EL
def q_cs (st : List Value) : Nat := (st.map fun v => v.category).sum
theorem q_cs_nil : q_cs [] = 0 := rfl
theorem q_cs_int (x : Int32) (st : List Value) : q_cs (.int x :: st) = 1 + q_cs st := rfl
theorem q_cs_ref (x : Nat) (st : List Value) : q_cs (.ref x :: st) = 1 + q_cs st := rfl
theorem q_cs_long (x : Int64) (st : List Value) : q_cs (.long x :: st) = 2 + q_cs st := rfl
