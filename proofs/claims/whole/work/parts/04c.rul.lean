/-! RULES of heap instructions and calls over the layout -/
section RU
variable {S d M pc : Nat} {L : q_L} {st : List Value} {h : q_H} {P : Option Value → q_H → Nat → Nat → Prop} {SL : Nat} {xs : Nat → Int32} {F B : q_FT} {C : q_CT} {o a : Nat}
theorem E_stuck {N len : Nat} {i : Instr} (hd : decode (q_code M) pc = .ok (i, len)) (he : q_end M i st h N S = none) (hc : q_cal (q_own M) i = none) (hi : q_ins (q_own M) ((q_y M).name == "<init>") i len pc L st h N S = none) : E N S d M pc L st h P ↔ False := by
  constructor
  · rintro ⟨n, r, h2, N2, S2, hr, hp⟩
    cases n with
    | zero => rw [q_run] at hr; cases hr
    | succ n =>
      rw [q_run, hd] at hr
      simp only [he, hc, hi] at hr
      cases hr
  · exact fun h => h.elim
theorem E_hopN {N len : Nat} {i : Instr} (ho : q_own M = o) (hd : decode (q_code M) pc = .ok (i, len)) (he : q_end M i st h N S = none) (hc : q_cal o i = none) (h0 : q_alu i st = none) (h2 : q_cst o i st = none) (h3 : q_lop i L st = none) (h4 : q_br i len pc st = none) (h1 : q_hop o ((q_y M).name == "<init>") i st h N = none) (h5 : q_alo o i st h N S = none) : E N S d M pc L st h P ↔ False :=
  E_stuck hd he (by rw [ho]; exact hc) (by unfold q_ins; simp only [h0, ho, h2, h3, h4, h1, h5])
theorem E_gf {k ci j : Nat} {v : Value} (ho : q_own M = o) (hd : decode (q_code M) pc = .ok (.getfield k, 3)) (hf : q_fld o k = some (ci, j)) (hci : ci < 9) (hv : ∀ F C a', a' = a → (q_fs F C a' ci)[j]? = (q_fs F C a ci)[j]?) (hk : q_kd a = ci) (hv2 : (q_fs F C a ci)[j]? = some v) :
    E 199 S d M pc L (.ref a :: st) (hp SL xs F B C) P ↔ E 199 S d M (pc + 3) L (v :: st) (hp SL xs F B C) P := by
  have hlt := q_kd_lt hk (by omega)
  refine E_hop ho hd rfl rfl rfl rfl rfl rfl ?_
  show ((q_getf o k (hp SL xs F B C) 199 (.ref a :: st)).map _) = _
  have e : q_getf o k (hp SL xs F B C) 199 (.ref a :: st) = some (v :: st) := by
    unfold q_getf
    simp only [if_pos (show a < 199 ∨ 1000 ≤ a from Or.inl hlt), hf, hp_obj hk hci, if_true, hv2, Option.map_some]
  rw [e]
  rfl
theorem E_pf {k ci j : Nat} {x : Int32} (ho : q_own M = o) (hd : decode (q_code M) pc = .ok (.putfield k, 3)) (hf : q_fld o k = some (ci, j)) (hci : ci < 9) (hnf : q_ffin ci j = false) (hl : j < (q_fs F C a ci).length) (hs : q_fs (u2 F a j x) C a ci = (q_fs F C a ci).set j (.int x)) (hft : q_fit (q_fty ci j) (.int x) = true) (hk : q_kd a = ci) :
    E 199 S d M pc L (.int x :: .ref a :: st) (hp SL xs F B C) P ↔ E 199 S d M (pc + 3) L st (hp SL xs (u2 F a j x) B C) P := by
  have hlt := q_kd_lt hk (by omega)
  refine E_hop ho hd rfl rfl rfl rfl rfl rfl ?_
  show ((q_putf o k _ (hp SL xs F B C) 199 (.int x :: .ref a :: st)).map _) = _
  have e : ∀ ini, q_putf o k ini (hp SL xs F B C) 199 (.int x :: .ref a :: st) = some (st, hp SL xs (u2 F a j x) B C) := by
    intro ini
    unfold q_putf
    have c : ci = ci ∧ j < (q_fs F C a ci).length ∧ (q_ffin ci j = false ∨ (ini = true ∧ o = ci)) ∧ q_fit (q_fty ci j) (.int x) = true := ⟨rfl, hl, Or.inl hnf, hft⟩
    simp only [if_pos hlt, hf, hp_obj hk hci, hl, hnf, hft, true_or, and_self, if_true]
    rw [hp_set (F' := u2 F a j x) (B' := B) (C' := C) hk (by omega) ?_ (fun b hb z => hpc_F hb)]
    rw [← hs]
    match ci, hci with
    | 0, _ => rfl
    | 1, _ => rfl
    | 2, _ => rfl
    | 3, _ => rfl
    | 4, _ => rfl
    | 5, _ => rfl
    | 6, _ => rfl
    | 7, _ => rfl
    | 8, _ => rfl
    | n + 9, hci => omega
  rw [e]
  rfl
theorem E_pfL {k : Nat} {x : Int64} (ho : q_own M = o) (hd : decode (q_code M) pc = .ok (.putfield k, 3)) (hf : q_fld o k = some (8, 15)) (hk : q_kd a = 8) :
    E 199 S d M pc L (.long x :: .ref a :: st) (hp SL xs F B C) P ↔ E 199 S d M (pc + 3) L st (hp SL xs F B (u2 C a 15 x)) P := by
  have hlt := q_kd_lt hk (by omega)
  refine E_hop ho hd rfl rfl rfl rfl rfl rfl ?_
  show ((q_putf o k _ (hp SL xs F B C) 199 (.long x :: .ref a :: st)).map _) = _
  have e : ∀ ini, q_putf o k ini (hp SL xs F B C) 199 (.long x :: .ref a :: st) = some (st, hp SL xs F B (u2 C a 15 x)) := by
    intro ini
    unfold q_putf
    have c : 8 = 8 ∧ 15 < (q_fs F C a 8).length ∧ (q_ffin 8 15 = false ∨ (ini = true ∧ o = 8)) ∧ q_fit (q_fty 8 15) (.long x) = true := ⟨rfl, by simp [q_fs], Or.inl rfl, by simp [q_fit, q_fty, tyX8, narrow, fits]⟩
    obtain ⟨-, hl, c3, hft⟩ := c
    simp only [if_pos hlt, hf, hp_obj hk (by omega : 8 < 9), hl, c3, hft, and_self, if_true]
    rw [hp_set (F' := F) (B' := B) (C' := u2 C a 15 x) hk (by omega) ?_ (fun b hb z => hpc_Cj hb)]
    show Sum.inr (8, q_fs F (u2 C a 15 x) a 8) = _
    simp [q_fs, u2]
  rw [e]
  rfl
theorem E_iald {i : Int32} (ho : q_own M = o) (hd : decode (q_code M) pc = .ok (.iaload, 1)) (hk : q_kd a = 10) :
    E 199 S d M pc L (.int i :: .ref a :: st) (hp SL xs F B C) P ↔ vp_in i (q_ln a) ∧ E 199 S d M (pc + 1) L (.int (B a i.toNatClampNeg) :: st) (hp SL xs F B C) P := by
  have hlt := q_kd_lt hk (by omega)
  by_cases hin : vp_in i (q_ln a)
  · rw [and_iff_right hin]
    refine E_hop ho hd rfl rfl rfl rfl rfl rfl ?_
    show ((q_iald (hp SL xs F B C) 199 (.int i :: .ref a :: st)).map _) = _
    have e : q_iald (hp SL xs F B C) 199 (.int i :: .ref a :: st) = some (.int (B a i.toNatClampNeg) :: st) := by
      unfold q_iald
      simp only [if_pos (show a < 199 ∨ 1000 ≤ a from Or.inl hlt), hp_at hk (by omega : (10 : Nat) ≠ 99), hpc]
      rw [if_neg hin]
    rw [e]
    rfl
  · rw [show (vp_in i (q_ln a) ∧ E 199 S d M (pc + 1) L (.int (B a i.toNatClampNeg) :: st) (hp SL xs F B C) P) ↔ False from ⟨fun h => hin h.1, fun h => h.elim⟩]
    refine E_hopN ho hd rfl rfl rfl rfl rfl rfl ?_ rfl
    show ((q_iald (hp SL xs F B C) 199 (.int i :: .ref a :: st)).map _) = _
    have e : q_iald (hp SL xs F B C) 199 (.int i :: .ref a :: st) = none := by
      unfold q_iald
      simp only [if_pos (show a < 199 ∨ 1000 ≤ a from Or.inl hlt), hp_at hk (by omega : (10 : Nat) ≠ 99), hpc]
      rw [if_pos (Classical.byContradiction hin)]
    rw [e]
    rfl
theorem E_bald {i : Int32} (ho : q_own M = o) (hd : decode (q_code M) pc = .ok (.baload, 1)) (hk : q_kd a = 11 ∨ q_kd a = 13) :
    E 199 S d M pc L (.int i :: .ref a :: st) (hp SL xs F B C) P ↔ vp_in i (q_ln a) ∧ E 199 S d M (pc + 1) L (.int (B a i.toNatClampNeg) :: st) (hp SL xs F B C) P := by
  have hlt : a < 199 := by rcases hk with hk | hk <;> exact q_kd_lt hk (by omega)
  by_cases hin : vp_in i (q_ln a)
  · rw [and_iff_right hin]
    refine E_hop ho hd rfl rfl rfl rfl rfl rfl ?_
    show ((q_bald (hp SL xs F B C) 199 (.int i :: .ref a :: st)).map _) = _
    have e : q_bald (hp SL xs F B C) 199 (.int i :: .ref a :: st) = some (.int (B a i.toNatClampNeg) :: st) := by
      unfold q_bald
      rcases hk with hk | hk
      · simp only [if_pos (show a < 199 ∨ 1000 ≤ a from Or.inl hlt), hp_at hk (by omega : (11 : Nat) ≠ 99), hpc]
        rw [if_neg hin]
      · simp only [if_pos (show a < 199 ∨ 1000 ≤ a from Or.inl hlt), hp_at hk (by omega : (13 : Nat) ≠ 99), hpc]
        rw [if_neg hin]
    rw [e]
    rfl
  · rw [show (vp_in i (q_ln a) ∧ E 199 S d M (pc + 1) L (.int (B a i.toNatClampNeg) :: st) (hp SL xs F B C) P) ↔ False from ⟨fun h => hin h.1, fun h => h.elim⟩]
    refine E_hopN ho hd rfl rfl rfl rfl rfl rfl ?_ rfl
    show ((q_bald (hp SL xs F B C) 199 (.int i :: .ref a :: st)).map _) = _
    have e : q_bald (hp SL xs F B C) 199 (.int i :: .ref a :: st) = none := by
      unfold q_bald
      rcases hk with hk | hk
      · simp only [if_pos (show a < 199 ∨ 1000 ≤ a from Or.inl hlt), hp_at hk (by omega : (11 : Nat) ≠ 99), hpc]
        rw [if_pos (Classical.byContradiction hin)]
      · simp only [if_pos (show a < 199 ∨ 1000 ≤ a from Or.inl hlt), hp_at hk (by omega : (13 : Nat) ≠ 99), hpc]
        rw [if_pos (Classical.byContradiction hin)]
    rw [e]
    rfl
theorem E_lald {i : Int32} (ho : q_own M = o) (hd : decode (q_code M) pc = .ok (.laload, 1)) (hk : q_kd a = 12) :
    E 199 S d M pc L (.int i :: .ref a :: st) (hp SL xs F B C) P ↔ vp_in i (q_ln a) ∧ E 199 S d M (pc + 1) L (.long (C a i.toNatClampNeg) :: st) (hp SL xs F B C) P := by
  have hlt := q_kd_lt hk (by omega)
  by_cases hin : vp_in i (q_ln a)
  · rw [and_iff_right hin]
    refine E_hop ho hd rfl rfl rfl rfl rfl rfl ?_
    show ((q_lald (hp SL xs F B C) 199 (.int i :: .ref a :: st)).map _) = _
    have e : q_lald (hp SL xs F B C) 199 (.int i :: .ref a :: st) = some (.long (C a i.toNatClampNeg) :: st) := by
      unfold q_lald
      simp only [if_pos (show a < 199 ∨ 1000 ≤ a from Or.inl hlt), hp_at hk (by omega : (12 : Nat) ≠ 99), hpc]
      rw [if_neg hin]
    rw [e]
    rfl
  · rw [show (vp_in i (q_ln a) ∧ E 199 S d M (pc + 1) L (.long (C a i.toNatClampNeg) :: st) (hp SL xs F B C) P) ↔ False from ⟨fun h => hin h.1, fun h => h.elim⟩]
    refine E_hopN ho hd rfl rfl rfl rfl rfl rfl ?_ rfl
    show ((q_lald (hp SL xs F B C) 199 (.int i :: .ref a :: st)).map _) = _
    have e : q_lald (hp SL xs F B C) 199 (.int i :: .ref a :: st) = none := by
      unfold q_lald
      simp only [if_pos (show a < 199 ∨ 1000 ≤ a from Or.inl hlt), hp_at hk (by omega : (12 : Nat) ≠ 99), hpc]
      rw [if_pos (Classical.byContradiction hin)]
    rw [e]
    rfl
/-- the table of sets -/
theorem E_sets {i : Int32} (ho : q_own M = o) (hd : decode (q_code M) pc = .ok (.laload, 1)) :
    E 199 S d M pc L (.int i :: .ref (1200 : Nat) :: st) (hp SL xs F B C) P ↔ vp_in i 6 ∧ E 199 S d M (pc + 1) L (.long (q_sets i.toNatClampNeg) :: st) (hp SL xs F B C) P := by
  have hro : hp SL xs F B C 1200 = .inl (2, (6, .inr (.inl q_sets))) := rfl
  by_cases hin : vp_in i 6
  · rw [and_iff_right hin]
    refine E_hop ho hd rfl rfl rfl rfl rfl rfl ?_
    show ((q_lald (hp SL xs F B C) 199 (.int i :: .ref (1200 : Nat) :: st)).map _) = _
    have e : q_lald (hp SL xs F B C) 199 (.int i :: .ref (1200 : Nat) :: st) = some (.long (q_sets i.toNatClampNeg) :: st) := by
      unfold q_lald
      simp only [if_pos (show 1200 < 199 ∨ 1000 ≤ 1200 by omega), hro]
      rw [if_neg hin]
    rw [e]
    rfl
  · rw [show (vp_in i 6 ∧ E 199 S d M (pc + 1) L (.long (q_sets i.toNatClampNeg) :: st) (hp SL xs F B C) P) ↔ False from ⟨fun h => hin h.1, fun h => h.elim⟩]
    refine E_hopN ho hd rfl rfl rfl rfl rfl rfl ?_ rfl
    show ((q_lald (hp SL xs F B C) 199 (.int i :: .ref (1200 : Nat) :: st)).map _) = _
    have e : q_lald (hp SL xs F B C) 199 (.int i :: .ref (1200 : Nat) :: st) = none := by
      unfold q_lald
      simp only [if_pos (show 1200 < 199 ∨ 1000 ≤ 1200 by omega), hro]
      rw [if_pos (Classical.byContradiction hin)]
    rw [e]
    rfl
theorem E_iast {i x : Int32} (ho : q_own M = o) (hd : decode (q_code M) pc = .ok (.iastore, 1)) (hk : q_kd a = 10) :
    E 199 S d M pc L (.int x :: .int i :: .ref a :: st) (hp SL xs F B C) P ↔ vp_in i (q_ln a) ∧ E 199 S d M (pc + 1) L st (hp SL xs F (u2 B a i.toNatClampNeg x) C) P := by
  have hlt := q_kd_lt hk (by omega)
  by_cases hin : vp_in i (q_ln a)
  · rw [and_iff_right hin]
    refine E_hop ho hd rfl rfl rfl rfl rfl rfl ?_
    show ((q_iast (hp SL xs F B C) 199 (.int x :: .int i :: .ref a :: st)).map _) = _
    have e : q_iast (hp SL xs F B C) 199 (.int x :: .int i :: .ref a :: st) = some (st, hp SL xs F (u2 B a i.toNatClampNeg x) C) := by
      unfold q_iast
      simp only [if_pos hlt, hp_at hk (by omega : (10 : Nat) ≠ 99), hpc]
      rw [if_neg hin, hp_set hk (by omega) ?_ (fun b hb z => hpc_Bj hb)]
      show Sum.inl (0, (q_ln a, Sum.inl (u2 B a i.toNatClampNeg x a))) = _
      rw [u2_upd]
    rw [e]
    rfl
  · rw [show (vp_in i (q_ln a) ∧ E 199 S d M (pc + 1) L st (hp SL xs F (u2 B a i.toNatClampNeg x) C) P) ↔ False from ⟨fun h => hin h.1, fun h => h.elim⟩]
    refine E_hopN ho hd rfl rfl rfl rfl rfl rfl ?_ rfl
    show ((q_iast (hp SL xs F B C) 199 (.int x :: .int i :: .ref a :: st)).map _) = _
    have e : q_iast (hp SL xs F B C) 199 (.int x :: .int i :: .ref a :: st) = none := by
      unfold q_iast
      simp only [if_pos hlt, hp_at hk (by omega : (10 : Nat) ≠ 99), hpc]
      rw [if_pos (Classical.byContradiction hin)]
    rw [e]
    rfl
theorem E_bast {i x : Int32} (ho : q_own M = o) (hd : decode (q_code M) pc = .ok (.bastore, 1)) (hk : q_kd a = 11) :
    E 199 S d M pc L (.int x :: .int i :: .ref a :: st) (hp SL xs F B C) P ↔ vp_in i (q_ln a) ∧ E 199 S d M (pc + 1) L st (hp SL xs F (u2 B a i.toNatClampNeg (vp_nar .byte x)) C) P := by
  have hlt := q_kd_lt hk (by omega)
  by_cases hin : vp_in i (q_ln a)
  · rw [and_iff_right hin]
    refine E_hop ho hd rfl rfl rfl rfl rfl rfl ?_
    show ((q_bast (hp SL xs F B C) 199 (.int x :: .int i :: .ref a :: st)).map _) = _
    have e : q_bast (hp SL xs F B C) 199 (.int x :: .int i :: .ref a :: st) = some (st, hp SL xs F (u2 B a i.toNatClampNeg (vp_nar .byte x)) C) := by
      unfold q_bast
      simp only [if_pos hlt, hp_at hk (by omega : (11 : Nat) ≠ 99), hpc]
      rw [if_neg hin, hp_set hk (by omega) ?_ (fun b hb z => hpc_Bj hb)]
      show Sum.inl (1, (q_ln a, Sum.inl (u2 B a i.toNatClampNeg (vp_nar .byte x) a))) = _
      rw [u2_upd]
    rw [e]
    rfl
  · rw [show (vp_in i (q_ln a) ∧ E 199 S d M (pc + 1) L st (hp SL xs F (u2 B a i.toNatClampNeg (vp_nar .byte x)) C) P) ↔ False from ⟨fun h => hin h.1, fun h => h.elim⟩]
    refine E_hopN ho hd rfl rfl rfl rfl rfl rfl ?_ rfl
    show ((q_bast (hp SL xs F B C) 199 (.int x :: .int i :: .ref a :: st)).map _) = _
    have e : q_bast (hp SL xs F B C) 199 (.int x :: .int i :: .ref a :: st) = none := by
      unfold q_bast
      simp only [if_pos hlt, hp_at hk (by omega : (11 : Nat) ≠ 99), hpc]
      rw [if_pos (Classical.byContradiction hin)]
    rw [e]
    rfl
theorem E_zast {i x : Int32} (ho : q_own M = o) (hd : decode (q_code M) pc = .ok (.bastore, 1)) (hk : q_kd a = 13) :
    E 199 S d M pc L (.int x :: .int i :: .ref a :: st) (hp SL xs F B C) P ↔ vp_in i (q_ln a) ∧ E 199 S d M (pc + 1) L st (hp SL xs F (u2 B a i.toNatClampNeg (vp_nar .boolean x)) C) P := by
  have hlt := q_kd_lt hk (by omega)
  by_cases hin : vp_in i (q_ln a)
  · rw [and_iff_right hin]
    refine E_hop ho hd rfl rfl rfl rfl rfl rfl ?_
    show ((q_bast (hp SL xs F B C) 199 (.int x :: .int i :: .ref a :: st)).map _) = _
    have e : q_bast (hp SL xs F B C) 199 (.int x :: .int i :: .ref a :: st) = some (st, hp SL xs F (u2 B a i.toNatClampNeg (vp_nar .boolean x)) C) := by
      unfold q_bast
      simp only [if_pos hlt, hp_at hk (by omega : (13 : Nat) ≠ 99), hpc]
      rw [if_neg hin, hp_set hk (by omega) ?_ (fun b hb z => hpc_Bj hb)]
      show Sum.inl (3, (q_ln a, Sum.inl (u2 B a i.toNatClampNeg (vp_nar .boolean x) a))) = _
      rw [u2_upd]
    rw [e]
    rfl
  · rw [show (vp_in i (q_ln a) ∧ E 199 S d M (pc + 1) L st (hp SL xs F (u2 B a i.toNatClampNeg (vp_nar .boolean x)) C) P) ↔ False from ⟨fun h => hin h.1, fun h => h.elim⟩]
    refine E_hopN ho hd rfl rfl rfl rfl rfl rfl ?_ rfl
    show ((q_bast (hp SL xs F B C) 199 (.int x :: .int i :: .ref a :: st)).map _) = _
    have e : q_bast (hp SL xs F B C) 199 (.int x :: .int i :: .ref a :: st) = none := by
      unfold q_bast
      simp only [if_pos hlt, hp_at hk (by omega : (13 : Nat) ≠ 99), hpc]
      rw [if_pos (Classical.byContradiction hin)]
    rw [e]
    rfl
theorem E_last {i : Int32} {x : Int64} (ho : q_own M = o) (hd : decode (q_code M) pc = .ok (.lastore, 1)) (hk : q_kd a = 12) :
    E 199 S d M pc L (.long x :: .int i :: .ref a :: st) (hp SL xs F B C) P ↔ vp_in i (q_ln a) ∧ E 199 S d M (pc + 1) L st (hp SL xs F B (u2 C a i.toNatClampNeg x)) P := by
  have hlt := q_kd_lt hk (by omega)
  by_cases hin : vp_in i (q_ln a)
  · rw [and_iff_right hin]
    refine E_hop ho hd rfl rfl rfl rfl rfl rfl ?_
    show ((q_last (hp SL xs F B C) 199 (.long x :: .int i :: .ref a :: st)).map _) = _
    have e : q_last (hp SL xs F B C) 199 (.long x :: .int i :: .ref a :: st) = some (st, hp SL xs F B (u2 C a i.toNatClampNeg x)) := by
      unfold q_last
      simp only [if_pos hlt, hp_at hk (by omega : (12 : Nat) ≠ 99), hpc]
      rw [if_neg hin, hp_set hk (by omega) ?_ (fun b hb z => hpc_Cj hb)]
      show Sum.inl (2, (q_ln a, Sum.inr (Sum.inl (u2 C a i.toNatClampNeg x a)))) = _
      rw [u2_updL]
    rw [e]
    rfl
  · rw [show (vp_in i (q_ln a) ∧ E 199 S d M (pc + 1) L st (hp SL xs F B (u2 C a i.toNatClampNeg x)) P) ↔ False from ⟨fun h => hin h.1, fun h => h.elim⟩]
    refine E_hopN ho hd rfl rfl rfl rfl rfl rfl ?_ rfl
    show ((q_last (hp SL xs F B C) 199 (.long x :: .int i :: .ref a :: st)).map _) = _
    have e : q_last (hp SL xs F B C) 199 (.long x :: .int i :: .ref a :: st) = none := by
      unfold q_last
      simp only [if_pos hlt, hp_at hk (by omega : (12 : Nat) ≠ 99), hpc]
      rw [if_pos (Classical.byContradiction hin)]
    rw [e]
    rfl
/-- an element of one of the three arrays of references -/
theorem E_aald {i : Int32} {n base step t k : Nat} (ho : q_own M = o) (hd : decode (q_code M) pc = .ok (.aaload, 1)) (hk : q_kd a = k) (hk9 : k ≠ 99) (hc : ∀ F B C a, hpc F B C a k = .inl (t, (n, .inr (.inr (.inr (.inr (q_rf n base step))))))) (ht : ¬ t < 4 ∧ ¬ 6 < t) (hin : vp_in i n) :
    E 199 S d M pc L (.int i :: .ref a :: st) (hp SL xs F B C) P ↔ E 199 S d M (pc + 1) L (.ref (base + step * i.toNatClampNeg) :: st) (hp SL xs F B C) P := by
  have hlt := q_kd_lt hk hk9
  refine E_hop ho hd rfl rfl rfl rfl rfl rfl ?_
  show ((q_aald (hp SL xs F B C) 199 (.int i :: .ref a :: st)).map _) = _
  have e : q_aald (hp SL xs F B C) 199 (.int i :: .ref a :: st) = some (.ref (base + step * i.toNatClampNeg) :: st) := by
    unfold q_aald
    simp only [if_pos hlt, hp_at hk hk9, hc]
    have hl : i.toNatClampNeg < n := Nat.not_le.mp fun q => hin (Or.inr q)
    rw [if_neg (fun q => q.elim (fun z => hin (Or.inl z)) (fun z => z.elim (fun y => hin (Or.inr y)) (fun y => y.elim ht.1 ht.2)))]
    unfold q_rf
    rw [if_pos hl]
    rfl
  rw [e]
  rfl
theorem E_aald4 {i : Int32} (ho : q_own M = o) (hd : decode (q_code M) pc = .ok (.aaload, 1)) (hk : q_kd a = 14) (hin : vp_in i 24) : E 199 S d M pc L (.int i :: .ref a :: st) (hp SL xs F B C) P ↔ E 199 S d M (pc + 1) L (.ref (39 + 5 * i.toNatClampNeg) :: st) (hp SL xs F B C) P :=
  E_aald ho hd hk (by omega) (fun _ _ _ _ => rfl) (by omega) hin
theorem E_aald5 {i : Int32} (ho : q_own M = o) (hd : decode (q_code M) pc = .ok (.aaload, 1)) (hk : q_kd a = 15) (hin : vp_in i 2) : E 199 S d M pc L (.int i :: .ref a :: st) (hp SL xs F B C) P ↔ E 199 S d M (pc + 1) L (.ref (160 + 11 * i.toNatClampNeg) :: st) (hp SL xs F B C) P :=
  E_aald ho hd hk (by omega) (fun _ _ _ _ => rfl) (by omega) hin
theorem E_aald6 {i : Int32} (ho : q_own M = o) (hd : decode (q_code M) pc = .ok (.aaload, 1)) (hk : q_kd a = 16) (hin : vp_in i 8) : E 199 S d M pc L (.int i :: .ref a :: st) (hp SL xs F B C) P ↔ E 199 S d M (pc + 1) L (.ref (5 + 1 * i.toNatClampNeg) :: st) (hp SL xs F B C) P :=
  E_aald ho hd hk (by omega) (fun _ _ _ _ => rfl) (by omega) hin
theorem E_alen (ho : q_own M = o) (hd : decode (q_code M) pc = .ok (.arraylength, 1)) (hk : q_kd a = 12 ∨ q_kd a = 10) : E 199 S d M pc L (.ref a :: st) (hp SL xs F B C) P ↔ E 199 S d M (pc + 1) L (.int (Int32.ofNat (q_ln a)) :: st) (hp SL xs F B C) P := by
  have hlt : a < 199 := by rcases hk with hk | hk <;> exact q_kd_lt hk (by omega)
  refine E_hop ho hd rfl rfl rfl rfl rfl rfl ?_
  show ((q_alen (hp SL xs F B C) 199 (.ref a :: st)).map _) = _
  have e : q_alen (hp SL xs F B C) 199 (.ref a :: st) = some (.int (Int32.ofNat (q_ln a)) :: st) := by
    unfold q_alen
    rcases hk with hk | hk
    · simp only [if_pos (show a < 199 ∨ 1000 ≤ a from Or.inl hlt), hp_at hk (by omega : (12 : Nat) ≠ 99), hpc]
      rfl
    · simp only [if_pos (show a < 199 ∨ 1000 ≤ a from Or.inl hlt), hp_at hk (by omega : (10 : Nat) ≠ 99), hpc]
      rfl
  rw [e]
  rfl
theorem E_copy {k M' b : Nat} {n dp sp : Int32} (ho : q_own M = o) (hd : decode (q_code M) pc = .ok (.invokestatic k, 3)) (hi : q_inv o k = some (6, M')) (hk : q_kd a = 10) (hk2 : q_kd b = 10) (h1 : ¬ sp < 0) (h2 : ¬ dp < 0) (h3 : ¬ n < 0) (h4 : sp.toNatClampNeg + n.toNatClampNeg ≤ q_ln b) (h5 : dp.toNatClampNeg + n.toNatClampNeg ≤ q_ln a) (hs : q_cs st ≤ 8) :
    E 199 S d M pc L (.int n :: .int dp :: .ref a :: .int sp :: .ref b :: st) (hp SL xs F B C) P ↔ E 199 S d M (pc + 3) L st (hp SL xs F (c2 B a (va_cpy (B b) (B a) sp.toNatClampNeg dp.toNatClampNeg n.toNatClampNeg)) C) P := by
  have hlt := q_kd_lt hk (by omega)
  have hlt2 := q_kd_lt hk2 (by omega)
  refine E_hop ho hd rfl ?_ rfl rfl rfl rfl ?_
  · show (match q_inv o k with | some (1, M) => some (1, M) | some (3, M) => some (3, M) | _ => none) = none
    rw [hi]
    rfl
  · show (if (q_inv o k).map (fun e => e.1) = some 6 then (q_copy (hp SL xs F B C) 199 (.int n :: .int dp :: .ref a :: .int sp :: .ref b :: st)).map _ else none) = _
    rw [hi, if_pos (show Option.map (fun e : Nat × Nat => e.1) (some (6, M')) = some 6 from rfl)]
    have e : q_copy (hp SL xs F B C) 199 (.int n :: .int dp :: .ref a :: .int sp :: .ref b :: st) = some (st, hp SL xs F (c2 B a (va_cpy (B b) (B a) sp.toNatClampNeg dp.toNatClampNeg n.toNatClampNeg)) C) := by
      unfold q_copy
      have c : ¬ sp < 0 ∧ ¬ dp < 0 ∧ ¬ n < 0 ∧ sp.toNatClampNeg + n.toNatClampNeg ≤ q_ln b ∧ dp.toNatClampNeg + n.toNatClampNeg ≤ q_ln a ∧ (st.map fun v => v.category).sum ≤ 8 := ⟨h1, h2, h3, h4, h5, hs⟩
      simp only [if_pos (show a < 199 ∧ b < 199 from ⟨hlt, hlt2⟩), hp_at hk (by omega : (10 : Nat) ≠ 99), hp_at hk2 (by omega : (10 : Nat) ≠ 99), hpc, if_pos c]
      rw [hp_set hk (by omega) ?_ (fun b hb z => hpc_Bc hb)]
      show Sum.inl (0, (q_ln a, Sum.inl (c2 B a _ a))) = _
      rw [c2_self]
    rw [e]
    rfl
/-- behind a call -/
def q_K (N d M pc : Nat) (L : q_L) (st : List Value) (h : q_H) (P : Option Value → q_H → Nat → Nat → Prop) : Option Value → q_H → Nat → Nat → Prop := fun r h' N' S' => (N' = N ∨ q_wf N L st h) ∧ E N' S' d M pc L (r.toList ++ st) h' P
theorem q_K_i {N : Nat} {v : Value} {h' : q_H} : q_K N d M pc L st h P (some v) h' N S ↔ E N S d M pc L (v :: st) h' P := ⟨fun q => q.2, fun q => ⟨Or.inl rfl, q⟩⟩
theorem q_K_v {N : Nat} {h' : q_H} : q_K N d M pc L st h P none h' N S ↔ E N S d M pc L st h' P := ⟨fun q => q.2, fun q => ⟨Or.inl rfl, q⟩⟩
theorem q_may_V {M' : Nat} {r : List Value} (hl : q_na M' ≤ st.length) (he : (q_ent (st.take (q_na M')).reverse).length ≤ q_ml M') (hr : (st.take (q_na M')).reverse = .ref a :: r) (hc : q_own M' < 9) (hs : q_cs (st.drop (q_na M')) ≤ 8) (hk : q_kd a = q_own M') : q_may 0 M' st (hp SL xs F B C) 199 = true := by
  have hlt := q_kd_lt hk (by omega)
  unfold q_may
  rw [hr] at he ⊢
  have hs : ((st.drop (q_na M')).map fun v => v.category).sum ≤ 8 := hs
  simp only [Bool.and_eq_true, decide_eq_true_eq]
  refine ⟨⟨⟨hl, hs⟩, he⟩, ?_⟩
  show q_rcv _ _ _ _ = true
  unfold q_rcv
  simp only [hp_obj hk hc, Bool.and_eq_true, decide_eq_true_eq, beq_self_eq_true, and_true]
  exact Or.inl hlt
theorem q_may_S {M' k : Nat} (hk : k = 1 ∨ k = 3) (hl : q_na M' ≤ st.length) (he : (q_ent (st.take (q_na M')).reverse).length ≤ q_ml M') (hs : q_cs (st.drop (q_na M')) ≤ 8) {N : Nat} : q_may k M' st h N = true := by
  unfold q_may
  have hs : ((st.drop (q_na M')).map fun v => v.category).sum ≤ 8 := hs
  simp only [Bool.and_eq_true, decide_eq_true_eq]
  refine ⟨⟨⟨hl, hs⟩, he⟩, ?_⟩
  rcases hk with rfl | rfl <;> rfl
end RU
