/-! MAKING: rules for the instructions that make cells, over a heap of N cells -/
def hpN (SL : Nat) (xs : Nat → Int32) (N : Nat) (g : Nat → q_E) : q_H := fun a => if a < N then g a else q_ro SL xs a
theorem up_eq {g : Nat → q_E} {a : Nat} {e : q_E} : q_up g a e a = e := if_pos rfl
theorem up_ne {g : Nat → q_E} {a b : Nat} {e : q_E} (h : ¬ b = a) : q_up g a e b = g b := if_neg h
def WG (N : Nat) (g : Nat → q_E) : Prop := ∀ k : Nat, k < N → q_wfE N (g k)
theorem wfE_le {N N' : Nat} (h : N ≤ N') {e : q_E} (he : q_wfE N e) : q_wfE N' e := by
  match e, he with
  | .inl (_, (_, .inr (.inr (.inr (.inr f))))), he => exact fun i k q => Nat.lt_of_lt_of_le (he i k q) h
  | .inr (_, fs), he => exact fun v hv k e => (he v hv k e).elim (fun z => Or.inl (Nat.lt_of_lt_of_le z h)) Or.inr
  | .inl (_, (_, .inl _)), _ => trivial
  | .inl (_, (_, .inr (.inl _))), _ => trivial
  | .inl (_, (_, .inr (.inr (.inl _)))), _ => trivial
  | .inl (_, (_, .inr (.inr (.inr (.inl _))))), _ => trivial
theorem WG_new {N : Nat} {g : Nat → q_E} {e : q_E} (h : WG N g) (he : q_wfE (N + 1) e) : WG (N + 1) (q_up g N e) := fun k hk => by
  by_cases c : k = N
  · rw [c, up_eq]
    exact he
  · rw [up_ne c]
    exact wfE_le (Nat.le_succ N) (h k (by omega))
theorem WG_up {N a : Nat} {g : Nat → q_E} {e : q_E} (h : WG N g) (he : q_wfE N e) : WG N (q_up g a e) := fun k hk => by
  by_cases c : k = a
  · rw [c, up_eq]
    exact he
  · rw [up_ne c]
    exact h k hk
theorem wfO {N ci : Nat} {fs : List Value} (h : ∀ k : Nat, Value.ref k ∈ fs → k < N ∨ 1000 ≤ k) : q_wfE N (.inr (ci, fs)) := fun v hv k e => h k (e ▸ hv)
theorem fitA {n : Nat} {ty : FieldType} : q_fit (.array ty) (.ref n) = true := by simp [q_fit, narrow, fits]
theorem fitO {n : Nat} {s : String} : q_fit (.object s) (.ref n) = true := by simp [q_fit, narrow, fits]
section MK
variable {S d M pc o N a : Nat} {L : q_L} {st : List Value} {P : Option Value → q_H → Nat → Nat → Prop} {SL : Nat} {xs : Nat → Int32} {g : Nat → q_E}
theorem hN_lt (ha : a < N) : hpN SL xs N g a = g a := if_pos ha
theorem hN_new {e : q_E} : q_up (hpN SL xs N g) N e = hpN SL xs (N + 1) (q_up g N e) := by
  funext b
  unfold q_up hpN
  dsimp only
  by_cases c : b = N
  · rw [if_pos c, if_pos (by omega), if_pos c]
  · rw [if_neg c, if_neg c]
    by_cases z : b < N
    · rw [if_pos z, if_pos (by omega)]
    · rw [if_neg z, if_neg (by omega)]
theorem hN_up {e : q_E} (ha : a < N) : q_up (hpN SL xs N g) a e = hpN SL xs N (q_up g a e) := by
  funext b
  unfold q_up hpN
  dsimp only
  by_cases c : b = a
  · rw [if_pos c, if_pos (by omega), if_pos c]
  · rw [if_neg c, if_neg c]
theorem wf1 {N : Nat} {h : q_H} (hL : ∀ k : Nat, some (Value.ref k) ∈ L → k < N ∨ 1000 ≤ k) (hs : ∀ k : Nat, Value.ref k ∈ st → k < N ∨ 1000 ≤ k) (hw : WG N g) (hg : h = hpN SL xs N g) : q_wf N L st h :=
  ⟨fun v hv k e => hL k (e ▸ hv), fun v hv k e => hs k (e ▸ hv), fun k hk => by rw [hg, hN_lt hk]; exact hw k hk⟩
theorem A_alo {len N' S' : Nat} {i : Instr} {st' : List Value} {h h' : q_H} (ho : q_own M = o) (hd : decode (q_code M) pc = .ok (i, len)) (he : q_end M i st h N S = none) (hc : q_cal o i = none) (h0 : q_alu i st = none) (h2 : q_cst o i st = none) (h3 : q_lop i L st = none) (h4 : q_br i len pc st = none) (h5 : q_hop o ((q_y M).name == "<init>") i st h N = none) (h1 : q_alo o i st h N S = some (len, st', h', N', S')) (hN : N' < 900) (hw : q_wf N L st h) : E N S d M pc L st h P ↔ E N' S' d M (pc + len) L st' h' P :=
  E_step hd he (by rw [ho]; exact hc) (by unfold q_ins; simp only [h0, ho, h2, h3, h4, h5, h1]; rw [if_pos ⟨rfl, hN, hw⟩])
theorem A_arr {t : ArrayType} {e : q_E} {x : Int32} {n : Nat} (ho : q_own M = o) (hd : decode (q_code M) pc = .ok (.newarray t, 2)) (hx : ¬ (x < 0 ∨ 65536 < x.toNatClampNeg)) (hn : x.toNatClampNeg = n) (he : q_narr t n = some e) (hN : N + 1 < 900) (hw : q_wf N L (.int x :: st) (hpN SL xs N g)) : E N S d M pc L (.int x :: st) (hpN SL xs N g) P ↔ E (N + 1) (S + n) d M (pc + 2) L (.ref N :: st) (hpN SL xs (N + 1) (q_up g N e)) P := by
  rw [← hN_new]
  refine A_alo ho hd rfl rfl rfl rfl rfl rfl rfl ?_ hN hw
  show (if x < 0 ∨ 65536 < x.toNatClampNeg then none else (q_narr t x.toNatClampNeg).map _) = _
  rw [if_neg hx, hn, he]
  rfl
theorem A_new {k ci : Nat} (ho : q_own M = o) (hd : decode (q_code M) pc = .ok (.new k, 3)) (hn : q_new o k = some ci) (hN : N + 1 < 900) (hw : q_wf N L st (hpN SL xs N g)) : E N S d M pc L st (hpN SL xs N g) P ↔ E (N + 1) (S + q_fN ci) d M (pc + 3) L (.ref N :: st) (hpN SL xs (N + 1) (q_up g N (.inr (ci, q_def ci)))) P := by
  rw [← hN_new]
  refine A_alo ho hd rfl rfl rfl rfl rfl rfl rfl ?_ hN hw
  show (q_new o k).map _ = _
  rw [hn]
  rfl
theorem A_anw {k t n : Nat} {x : Int32} (ho : q_own M = o) (hd : decode (q_code M) pc = .ok (.anewarray k, 3)) (hx : ¬ (x < 0 ∨ 65536 < x.toNatClampNeg)) (hn : x.toNatClampNeg = n) (ht : (if o = 0 ∧ k = 9 then some 4 else if o = 7 ∧ k = 23 then some 5 else none) = some t) (hN : N + 1 < 900) (hw : q_wf N L (.int x :: st) (hpN SL xs N g)) : E N S d M pc L (.int x :: st) (hpN SL xs N g) P ↔ E (N + 1) (S + n) d M (pc + 3) L (.ref N :: st) (hpN SL xs (N + 1) (q_up g N (.inl (t, (n, .inr (.inr (.inr (.inr (fun _ => none))))))))) P := by
  rw [← hN_new]
  refine A_alo ho hd rfl rfl rfl rfl rfl rfl rfl ?_ hN hw
  show (if x < 0 ∨ 65536 < x.toNatClampNeg then none else (if o = 0 ∧ k = 9 then some 4 else if o = 7 ∧ k = 23 then some 5 else none).map _) = _
  rw [if_neg hx, ht, hn]
  rfl
theorem A_put {k ci j : Nat} {fs : List Value} {v : Value} (ho : q_own M = o) (hi : ((q_y M).name == "<init>") = true) (hd : decode (q_code M) pc = .ok (.putfield k, 3)) (hf : q_fld o k = some (ci, j)) (hoc : o = ci) (hj : j < fs.length) (hfit : q_fit (q_fty ci j) v = true) (ha : a < N) (hg : g a = .inr (ci, fs)) : E N S d M pc L (v :: .ref a :: st) (hpN SL xs N g) P ↔ E N S d M (pc + 3) L st (hpN SL xs N (q_up g a (.inr (ci, fs.set j v)))) P := by
  refine E_hop ho hd rfl rfl rfl rfl rfl rfl ?_
  show ((q_putf o k ((q_y M).name == "<init>") (hpN SL xs N g) N (v :: .ref a :: st)).map _) = _
  have e : q_putf o k ((q_y M).name == "<init>") (hpN SL xs N g) N (v :: .ref a :: st) = some (st, hpN SL xs N (q_up g a (.inr (ci, fs.set j v)))) := by
    rw [← hN_up ha]
    unfold q_putf
    simp only [if_pos ha, hf, hN_lt ha, hg]
    rw [if_pos ⟨trivial, hj, Or.inr ⟨hi, hoc⟩, hfit⟩]
  rw [e]
  rfl
theorem A_get {k ci j : Nat} {fs : List Value} {v : Value} (ho : q_own M = o) (hd : decode (q_code M) pc = .ok (.getfield k, 3)) (hf : q_fld o k = some (ci, j)) (ha : a < N) (hg : g a = .inr (ci, fs)) (hv : fs[j]? = some v) : E N S d M pc L (.ref a :: st) (hpN SL xs N g) P ↔ E N S d M (pc + 3) L (v :: st) (hpN SL xs N g) P := by
  refine E_hop ho hd rfl rfl rfl rfl rfl rfl ?_
  show ((q_getf o k (hpN SL xs N g) N (.ref a :: st)).map _) = _
  have e : q_getf o k (hpN SL xs N g) N (.ref a :: st) = some (v :: st) := by
    unfold q_getf
    simp only [if_pos (show a < N ∨ 1000 ≤ a from Or.inl ha), hf, hN_lt ha, hg, if_true, hv, Option.map_some]
  rw [e]
  rfl
theorem A_ist {n i : Nat} {x : Int32} {f : Nat → Int32} (ho : q_own M = o) (hd : decode (q_code M) pc = .ok (.iastore, 1)) (ha : a < N) (hg : g a = .inl (0, (n, .inl f))) (hi : i < n) (hn : n < 2 ^ 31) : E N S d M pc L (.int x :: .int (nI i) :: .ref a :: st) (hpN SL xs N g) P ↔ E N S d M (pc + 1) L st (hpN SL xs N (q_up g a (.inl (0, (n, .inl (upd f i x)))))) P := by
  refine E_hop ho hd rfl rfl rfl rfl rfl rfl ?_
  show ((q_iast (hpN SL xs N g) N (.int x :: .int (nI i) :: .ref a :: st)).map _) = _
  have e : q_iast (hpN SL xs N g) N (.int x :: .int (nI i) :: .ref a :: st) = some (st, hpN SL xs N (q_up g a (.inl (0, (n, .inl (upd f i x)))))) := by
    have hc : (nI i).toNatClampNeg = i := nI_clamp (by omega)
    have hq : ¬ (nI i < 0 ∨ n ≤ (nI i).toNatClampNeg) := fun z => by
      rw [hc] at z
      exact z.elim (fun z => absurd (nI_pos' (n := i) (by omega)) (Int32.not_le.mpr z)) (fun z => by omega)
    rw [← hN_up ha]
    unfold q_iast
    simp only [if_pos ha, hN_lt ha, hg]
    rw [if_neg hq, hc]
  rw [e]
  rfl
theorem A_ast {n t ci i b : Nat} {f : Nat → Option Nat} {fs : List Value} (ho : q_own M = o) (hd : decode (q_code M) pc = .ok (.aastore, 1)) (ha : a < N) (hb : b < N) (hg : g a = .inl (t, (n, .inr (.inr (.inr (.inr f)))))) (hv : g b = .inr (ci, fs)) (hi : i < n) (hn : n < 2 ^ 31) (ht : (t = 4 ∧ ci = 5) ∨ (t = 5 ∧ ci = 2)) : E N S d M pc L (.ref b :: .int (nI i) :: .ref a :: st) (hpN SL xs N g) P ↔ E N S d M (pc + 1) L st (hpN SL xs N (q_up g a (.inl (t, (n, .inr (.inr (.inr (.inr (va_up f i (some b)))))))))) P := by
  refine E_hop ho hd rfl rfl rfl rfl rfl rfl ?_
  show ((q_aast (hpN SL xs N g) N (.ref b :: .int (nI i) :: .ref a :: st)).map _) = _
  have e : q_aast (hpN SL xs N g) N (.ref b :: .int (nI i) :: .ref a :: st) = some (st, hpN SL xs N (q_up g a (.inl (t, (n, .inr (.inr (.inr (.inr (va_up f i (some b)))))))))) := by
    have hc : (nI i).toNatClampNeg = i := nI_clamp (by omega)
    have hq : ¬ (nI i < 0 ∨ n ≤ (nI i).toNatClampNeg ∨ ¬ ((t = 4 ∧ ci = 5) ∨ (t = 5 ∧ ci = 2))) := fun z => by
      rw [hc] at z
      rcases z with z | z | z
      · exact absurd (nI_pos' (n := i) (by omega)) (Int32.not_le.mpr z)
      · omega
      · exact z ht
    rw [← hN_up ha]
    unfold q_aast
    simp only [if_pos (And.intro ha hb), hN_lt ha, hN_lt hb, hg, hv]
    rw [if_neg hq, hc]
  rw [e]
  rfl
theorem A_obj {k : Nat} {h : q_H} (ho : q_own M = o) (hd : decode (q_code M) pc = .ok (.invokespecial k, 3)) (hc : q_cal o (.invokespecial k) = none) (hk : (q_inv o k).map (fun e => e.1) = some 5) (hs : q_cs st ≤ 8) : E N S d M pc L (.ref a :: st) h P ↔ E N S d M (pc + 3) L st h P := by
  refine E_hop ho hd rfl hc rfl rfl rfl rfl ?_
  show (if (q_inv o k).map (fun e => e.1) = some 5 then (if (st.map fun v => v.category).sum ≤ 8 then some (3, st, h) else none) else none) = _
  rw [if_pos hk]
  exact if_pos hs
/-- a call of a constructor -/
theorem A_call {k kd M' : Nat} {h : q_H} (ho : q_own M = o) (hd : decode (q_code M) pc = .ok (.invokespecial k, 3)) (hc : q_cal o (.invokespecial k) = some (kd, M')) (hm : q_may kd M' st h N = true) (hw : q_wf N L (st.drop (q_na M')) h) (hr : ∀ Q : Option Value → q_H → Nat → Nat → Prop, (∀ h' N' S', E N' S' (d + 1) M (pc + 3) L (st.drop (q_na M')) h' P → Q none h' N' S') → E N S d M' 0 (q_loc (st.take (q_na M')).reverse (q_ml M')) [] h Q) : E N S (d + 1) M pc L st h P := by
  refine (E_call hd rfl (by rw [ho]; exact hc) hm).mpr (hr _ (fun h' N' S' z => ⟨Or.inr hw, z⟩))
end MK
theorem wq0 {N : Nat} : ∀ k : Nat, Value.ref k ∈ ([] : List Value) → k < N ∨ 1000 ≤ k := fun k h => absurd h List.not_mem_nil
theorem wqr {N a : Nat} {fs : List Value} (ha : a < N ∨ 1000 ≤ a) (h : ∀ k : Nat, Value.ref k ∈ fs → k < N ∨ 1000 ≤ k) : ∀ k : Nat, Value.ref k ∈ Value.ref a :: fs → k < N ∨ 1000 ≤ k := fun k hk => by
  rcases List.mem_cons.mp hk with e | e
  · cases e
    exact ha
  · exact h k e
theorem wqi {N : Nat} {x : Int32} {fs : List Value} (h : ∀ k : Nat, Value.ref k ∈ fs → k < N ∨ 1000 ≤ k) : ∀ k : Nat, Value.ref k ∈ Value.int x :: fs → k < N ∨ 1000 ≤ k := fun k hk => by
  rcases List.mem_cons.mp hk with e | e
  · cases e
  · exact h k e
theorem wql {N : Nat} {x : Int64} {fs : List Value} (h : ∀ k : Nat, Value.ref k ∈ fs → k < N ∨ 1000 ≤ k) : ∀ k : Nat, Value.ref k ∈ Value.long x :: fs → k < N ∨ 1000 ≤ k := fun k hk => by
  rcases List.mem_cons.mp hk with e | e
  · cases e
  · exact h k e
theorem wqn {N : Nat} {fs : List Value} (h : ∀ k : Nat, Value.ref k ∈ fs → k < N ∨ 1000 ≤ k) : ∀ k : Nat, Value.ref k ∈ Value.null :: fs → k < N ∨ 1000 ≤ k := fun k hk => by
  rcases List.mem_cons.mp hk with e | e
  · cases e
  · exact h k e
theorem wL0 {N : Nat} : ∀ k : Nat, some (Value.ref k) ∈ ([] : q_L) → k < N ∨ 1000 ≤ k := fun k h => absurd h List.not_mem_nil
theorem wLr {N a : Nat} {fs : q_L} (ha : a < N ∨ 1000 ≤ a) (h : ∀ k : Nat, some (Value.ref k) ∈ fs → k < N ∨ 1000 ≤ k) : ∀ k : Nat, some (Value.ref k) ∈ some (Value.ref a) :: fs → k < N ∨ 1000 ≤ k := fun k hk => by
  rcases List.mem_cons.mp hk with e | e
  · cases e
    exact ha
  · exact h k e
theorem wLi {N : Nat} {x : Int32} {fs : q_L} (h : ∀ k : Nat, some (Value.ref k) ∈ fs → k < N ∨ 1000 ≤ k) : ∀ k : Nat, some (Value.ref k) ∈ some (Value.int x) :: fs → k < N ∨ 1000 ≤ k := fun k hk => by
  rcases List.mem_cons.mp hk with e | e
  · cases e
  · exact h k e
theorem wLn {N : Nat} {fs : q_L} (h : ∀ k : Nat, some (Value.ref k) ∈ fs → k < N ∨ 1000 ≤ k) : ∀ k : Nat, some (Value.ref k) ∈ none :: fs → k < N ∨ 1000 ≤ k := fun k hk => by
  rcases List.mem_cons.mp hk with e | e
  · cases e
  · exact h k e
