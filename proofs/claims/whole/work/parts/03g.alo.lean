/-! THE ABSTRACT MACHINE IS SOUND, VI: cells are made -/
theorem q_cv_up {ad ad' : Nat → Nat} {sv : Value} {N : Nat} (ha : ∀ a : Nat, a < N ∨ 1000 ≤ a → ad' a = ad a) {v : Value} (hw : q_wfV N v) : q_cv ad' sv v = q_cv ad sv v := by
  cases v with
  | ref k => exact congrArg Value.ref (ha k (hw k rfl))
  | _ => rfl
theorem q_cvs_up {ad ad' : Nat → Nat} {sv : Value} {N : Nat} (ha : ∀ a : Nat, a < N ∨ 1000 ≤ a → ad' a = ad a) {st : List Value} (hw : ∀ v ∈ st, q_wfV N v) : st.map (q_cv ad' sv) = st.map (q_cv ad sv) := List.map_congr_left fun v hv => q_cv_up ha (hw v hv)
theorem q_cL_up {ad ad' : Nat → Nat} {sv : Value} {N : Nat} (ha : ∀ a : Nat, a < N ∨ 1000 ≤ a → ad' a = ad a) {L : q_L} (hw : ∀ v : Value, some v ∈ L → q_wfV N v) : q_cL ad' sv L = q_cL ad sv L := List.map_congr_left fun o ho => by
  cases o with
  | none => rfl
  | some v => exact congrArg some (q_cv_up ha (hw v ho))
theorem q_ce_up {ad ad' : Nat → Nat} {sv : Value} {ct : Nat → ClassId} {N : Nat} (ha : ∀ a : Nat, a < N ∨ 1000 ≤ a → ad' a = ad a) {e : q_E} (hw : q_wfE N e) : q_ce ad' sv ct e = q_ce ad sv ct e := by
  match e, hw with
  | .inr (ci, fs), hw => exact congrArg (fun z => Sum.inr (ci, z)) (q_cvs_up ha hw)
  | .inl (t, (n, .inl f)), _ => rfl
  | .inl (t, (n, .inr (.inl f))), _ => rfl
  | .inl (t, (n, .inr (.inr (.inl f)))), _ => rfl
  | .inl (t, (n, .inr (.inr (.inr (.inl f))))), _ => rfl
  | .inl (t, (n, .inr (.inr (.inr (.inr f))))), hw =>
    have e : (fun i => (f i).map ad') = (fun i => (f i).map ad) := funext fun i => by
      cases hf : f i with
      | none => rfl
      | some k => exact congrArg some (ha k (Or.inl (hw i k hf)))
    show Sum.inl (ct t, (n, Sum.inr (Sum.inr (Sum.inr (Sum.inr (fun i => (f i).map ad')))))) = Sum.inl (ct t, (n, Sum.inr (Sum.inr (Sum.inr (Sum.inr (fun i => (f i).map ad))))))
    rw [e]
theorem q_X_up {ad ad' : Nat → Nat} {sv : Value} {SL : Nat} {xs : Nat → Int32} {A : Nat → Prop} {s : State} {H : Heap} (ha : ∀ a : Nat, 1000 ≤ a → ad' a = ad a) (h : q_X ad sv SL xs A s H) : q_X ad' sv SL xs A s H := by
  have e1 : (fun i => ad' (1000 + i)) = fun i => ad (1000 + i) := funext fun i => ha _ (by omega)
  have e2 : (fun i => ad' (1100 + i)) = fun i => ad (1100 + i) := funext fun i => ha _ (by omega)
  obtain ⟨h1, h2, h3, h4, h5, h6, h7, h8⟩ := h
  refine ⟨by rw [e1, e2]; exact h1, fun j x hx => by rw [ha _ (by omega)]; exact h2 j x hx, by rw [ha _ (by omega)]; exact h3, by rw [ha _ (by omega)]; exact h4, h5, h6, by rw [ha _ (by omega)]; exact h7, h8⟩
/-- the address of the next cell -/
theorem q_up_old {ad : Nat → Nat} {N q : Nat} (hN : N < 1000) : ∀ a : Nat, a < N ∨ 1000 ≤ a → va_up ad N q a = ad a := fun a h => va_up_ne _ _ (by omega)
theorem q_W_push {ad : Nat → Nat} {sv : Value} {ct : Nat → ClassId} {N q : Nat} {h : q_H} {e : q_E} (hN : N < 1000) (hw : ∀ k : Nat, k < N → q_wfE N (h k)) : q_W ad sv ct N h ++ [(q, q_ce (va_up ad N q) sv ct e)] = q_W (va_up ad N q) sv ct (N + 1) (q_up h N e) := by
  unfold q_W
  rw [List.range_succ, List.map_append]
  congr 1
  · refine List.map_congr_left fun k hk => ?_
    have hk := List.mem_range.mp hk
    have e1 : va_up ad N q k = ad k := va_up_ne _ _ (by omega)
    have e2 : q_up h N e k = h k := by unfold q_up; rw [if_neg (by omega)]
    rw [e1, e2, q_ce_up (q_up_old hN) (hw k hk)]
  · have e1 : va_up ad N q N = q := va_up_self _ _ _
    have e2 : q_up h N e N = e := by unfold q_up; rw [if_pos rfl]
    show _ = [(va_up ad N q N, q_ce (va_up ad N q) sv ct (q_up h N e N))]
    rw [e1, e2]
theorem q_cv_dflt {ad : Nat → Nat} {sv : Value} (ty : FieldType) : q_cv ad sv (defaultValue ty) = defaultValue ty := by cases ty <;> rfl
theorem q_cv_def {ad : Nat → Nat} {sv : Value} (ci : Nat) : (q_def ci).map (q_cv ad sv) = q_def ci := by
  unfold q_def
  rw [List.map_map]
  exact List.map_congr_left fun j _ => q_cv_dflt _
/-- the class of an array type is one -/
theorem q_RA_int {U : State} {c1 c2 : ClassId} (t : Nat) (ht : t < 4) (h1 : va_RA U c1 (q_aty t)) (h2 : va_RA U c2 (q_aty t)) : c1 = c2 := by
  match t, h1, h2 with
  | 0, h1, h2 => exact Option.some.inj (h1.symm.trans h2)
  | 1, h1, h2 => exact Option.some.inj (h1.symm.trans h2)
  | 2, h1, h2 => exact Option.some.inj (h1.symm.trans h2)
  | 3, h1, h2 => exact Option.some.inj (h1.symm.trans h2)
  | n + 4, h1, h2 => omega
theorem q_RA_obj {U : State} {c1 c2 : ClassId} {C : String} (h1 : va_RA U c1 (.object C)) (h2 : va_RA U c2 (.object C)) : c1 = c2 := by
  obtain ⟨_, _, -, -, -, a⟩ := h1
  obtain ⟨_, _, -, -, -, b⟩ := h2
  exact Option.some.inj (a.symm.trans b)
theorem q_tys_len (ct : Nat → ClassId) : (q_tys ct).length = 7 := by simp [q_tys]
section QF
variable {p : Program} {l : Launch} {e : Env} {R : Room} {s : State} {m : MethodId} {args : Array Value} {below : List Frame} {meth : Method} {c : Code} {H : Heap} {locs : List Loc} {cells slots : Nat} {Q : State → Prop}
variable {pc : Nat} {ls : Array Slot} {ad : Nat → Nat} {sv : Value} {M d : Nat} {D : va_G} {ct : Nat → ClassId} {A : Nat → Prop} {SL : Nat} {xs : Nat → Int32} {h : q_H} {N : Nat}
theorem q_tys_last {cA : ClassId} {ty : FieldType} {U : State} (hK : va_K D vwCl (q_tys ct ++ [(cA, ty)]) U) : va_RA U cA ty := (hK.2 7 (cA, ty) (by rw [List.getElem?_append_right (by rw [q_tys_len]; omega), q_tys_len]; rfl)).2
theorem q_G.push {H1 : Heap} (G : q_G D ct A ad sv SL xs s h N H) {q : Nat} {e2 : q_E} (hN : N < 900) (hw : ∀ k : Nat, k < N → q_wfE N (h k)) (hP : va_P D vwCl (q_W ad sv ct N h ++ [(q, q_ce (va_up ad N q) sv ct e2)]) H1) (hD : va_D A (q_W ad sv ct N h ++ [(q, q_ce (va_up ad N q) sv ct e2)])) : q_G D ct A (va_up ad N q) sv SL xs s (q_up h N e2) (N + 1) H1 := by
  obtain ⟨-, -, hro, hX, hsv, -⟩ := G
  rw [q_W_push (by omega) hw] at hP hD
  refine ⟨hP, hD, fun x hx2 => ?_, q_X_up (fun a h1 => va_up_ne _ _ (by omega)) hX, hsv, by omega⟩
  have : x ≠ N := by omega
  simp only [q_up, if_neg this]
  exact hro x hx2
theorem q_new_snd (C : q_C p R s m args meth c M d D ct A) (G : q_G D ct A ad sv SL xs s h N H) (hS : va_S A s.heap H locs) {k ci : Nat} {st : List Value} (hh : q_new (q_own M) k = some ci) (hN : N + 1 < 900) (wf : ∀ k : Nat, k < N → q_wfE N (h k)) (hd : decode (q_code M) pc = .ok (.new k, 3)) (hc : cells + 1 ≤ R.cells) (hs : slots + q_fN ci ≤ R.slots)
    (kk : ∀ (q : Nat) (H1 : Heap), q_G D ct A (va_up ad N q) sv SL xs s (q_up h N (.inr (ci, q_def ci))) (N + 1) H1 → va_S A s.heap H1 locs → W p l e R s m args below meth c H1 locs (cells + 1) (slots + q_fN ci) Q (F0 m (pc + 3) ls (.ref q :: st.map (q_cv ad sv)))) : W p l e R s m args below meth c H locs cells slots Q (F0 m pc ls (st.map (q_cv ad sv))) := by
  obtain ⟨hx, hb, hml, hown, hts, hK, -, hfr, hlo, hA⟩ := C
  have hP := G.1
  have hD := G.2.1
  have hlk := hts _ (q_ws_new hh)
  have hci : ci < 9 := by
    have := q_find hh
    revert this
    generalize q_own M = o
    intro hm
    have hall : ∀ e ∈ q_newL, e.2.2 < 9 := by decide +kernel
    exact hall _ hm
  cases hr : vwCl[ci]? with
  | none => exact absurd (List.getElem?_eq_none_iff.mp hr) (Nat.not_le.mpr hci)
  | some r =>
    obtain ⟨hty, hnames, hcn⟩ := q_cl_ty hr
    have hfN : q_fN ci = r.2.2 := by unfold q_fN; rw [hr]; rfl
    have hinst := hts _ (q_ws_inst hci)
    have hini := hts _ (q_ws_ini (j := ci) (by omega))
    rw [← hcn] at hlk hinst hini
    rw [hfN] at hinst hs kk
    refine va_new (C := r.1) (T := r.2.1) (N := r.2.2) hx hb hts (q_ws_u hr) (q_fty ci) hty hown hlk hinst hini hK hP hD hS hA hr (fs := q_def ci) ?_ hc hs hd (fun q H1 hP1 hD1 hS1 => ?_)
    · intro j hj
      show _ = (q_def ci).getD j .null
      unfold q_def
      rw [hfN, List.getD_eq_getElem?_getD, List.getElem?_map, List.getElem?_range hj]
      rfl
    · have e1 : q_ce (va_up ad N q) sv ct (.inr (ci, q_def ci)) = .inr (ci, q_def ci) := congrArg (fun z => Sum.inr (ci, z)) (q_cv_def ci)
      exact kk q H1 (G.push (e2 := .inr (ci, q_def ci)) (by omega) wf (by rw [e1]; exact hP1) (by rw [e1]; exact hD1)) hS1
theorem q_newarr_snd (C : q_C p R s m args meth c M d D ct A) (G : q_G D ct A ad sv SL xs s h N H) (hS : va_S A s.heap H locs) {t : ArrayType} {n : Int32} {e2 : q_E} {st : List Value} (hn : ¬ n < 0) (hn2 : ¬ 65536 < n.toNatClampNeg) (hh : q_narr t n.toNatClampNeg = some e2) (hN : N + 1 < 900) (wf : ∀ k : Nat, k < N → q_wfE N (h k)) (hd : decode (q_code M) pc = .ok (.newarray t, 2)) (hc : cells + 1 ≤ R.cells) (hs : slots + n.toNatClampNeg ≤ R.slots)
    (kk : ∀ (q : Nat) (H1 : Heap), q_G D ct A (va_up ad N q) sv SL xs s (q_up h N e2) (N + 1) H1 → va_S A s.heap H1 locs → W p l e R s m args below meth c H1 locs (cells + 1) (slots + n.toNatClampNeg) Q (F0 m (pc + 2) ls (.ref q :: st.map (q_cv ad sv)))) : W p l e R s m args below meth c H locs cells slots Q (F0 m pc ls (.int n :: st.map (q_cv ad sv))) := by
  obtain ⟨hx, hb, hml, hown, hts, hK, -, hfr, hlo, hA⟩ := C
  have hP := G.1
  have hD := G.2.1
  have key : ∀ (tt : Nat) (a0 : q_DT) (q : Nat) (cA : ClassId) (H1 : Heap), tt < 4 → (∀ ad : Nat → Nat, q_cd ad a0 = a0) → e2 = .inl (tt, (n.toNatClampNeg, a0)) → va_K D vwCl (q_tys ct ++ [(cA, q_aty tt)]) s → va_P D vwCl (q_W ad sv ct N h ++ [(q, .inl (cA, n.toNatClampNeg, a0))]) H1 → va_D A (q_W ad sv ct N h ++ [(q, .inl (cA, n.toNatClampNeg, a0))]) → q_G D ct A (va_up ad N q) sv SL xs s (q_up h N e2) (N + 1) H1 := by
    intro tt a0 q cA H1 htt ha0 he2 hK1 hP1 hD1
    have hc1 : cA = ct tt := q_RA_int tt htt (q_tys_last hK1) (hK.2 tt _ (q_tys_get (by omega))).2
    subst hc1
    subst he2
    have e1 : q_ce (va_up ad N q) sv ct (.inl (tt, (n.toNatClampNeg, a0))) = .inl (ct tt, (n.toNatClampNeg, a0)) := by
      show Sum.inl (ct tt, (n.toNatClampNeg, q_cd (va_up ad N q) a0)) = _
      rw [ha0]
    exact G.push (e2 := .inl (tt, (n.toNatClampNeg, a0))) (by omega) wf (by rw [e1]; exact hP1) (by rw [e1]; exact hD1)
  cases t with
  | int =>
    cases hh
    exact va_newa (atype := .int) (a0 := (n.toNatClampNeg, .inl (fun _ => 0))) hx hb (hts _ (q_ws_fix 8 rfl)) rfl hK hP hD hS hA (fun cA => vp_cell_i ..) hn rfl (show n.toNatClampNeg * 4 ≤ 536870912 by omega) hc hs hd (fun q cA H1 hK1 hP1 hD1 hS1 => kk q H1 (key 0 _ q cA H1 (by omega) (fun _ => rfl) rfl hK1 hP1 hD1) hS1)
  | byte =>
    cases hh
    exact va_newa (atype := .byte) (a0 := (n.toNatClampNeg, .inl (fun _ => 0))) hx hb (hts _ (q_ws_fix 9 rfl)) rfl hK hP hD hS hA (fun cA => vp_cell_i ..) hn rfl (show n.toNatClampNeg * 1 ≤ 536870912 by omega) hc hs hd (fun q cA H1 hK1 hP1 hD1 hS1 => kk q H1 (key 1 _ q cA H1 (by omega) (fun _ => rfl) rfl hK1 hP1 hD1) hS1)
  | long =>
    cases hh
    exact va_newa (atype := .long) (a0 := (n.toNatClampNeg, .inr (.inl (fun _ => 0)))) hx hb (hts _ (q_ws_fix 10 rfl)) rfl hK hP hD hS hA (fun cA => vp_cell_l ..) hn rfl (show n.toNatClampNeg * 8 ≤ 536870912 by omega) hc hs hd (fun q cA H1 hK1 hP1 hD1 hS1 => kk q H1 (key 2 _ q cA H1 (by omega) (fun _ => rfl) rfl hK1 hP1 hD1) hS1)
  | boolean =>
    cases hh
    exact va_newa (atype := .boolean) (a0 := (n.toNatClampNeg, .inl (fun _ => 0))) hx hb (hts _ (q_ws_fix 11 rfl)) rfl hK hP hD hS hA (fun cA => vp_cell_i ..) hn rfl (show n.toNatClampNeg * 1 ≤ 536870912 by omega) hc hs hd (fun q cA H1 hK1 hP1 hD1 hS1 => kk q H1 (key 3 _ q cA H1 (by omega) (fun _ => rfl) rfl hK1 hP1 hD1) hS1)
  | char => cases hh
  | float => cases hh
  | double => cases hh
  | short => cases hh
theorem q_anew_snd (C : q_C p R s m args meth c M d D ct A) (G : q_G D ct A ad sv SL xs s h N H) (hS : va_S A s.heap H locs) {k t : Nat} {n : Int32} {st : List Value} (hn : ¬ n < 0) (hn2 : ¬ 65536 < n.toNatClampNeg) (ht : (q_own M = 0 ∧ k = 9 ∧ t = 4) ∨ (q_own M = 7 ∧ k = 23 ∧ t = 5)) (hN : N + 1 < 900) (wf : ∀ k : Nat, k < N → q_wfE N (h k)) (hd : decode (q_code M) pc = .ok (.anewarray k, 3)) (hc : cells + 1 ≤ R.cells) (hs : slots + n.toNatClampNeg ≤ R.slots)
    (kk : ∀ (q : Nat) (H1 : Heap), q_G D ct A (va_up ad N q) sv SL xs s (q_up h N (.inl (t, (n.toNatClampNeg, .inr (.inr (.inr (.inr (fun _ => none)))))))) (N + 1) H1 → va_S A s.heap H1 locs → W p l e R s m args below meth c H1 locs (cells + 1) (slots + n.toNatClampNeg) Q (F0 m (pc + 3) ls (.ref q :: st.map (q_cv ad sv)))) : W p l e R s m args below meth c H locs cells slots Q (F0 m pc ls (.int n :: st.map (q_cv ad sv))) := by
  obtain ⟨hx, hb, hml, hown, hts, hK, -, hfr, hlo, hA⟩ := C
  have hP := G.1
  have hD := G.2.1
  have hX := G.2.2.2.1
  have key : ∀ (C : String) (q : Nat) (cA : ClassId) (H1 : Heap), q_aty t = .object C → t < 7 → va_K D vwCl (q_tys ct ++ [(cA, .object C)]) s → va_P D vwCl (q_W ad sv ct N h ++ [(q, .inl (cA, n.toNatClampNeg, .inr (.inr (.inr (.inr (fun _ => none))))))]) H1 → va_D A (q_W ad sv ct N h ++ [(q, .inl (cA, n.toNatClampNeg, .inr (.inr (.inr (.inr (fun _ => none))))))]) → q_G D ct A (va_up ad N q) sv SL xs s (q_up h N (.inl (t, (n.toNatClampNeg, .inr (.inr (.inr (.inr (fun _ => none)))))))) (N + 1) H1 := by
    intro C q cA H1 hC htt hK1 hP1 hD1
    have hR2 := (hK.2 t _ (q_tys_get htt)).2
    rw [hC] at hR2
    have hc1 : cA = ct t := q_RA_obj (q_tys_last hK1) hR2
    subst hc1
    exact G.push (e2 := .inl (t, (n.toNatClampNeg, .inr (.inr (.inr (.inr (fun _ => none))))))) (by omega) wf hP1 hD1
  rcases ht with ⟨h0, rfl, rfl⟩ | ⟨h0, rfl, rfl⟩
  · rw [h0] at hown
    have hlk : (Cond.classLink RX0 9 RX5).before args s = true := hts _ (q_ws_new (o := 0) (k := 9) (ci := 5) (by rfl))
    exact va_newq hx hb hown hlk hX.2.2.2.2.2.2.2.2.1 hK hP hD hS hA hn rfl (by omega) hc hs hd (fun q cA H1 hK1 hP1 hD1 hS1 => kk q H1 (key _ q cA H1 rfl (by omega) hK1 hP1 hD1) hS1)
  · rw [h0] at hown
    have hlk : (Cond.classLink RX7 23 RX2).before args s = true := hts _ (q_ws_new (o := 7) (k := 23) (ci := 2) (by rfl))
    exact va_newq hx hb hown hlk hX.2.2.2.2.2.2.2.2.2.1 hK hP hD hS hA hn rfl (by omega) hc hs hd (fun q cA H1 hK1 hP1 hD1 hS1 => kk q H1 (key _ q cA H1 rfl (by omega) hK1 hP1 hD1) hS1)
end QF
