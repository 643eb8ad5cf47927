/-! THE ABSTRACT MACHINE IS SOUND, IX: calls, whole runs -/
theorem q_tabM : ∀ x ∈ q_methL.take 201, x.2.1.cls = q_cn x.1 ∧ x.2.1.cls ≠ "java/lang/invoke/MethodHandle" ∧ x.2.1.cls ≠ "java/lang/invoke/VarHandle" ∧ plainFor x.2.1 = true ∧ x.2.2.2.1 ≤ 13 ∧ x.1 < 14 := by decide +kernel
theorem q_meth_mem {M : Nat} (hM : M < 201) : q_meth M ∈ q_methL.take 201 := by
  have hl : M < q_methL.length := by
    have : q_methL.length = 202 := by rfl
    omega
  have e : q_meth M = q_methL[M] := by
    unfold q_meth
    rw [List.getD_eq_getElem?_getD, List.getElem?_eq_getElem hl]
    rfl
  rw [e]
  have hm : M < min 201 q_methL.length := by omega
  exact List.mem_take_iff_getElem.mpr ⟨M, hm, rfl⟩
theorem q_ws_code {M : Nat} (hM : M < 201) : Cond.code (q_y M) (q_code M) (q_ml M) (q_ret M) ∈ q_ws :=
  List.mem_append_left _ (List.mem_append_left _ (List.mem_map.mpr ⟨q_meth M, q_meth_mem hM, rfl⟩))
theorem q_invM : ∀ e ∈ q_invL, e.2.2.1 < 5 → e.2.2.2 < 201 := by decide +kernel
theorem q_invN : ∀ e ∈ q_invL, e.2.2.1 < 5 → (parseMethodDescriptor (q_y e.2.2.2).desc).map (fun d => d.parameters.length) = some (q_na e.2.2.2 - (if e.2.2.1 = 1 ∨ e.2.2.1 = 3 then 0 else 1)) ∧ ((e.2.2.1 = 1 ∨ e.2.2.1 = 3) ∨ 0 < q_na e.2.2.2) := by decide +kernel
theorem q_invI : ∀ e ∈ q_invL, e.2.2.1 = 2 ∨ e.2.2.1 = 4 → (q_y e.2.2.2).name = "<init>" ∧ q_ret e.2.2.2 = none := by decide +kernel
theorem q_invX : ∀ e ∈ q_invL, e.2.2.1 = 3 ∨ e.2.2.1 = 4 → (q_cn e.1, e.2.1, q_y e.2.2.2) ∈ q_nest := by decide +kernel
theorem q_gd {w : Cond} (h : w ∈ q_ws) : w ∈ q_ws ∧ ((w.onTables && w.keeps) = true ∨ ∃ ty, w = .arrayClass ty) := ⟨h, (q_ws_good w h).2⟩
def q_rok (M pc : Nat) (r : Option Value) : Prop := match r with
  | none => decode (q_code M) pc = .ok (.return_, 1) ∧ q_ret M = none
  | some (.int v) => decode (q_code M) pc = .ok (.ireturn, 1) ∧ ∃ ty, q_ret M = some ty ∧ narrow ty (.int v) = .int v
  | some (.long _) => decode (q_code M) pc = .ok (.lreturn, 1) ∧ q_ret M = some .long
  | _ => False
theorem q_endE {M pc N S N' S' : Nat} {i : Instr} {h h' : q_H} {st : List Value} {r : Option Value} {ad : Nat → Nat} {sv : Value} (hh : q_end M i st h N S = some (r, h', N', S')) (hd : decode (q_code M) pc = .ok (i, 1)) : q_rok M pc r ∧ st.map (q_cv ad sv) = r.toList := by
  unfold q_end at hh
  split at hh
  · split at hh
    · rename_i v ty hty
      split at hh
      · rename_i hn
        cases hh; exact ⟨⟨hd, ty, hty, hn⟩, rfl⟩
      · cases hh
    · cases hh
  · split at hh
    · split at hh
      · rename_i hty
        cases hh; exact ⟨⟨hd, hty⟩, rfl⟩
      · cases hh
    · cases hh
  · split at hh
    · split at hh
      · rename_i hty
        cases hh; exact ⟨⟨hd, hty⟩, rfl⟩
      · cases hh
    · cases hh
  · cases hh
/-- soundness of runs with n of fuel -/
def q_Snd (l : Launch) (n : Nat) : Prop := ∀ (d M pc : Nat) (L : q_L) (st : List Value) (h : q_H) (N S : Nat) (r : Option Value) (h' : q_H) (N' S' : Nat), q_run n d M pc L st h N S = some (r, h', N', S') →
  ∀ (p : Program) (e : Env) (R : Room) (s : State) (m : MethodId) (args : Array Value) (below : List Frame) (meth : Method) (c : Code) (H : Heap) (locs : List Loc) (cells slots : Nat) (Q : State → Prop) (ls : Array Slot) (ad : Nat → Nat) (sv : Value) (D : va_G) (ct : Nat → ClassId) (A : Nat → Prop) (SL : Nat) (xs : Nat → Int32),
  q_C p R s m args meth c M d D ct A → q_G D ct A ad sv SL xs s h N H → q_has ls (q_cL ad sv L) → L.length = q_ml M → va_S A s.heap H locs → cells + (N' - N) ≤ R.cells → slots + (S' - S) ≤ R.slots →
  (∀ (ad' : Nat → Nat) (pc' : Nat) (ls' : Array Slot) (H1 : Heap) (locs1 : List Loc), (∀ a : Nat, a < N ∨ N' ≤ a → ad' a = ad a) → q_G D ct A ad' sv SL xs s h' N' H1 → va_S A s.heap H1 locs1 → q_rok M pc' r → W p l e R s m args below meth c H1 locs1 (cells + (N' - N)) (slots + (S' - S)) Q (F0 m pc' ls' r.toList)) →
  W p l e R s m args below meth c H locs cells slots Q (F0 m pc ls (st.map (q_cv ad sv)))
def q_Qc (D : va_G) (ct : Nat → ClassId) (A : Nat → Prop) (ad : Nat → Nat) (sv : Value) (N : Nat) (r : Option Value) (h' : q_H) (N' : Nat) : Array Value → State → Outcome → State → Prop := fun _ st oc t =>
  (oc = .returned r ∧ ∃ ad' : Nat → Nat, (∀ a : Nat, a < N ∨ N' ≤ a → ad' a = ad a) ∧ va_P D vwCl (q_W ad' sv ct N' h') t.heap ∧ va_D A (q_W ad' sv ct N' h')) ∧ va_F A st t
def q_B (D : va_G) (ct : Nat → ClassId) (A : Nat → Prop) (ad : Nat → Nat) (sv : Value) (SL : Nat) (xs : Nat → Int32) (h : q_H) (N : Nat) (U : State) : Prop := q_G D ct A ad sv SL xs U h N U.heap ∧ va_K D vwCl (q_tys ct) U ∧ ∀ q : Nat, U.heap.size ≤ q → A q
def q_rm (d mc ms : Nat) : Room := { frames := d + 1, cells := mc, slots := ms, locals := 32 * (d + 1) }
theorem q_ent_sl {ad : Nat → Nat} {sv : Value} (hsv : sv.category = 1) (As : List Value) : lg_sl (As.map (q_cv ad sv)) = (q_cL ad sv (q_ent As)).map (fun o => match o with | some v => Slot.val v | none => Slot.second) := by
  induction As with
  | nil => rfl
  | cons v r ih =>
    have e : lg_sl ((v :: r).map (q_cv ad sv)) = (if (q_cv ad sv v).category = 2 then [.val (q_cv ad sv v), .second] else [.val (q_cv ad sv v)]) ++ lg_sl (r.map (q_cv ad sv)) := by
      simp [lg_sl]
    rw [e, ih, q_cv_cat hsv]
    show _ = (q_cL ad sv (if v.category = 2 then some v :: none :: q_ent r else some v :: q_ent r)).map _
    by_cases hc : v.category = 2
    · rw [if_pos hc, if_pos hc]; rfl
    · rw [if_neg hc, if_neg hc]; rfl
theorem q_loc_len {As : List Value} {n : Nat} (h : (q_ent As).length ≤ n) : (q_loc As n).length = n := by
  unfold q_loc
  rw [List.length_append, List.length_replicate]
  omega
theorem q_has_ent {ad : Nat → Nat} {sv : Value} (hsv : sv.category = 1) {As : List Value} {n : Nat} (h : (q_ent As).length ≤ n) : q_has ((lg_sl (As.map (q_cv ad sv)) ++ List.replicate (n - (lg_sl (As.map (q_cv ad sv))).length) Slot.unset).toArray) (q_cL ad sv (q_loc As n)) := by
  have hlen : (lg_sl (As.map (q_cv ad sv))).length = (q_ent As).length := by rw [q_ent_sl hsv]; simp [q_cL]
  have he := lv_entry (As.map (q_cv ad sv)) (n := n) (by omega)
  refine ⟨by rw [he.1]; unfold q_cL; rw [List.length_map, q_loc_len h], he.2.1, fun j v hj => ?_⟩
  obtain ⟨v0, h1, h2⟩ := q_cL_of hj
  unfold q_loc at h1
  by_cases hl : j < (q_ent As).length
  · rw [List.getElem?_append_left hl] at h1
    rw [List.getElem?_toArray, List.getElem?_append_left (by omega), q_ent_sl hsv, List.getElem?_map, q_cL_get h1, h2]
    rfl
  · rw [List.getElem?_append_right (by omega)] at h1
    have := List.eq_of_mem_replicate (List.mem_of_getElem? h1)
    cases this
theorem q_met {l : Launch} {n : Nat} (IH : q_Snd l n) {d M N S N' S' : Nat} {As : List Value} {h h' : q_H} {r : Option Value} (hr : q_run n d M 0 (q_loc As (q_ml M)) [] h N S = some (r, h', N', S')) (hA0 : (q_ent As).length ≤ q_ml M) (hM : M < 201)
    (D : va_G) (ct : Nat → ClassId) (A : Nat → Prop) (ad : Nat → Nat) (sv : Value) (SL : Nat) (xs : Nat → Int32) :
    Met l (q_y M) (Cond.code (q_y M) (q_code M) (q_ml M) (q_ret M) :: q_ws) (q_rm d (N' - N) (S' - S)) (va_Pc (As.map (q_cv ad sv)) (q_B D ct A ad sv SL xs h N)) (q_Qc D ct A ad sv N r h' N') (N' - N) (S' - S) A := by
  obtain ⟨hcls, -, -, hpl, -, -⟩ := q_tabM _ (q_meth_mem hM)
  refine va_MetF (cc := q_code M) (maxL := q_ml M) (ret := q_ret M) hpl rfl ?_
  intro p e s m args below meth c s₁ B hml hv
  obtain ⟨rfl, hG, hK, hA⟩ := hv
  have hlocks := B.notSynchronized
  have hown : s.vm.findClass (q_cn (q_own M)) = some m.cls := by
    have := findClass_of_methodNamed B.named
    rw [show (q_y M).cls = q_cn (q_own M) from hcls] at this
    exact this
  have C : q_C p (headSpec (Cond.code (q_y M) (q_code M) (q_ml M) (q_ret M) :: q_ws) (q_rm d (N' - N) (S' - S))).room s m (As.map (q_cv ad sv)).toArray meth c M d D ct A :=
    ⟨B.exec, B.bytes, hml, hown, fun w hw => atoms_spec (ws := Cond.code (q_y M) (q_code M) (q_ml M) (q_ret M) :: q_ws) B.pre w (List.mem_cons_of_mem _ hw), hK, (name_of_methodNamed B.named B.method).1, Nat.le_refl _, Nat.le_refl _, hA⟩
  rw [lg_entry_eq]
  refine IH d M 0 (q_loc As (q_ml M)) [] h N S r h' N' S' hr p e _ s m _ below meth c s.heap [] 0 0 _ _ ad sv D ct A SL xs C hG (q_has_ent hG.2.2.2.2.1 hA0) (q_loc_len hA0) va_S.rf (by rw [Nat.zero_add]; exact Nat.le_refl _) (by rw [Nat.zero_add]; exact Nat.le_refl _) ?_
  intro ad' pc' ls' H1 locs1 hag G1 hS1 hrok
  rw [Nat.zero_add, Nat.zero_add]
  have hq : ∀ t : State, t.heap = H1 → s.WarmedH t.vm → q_Qc D ct A ad sv N r h' N' (As.map (q_cv ad sv)).toArray s (.returned r) t := fun t ht _ => ⟨⟨rfl, ad', hag, by rw [ht]; exact G1.1, G1.2.1⟩, hS1.F ht⟩
  match r, hrok, hq with
  | none, hrok, hq => exact W.vret B.exec B.bytes (B.returns.trans hrok.2) hq hS1.2.2 hrok.1 hlocks
  | some (.int v), hrok, hq =>
    obtain ⟨h1, ty, h2, h3⟩ := hrok
    exact W.zret B.exec B.bytes (B.returns.trans h2) h3 hq hS1.2.2 h1 hlocks
  | some (.long v), hrok, hq => exact W.lret B.exec B.bytes (B.returns.trans hrok.2) hq hS1.2.2 hrok.1 hlocks
  | some (.float v), hrok, _ => exact absurd hrok id
  | some (.double v), hrok, _ => exact absurd hrok id
  | some .null, hrok, _ => exact absurd hrok id
  | some (.ref v), hrok, _ => exact absurd hrok id
  | some (.retAddr v), hrok, _ => exact absurd hrok id
section QH
variable {p : Program} {l : Launch} {e : Env} {R : Room} {s : State} {m : MethodId} {args : Array Value} {below : List Frame} {meth : Method} {c : Code} {H : Heap} {locs : List Loc} {cells slots : Nat} {Q : State → Prop}
variable {pc : Nat} {ls : Array Slot} {ad : Nat → Nat} {sv : Value} {M d : Nat} {D : va_G} {ct : Nat → ClassId} {A : Nat → Prop} {SL : Nat} {xs : Nat → Int32} {h : q_H} {N : Nat}
/-- behind a call -/
theorem q_after {r : Option Value} {h' : q_H} {N' mc ms : Nat} {rest st0 : List Value} {a : Array Value} (hr : va_Run p l e R s m args below meth c H locs cells slots mc ms (F0 m pc ls st0) rest (q_Qc D ct A ad sv N r h' N' a) A) (hS : va_S A s.heap H locs)
    (kk : ∀ (ad' : Nat → Nat) (H1 : Heap) (locs1 : List Loc), (∀ a : Nat, a < N ∨ N' ≤ a → ad' a = ad a) → va_P D vwCl (q_W ad' sv ct N' h') H1 → va_D A (q_W ad' sv ct N' h') → va_S A s.heap H1 locs1 → W p l e R s m args below meth c H1 locs1 (cells + mc) (slots + ms) Q (F0 m (pc + 3) ls (r.toList ++ rest))) : W p l e R s m args below meth c H locs cells slots Q (F0 m pc ls st0) := by
  intro T hT X
  obtain ⟨v, st₀, t, T', L, h0, X', hL, e1, e2, ⟨⟨hv, ad', hag, hP, hD⟩, hz, hk⟩, st⟩ := hr T hT X
  cases hv
  rw [h0] at hz hk
  obtain ⟨t2, a1, b1⟩ := kk ad' T'.heap (locs ++ L) hag (by rw [e1]; exact hP) hD
    ⟨Nat.le_trans hS.1 (by rw [e1]; exact hz), fun q h1 h2 => by rw [e1, hk q (Nat.lt_of_lt_of_le h1 hS.1) h2]; exact hS.2.1 q h1 h2, fun q hq => by
      rcases List.mem_append.mp hq with h | h
      · exact hS.2.2 q h
      · exact hL q h⟩ T' rfl X'
  exact ⟨t2, st t2 a1, b1⟩
/-- a callee's start, out of the caller's world -/
theorem q_pre (C : q_C p R s m args meth c M d D ct A) (G : q_G D ct A ad sv SL xs s h N H) (hS : va_S A s.heap H locs) {As : List Value} : FrameBlind (va_Pc (As.map (q_cv ad sv)) (q_B D ct A ad sv SL xs h N)) ∧ ∀ U : State, U.heap = H → s.WarmedH U.vm → va_Pc (As.map (q_cv ad sv)) (q_B D ct A ad sv SL xs h N) (As.map (q_cv ad sv)).toArray U := by
  obtain ⟨hx, hb, hml, hown, hts, hK, -, hfr, hlo, hA⟩ := C
  obtain ⟨hP, hD, hro, hX, hsv, hN⟩ := G
  refine ⟨?_, ?_⟩
  · intro a U g mk q
    obtain ⟨q0, ⟨g1, g2, g3, g4, g5, g6⟩, q2, q3⟩ := q
    exact ⟨q0, ⟨g1, g2, g3, q_X_same (s := U) (U := U.calling g mk a) rfl g4, g5, g6⟩, va_K.moved (u := U) (U := U.calling g mk a) (Vm.Alike.refl U.vm) q2, q3⟩
  · intro U hU hW
    refine ⟨rfl, ⟨by rw [hU]; exact hP, hD, hro, ?_, hsv, hN⟩, va_K.moved hW.alike hK, fun q h => hA q (Nat.le_trans hS.1 (by rw [← hU]; exact h))⟩
    rw [hU]
    exact q_X_kept (q_X_warm hW hX) hS.1 hS.2.1
end QH
