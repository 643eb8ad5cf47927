/-! THE ABSTRACT MACHINE IS SOUND, I: values, locals, instructions without the heap -/
/-- a value of the abstract machine at the real addresses; .retAddr stands for one static of the JDK's of which nothing is known -/
def q_cv (ad : Nat → Nat) (sv : Value) (v : Value) : Value := match v with
  | .ref k => .ref (ad k)
  | .retAddr _ => sv
  | .int x => .int x
  | .long x => .long x
  | .float x => .float x
  | .double x => .double x
  | .null => .null
theorem q_cv_cat {ad : Nat → Nat} {sv : Value} (hsv : sv.category = 1) (v : Value) : (q_cv ad sv v).category = v.category := by
  cases v <;> first | rfl | exact hsv
theorem q_cv_sum {ad : Nat → Nat} {sv : Value} (hsv : sv.category = 1) (st : List Value) : ((st.map (q_cv ad sv)).map fun v => v.category) = st.map fun v => v.category := by
  rw [List.map_map]
  exact List.map_congr_left fun v _ => q_cv_cat hsv v
theorem q_1e {o : Option (List Value)} {k : Nat} {st' : List Value} (h : q_1 o = some (k, st')) : k = 1 ∧ o = some st' := by
  cases o with
  | none => cases h
  | some s => cases h; exact ⟨rfl, rfl⟩
theorem q_i1e {f : Int32 → Int32} {st st' : List Value} (h : q_i1 f st = some st') : ∃ x r, st = .int x :: r ∧ st' = .int (f x) :: r := by
  unfold q_i1 at h
  split at h
  · cases h; exact ⟨_, _, rfl, rfl⟩
  · cases h
theorem q_i2e {f : Int32 → Int32 → Int32} {st st' : List Value} (h : q_i2 f st = some st') : ∃ x y r, st = .int y :: .int x :: r ∧ st' = .int (f x y) :: r := by
  unfold q_i2 at h
  split at h
  · cases h; exact ⟨_, _, _, rfl, rfl⟩
  · cases h
theorem q_i2ne {f : Int32 → Int32 → Int32} {st st' : List Value} (h : q_i2n f st = some st') : ∃ x y r, ¬ y = 0 ∧ st = .int y :: .int x :: r ∧ st' = .int (f x y) :: r := by
  unfold q_i2n at h
  split at h
  · split at h
    · cases h
    · rename_i hy
      cases h; exact ⟨_, _, _, hy, rfl, rfl⟩
  · cases h
theorem q_l2e {f : Int64 → Int64 → Int64} {st st' : List Value} (h : q_l2 f st = some st') : ∃ x y r, st = .long y :: .long x :: r ∧ st' = .long (f x y) :: r := by
  unfold q_l2 at h
  split at h
  · cases h; exact ⟨_, _, _, rfl, rfl⟩
  · cases h
theorem q_lse {f : Int64 → Int32 → Int64} {st st' : List Value} (h : q_ls f st = some st') : ∃ x y r, st = .int y :: .long x :: r ∧ st' = .long (f x y) :: r := by
  unfold q_ls at h
  split at h
  · cases h; exact ⟨_, _, _, rfl, rfl⟩
  · cases h
theorem q_ile {f : Int32 → Int64} {st st' : List Value} (h : q_il f st = some st') : ∃ x r, st = .int x :: r ∧ st' = .long (f x) :: r := by
  unfold q_il at h
  split at h
  · cases h; exact ⟨_, _, rfl, rfl⟩
  · cases h
theorem q_lie {f : Int64 → Int32} {st st' : List Value} (h : q_li f st = some st') : ∃ x r, st = .long x :: r ∧ st' = .int (f x) :: r := by
  unfold q_li at h
  split at h
  · cases h; exact ⟨_, _, rfl, rfl⟩
  · cases h
theorem q_lce {st st' : List Value} (h : q_lc st = some st') : ∃ x y r, st = .long y :: .long x :: r ∧ st' = .int (lg_cmp x y) :: r := by
  unfold q_lc at h
  split at h
  · cases h; exact ⟨_, _, _, rfl, rfl⟩
  · cases h
theorem q_dupe {st st' : List Value} (h : q_dup st = some st') : ∃ v r, v.category = 1 ∧ st = v :: r ∧ st' = v :: v :: r := by
  unfold q_dup at h
  split at h
  · split at h
    · rename_i hy
      cases h; exact ⟨_, _, hy, rfl, rfl⟩
    · cases h
  · cases h
theorem q_dup2e {st st' : List Value} (h : q_dup2 st = some st') : ∃ v w r, v.category = 1 ∧ w.category = 1 ∧ st = v :: w :: r ∧ st' = v :: w :: v :: w :: r := by
  unfold q_dup2 at h
  split at h
  · split at h
    · rename_i hy
      cases h; exact ⟨_, _, _, hy.1, hy.2, rfl, rfl⟩
    · cases h
  · cases h
theorem q_pope {st st' : List Value} (h : q_pop st = some st') : ∃ v, v.category = 1 ∧ st = v :: st' := by
  unfold q_pop at h
  split at h
  · split at h
    · rename_i hy
      cases h; exact ⟨_, hy, rfl⟩
    · cases h
  · cases h
section QA
variable {p : Program} {l : Launch} {e : Env} {R : Room} {s : State} {m : MethodId} {args : Array Value} {below : List Frame} {meth : Method} {c : Code} {H : Heap} {locs : List Loc} {cells slots : Nat} {Q : State → Prop}
variable {cc : ByteArray} {pc : Nat} {ls : Array Slot} {ad : Nat → Nat} {sv : Value}
set_option maxHeartbeats 4000000 in
theorem q_alu_snd (hx : p.tables.exec = Jvm.exec) (hb : c.code = cc) (hsv : sv.category = 1) {i : Instr} {k : Nat} {st st' : List Value} (h : q_alu i st = some (k, st')) (hd : decode cc pc = .ok (i, k))
    (kk : W p l e R s m args below meth c H locs cells slots Q (F0 m (pc + k) ls (st'.map (q_cv ad sv)))) : W p l e R s m args below meth c H locs cells slots Q (F0 m pc ls (st.map (q_cv ad sv))) := by
  unfold q_alu at h
  split at h
  · cases h; exact lv_iconst hx hb hd rfl kk
  · cases h; exact lv_bipush hx hb hd rfl kk
  · cases h; exact lv_sipush hx hb hd rfl kk
  · cases h; exact lv_lconst hx hb hd rfl kk
  · obtain ⟨rfl, h2⟩ := q_1e h; obtain ⟨x, y, r, rfl, rfl⟩ := q_i2e h2; exact lv_iadd hx hb hd kk
  · obtain ⟨rfl, h2⟩ := q_1e h; obtain ⟨x, y, r, rfl, rfl⟩ := q_i2e h2; exact lv_isub hx hb hd kk
  · obtain ⟨rfl, h2⟩ := q_1e h; obtain ⟨x, y, r, rfl, rfl⟩ := q_i2e h2; exact lv_imul hx hb hd kk
  · obtain ⟨rfl, h2⟩ := q_1e h; obtain ⟨x, y, r, rfl, rfl⟩ := q_i2e h2; exact lv_iand hx hb hd kk
  · obtain ⟨rfl, h2⟩ := q_1e h; obtain ⟨x, y, r, rfl, rfl⟩ := q_i2e h2; exact lv_ior hx hb hd kk
  · obtain ⟨rfl, h2⟩ := q_1e h; obtain ⟨x, y, r, rfl, rfl⟩ := q_i2e h2; exact lv_ixor hx hb hd kk
  · obtain ⟨rfl, h2⟩ := q_1e h; obtain ⟨x, y, r, hy, rfl, rfl⟩ := q_i2ne h2; exact lv_idiv hx hb hd hy kk
  · obtain ⟨rfl, h2⟩ := q_1e h; obtain ⟨x, y, r, hy, rfl, rfl⟩ := q_i2ne h2; exact lv_irem hx hb hd hy kk
  · obtain ⟨rfl, h2⟩ := q_1e h; obtain ⟨x, r, rfl, rfl⟩ := q_i1e h2; exact lv_ineg hx hb hd kk
  · obtain ⟨rfl, h2⟩ := q_1e h; obtain ⟨x, y, r, rfl, rfl⟩ := q_i2e h2; exact lv_ishl hx hb hd kk
  · obtain ⟨rfl, h2⟩ := q_1e h; obtain ⟨x, y, r, rfl, rfl⟩ := q_i2e h2; exact lv_ishr hx hb hd kk
  · obtain ⟨rfl, h2⟩ := q_1e h; obtain ⟨x, y, r, rfl, rfl⟩ := q_i2e h2; exact lv_iushr hx hb hd rfl kk
  · obtain ⟨rfl, h2⟩ := q_1e h; obtain ⟨x, y, r, rfl, rfl⟩ := q_l2e h2; exact lv_ladd hx hb hd kk
  · obtain ⟨rfl, h2⟩ := q_1e h; obtain ⟨x, y, r, rfl, rfl⟩ := q_l2e h2; exact lv_land hx hb hd kk
  · obtain ⟨rfl, h2⟩ := q_1e h; obtain ⟨x, y, r, rfl, rfl⟩ := q_l2e h2; exact lv_lor hx hb hd kk
  · obtain ⟨rfl, h2⟩ := q_1e h; obtain ⟨x, y, r, rfl, rfl⟩ := q_l2e h2; exact lv_lxor hx hb hd kk
  · obtain ⟨rfl, h2⟩ := q_1e h; obtain ⟨x, y, r, rfl, rfl⟩ := q_lse h2; exact lv_lshl hx hb hd rfl kk
  · obtain ⟨rfl, h2⟩ := q_1e h; obtain ⟨x, y, r, rfl, rfl⟩ := q_lse h2; exact lv_lshr hx hb hd rfl kk
  · obtain ⟨rfl, h2⟩ := q_1e h; obtain ⟨x, y, r, rfl, rfl⟩ := q_lse h2; exact lv_lushr hx hb hd rfl kk
  · obtain ⟨rfl, h2⟩ := q_1e h; obtain ⟨x, r, rfl, rfl⟩ := q_ile h2; exact lv_i2l hx hb hd rfl kk
  · obtain ⟨rfl, h2⟩ := q_1e h; obtain ⟨x, r, rfl, rfl⟩ := q_lie h2; exact lv_l2i hx hb hd rfl kk
  · obtain ⟨rfl, h2⟩ := q_1e h; obtain ⟨x, r, rfl, rfl⟩ := q_i1e h2; exact lv_i2b hx hb hd rfl kk
  · obtain ⟨rfl, h2⟩ := q_1e h; obtain ⟨x, r, rfl, rfl⟩ := q_i1e h2; exact lv_i2s hx hb hd rfl kk
  · obtain ⟨rfl, h2⟩ := q_1e h; obtain ⟨x, r, rfl, rfl⟩ := q_i1e h2; exact lv_i2c hx hb hd rfl kk
  · obtain ⟨rfl, h2⟩ := q_1e h; obtain ⟨x, y, r, rfl, rfl⟩ := q_lce h2; exact W.lcmp hx hb hd kk
  · obtain ⟨rfl, h2⟩ := q_1e h; obtain ⟨v, r, hv, rfl, rfl⟩ := q_dupe h2; exact lv_dup hx hb hd (by rw [q_cv_cat hsv]; exact hv) kk
  · obtain ⟨rfl, h2⟩ := q_1e h; obtain ⟨v, w, r, hv, hw, rfl, rfl⟩ := q_dup2e h2; exact lv_dup2_11 hx hb hd (by rw [q_cv_cat hsv]; exact hv) (by rw [q_cv_cat hsv]; exact hw) kk
  · obtain ⟨rfl, h2⟩ := q_1e h; obtain ⟨v, hv, rfl⟩ := q_pope h2; exact lv_pop hx hb hd (by rw [q_cv_cat hsv]; exact hv) kk
  · cases h
/-- the machine's locals hold the listed ones -/
def q_has (ls : Array Slot) (L : q_L) : Prop := ls.size = L.length ∧ lv_wf ls ∧ ∀ (j : Nat) (v : Value), L[j]? = some (some v) → ls[j]? = some (.val v)
def q_cL (ad : Nat → Nat) (sv : Value) (L : q_L) : q_L := L.map (fun o => o.map (q_cv ad sv))
theorem q_ld_some {L : q_L} {n : Nat} {v : Value} (h : q_ld L n = some v) : L[n]? = some (some v) := by
  unfold q_ld at h
  cases hL : L[n]? with
  | none => rw [hL] at h; cases h
  | some o => rw [hL] at h; exact congrArg some h
theorem q_cL_get {L : q_L} {n : Nat} {v : Value} (h : L[n]? = some (some v)) : (q_cL ad sv L)[n]? = some (some (q_cv ad sv v)) := by
  unfold q_cL
  rw [List.getElem?_map, h]
  rfl
theorem q_cL_of {L : q_L} {n : Nat} {w : Value} (h : (q_cL ad sv L)[n]? = some (some w)) : ∃ v, L[n]? = some (some v) ∧ w = q_cv ad sv v := by
  unfold q_cL at h
  rw [List.getElem?_map] at h
  cases hL : L[n]? with
  | none => rw [hL] at h; cases h
  | some o =>
    rw [hL] at h
    cases o with
    | none => cases h
    | some v => cases h; exact ⟨v, rfl, rfl⟩
/-- the list form of the kit -/
def q_lv (L : q_L) : List (Nat × Value) := (List.range L.length).filterMap (fun j => (q_ld L j).map (fun v => (j, v)))
theorem q_has_lv {L : q_L} (h : q_has ls L) : lv_has ls L.length (q_lv L) := by
  refine ⟨h.1, h.2.1, fun q hq => ?_⟩
  obtain ⟨j, -, hj⟩ := List.mem_filterMap.mp hq
  cases hl : q_ld L j with
  | none => rw [hl] at hj; cases hj
  | some v =>
    rw [hl] at hj
    cases hj
    exact h.2.2 j v (q_ld_some hl)
theorem q_lv_mem {L : q_L} {j : Nat} {v : Value} (h : L[j]? = some (some v)) : (j, v) ∈ q_lv L := by
  refine List.mem_filterMap.mpr ⟨j, List.mem_range.mpr ((List.getElem?_eq_some_iff.mp h).1), ?_⟩
  have e : q_ld L j = some v := by unfold q_ld; rw [h]; rfl
  rw [e]
  rfl
theorem q_clr_len (L : q_L) (n : Nat) : (q_clr L n).length = L.length := by
  cases n with
  | zero => rfl
  | succ k => exact List.length_set
theorem q_nl_some {o : Option Value} {v : Value} (h : q_nl o = some v) : o = some v ∧ ¬ v.category = 2 := by
  unfold q_nl at h
  split at h
  · split at h
    · cases h
    · rename_i hc; cases h; exact ⟨rfl, hc⟩
  · cases h
theorem q_clr_get {L : q_L} {n j : Nat} {v : Value} (h : (q_clr L n)[j]? = some (some v)) : L[j]? = some (some v) ∧ ¬ (j + 1 = n ∧ v.category = 2) := by
  cases n with
  | zero => exact ⟨h, fun q => by omega⟩
  | succ k =>
    have h : (L.set k (q_nl (q_ld L k)))[j]? = some (some v) := h
    by_cases hj : j = k
    · subst hj
      have hl : j < L.length := by
        have := (List.getElem?_eq_some_iff.mp h).1
        rw [List.length_set] at this
        exact this
      rw [List.getElem?_set_self hl] at h
      obtain ⟨h1, h2⟩ := q_nl_some (Option.some.inj h)
      exact ⟨q_ld_some h1, fun q => h2 q.2⟩
    · rw [List.getElem?_set_ne (fun q => hj q.symm)] at h
      exact ⟨h, fun q => hj (by omega)⟩
theorem q_nl_map (hsv : sv.category = 1) (o : Option Value) : q_nl (o.map (q_cv ad sv)) = (q_nl o).map (q_cv ad sv) := by
  cases o with
  | none => rfl
  | some v =>
    show (if (q_cv ad sv v).category = 2 then none else some (q_cv ad sv v)) = (if v.category = 2 then none else some v).map (q_cv ad sv)
    rw [q_cv_cat hsv]
    by_cases hc : v.category = 2
    · rw [if_pos hc, if_pos hc]; rfl
    · rw [if_neg hc, if_neg hc]; rfl
theorem q_clr_map (hsv : sv.category = 1) (L : q_L) (n : Nat) : q_clr (q_cL ad sv L) n = q_cL ad sv (q_clr L n) := by
  cases n with
  | zero => rfl
  | succ k =>
    have e : q_ld (q_cL ad sv L) k = (q_ld L k).map (q_cv ad sv) := by
      unfold q_ld q_cL
      rw [List.getElem?_map]
      cases L[k]? with
      | none => rfl
      | some o => rfl
    show (q_cL ad sv L).set k (q_nl (q_ld (q_cL ad sv L) k)) = q_cL ad sv (L.set k (q_nl (q_ld L k)))
    rw [e, q_nl_map hsv]
    unfold q_cL
    rw [List.map_set]
theorem q_set_map (hsv : sv.category = 1) (L : q_L) (n : Nat) (v : Value) : q_set (q_cL ad sv L) n (q_cv ad sv v) = q_cL ad sv (q_set L n v) := by
  unfold q_set
  rw [q_clr_map hsv]
  unfold q_cL
  rw [List.map_set]
  rfl
theorem q_setl_map (hsv : sv.category = 1) (L : q_L) (n : Nat) (v : Value) : q_setl (q_cL ad sv L) n (q_cv ad sv v) = q_cL ad sv (q_setl L n v) := by
  unfold q_setl
  rw [q_clr_map hsv]
  unfold q_cL
  rw [List.map_set, List.map_set]
  rfl
theorem q_set_len (L : q_L) (n : Nat) (v : Value) : (q_set L n v).length = L.length := by
  unfold q_set
  rw [List.length_set, q_clr_len]
theorem q_setl_len (L : q_L) (n : Nat) (v : Value) : (q_setl L n v).length = L.length := by
  unfold q_setl
  rw [List.length_set, List.length_set, q_clr_len]
/-- what the kit's store of one slot gives -/
theorem q_has_set {L : q_L} {n : Nat} {v : Value} {ls' : Array Slot} (h : lv_has ls' L.length ((n, v) :: (q_lv L).filter (fun q => !(q.1 == n) && !(q.1 + 1 == n && q.2.category == 2)))) : q_has ls' (q_set L n v) := by
  refine ⟨by rw [q_set_len]; exact h.1, h.2.1, fun j w hj => ?_⟩
  by_cases e : j = n
  · subst e
    unfold q_set at hj
    have hl : j < (q_clr L j).length := by
      have := (List.getElem?_eq_some_iff.mp hj).1
      rw [List.length_set] at this
      exact this
    rw [List.getElem?_set_self hl] at hj
    cases hj
    exact h.2.2 _ List.mem_cons_self
  · unfold q_set at hj
    rw [List.getElem?_set_ne (fun q => e q.symm)] at hj
    obtain ⟨h1, h2⟩ := q_clr_get hj
    refine h.2.2 (j, w) (List.mem_cons_of_mem _ (List.mem_filter.mpr ⟨q_lv_mem h1, ?_⟩))
    simp only [Bool.and_eq_true, Bool.not_eq_true', beq_eq_false_iff_ne, ne_eq, Bool.and_eq_false_iff]
    refine ⟨e, ?_⟩
    by_cases z : j + 1 = n
    · exact Or.inr (fun y => h2 ⟨z, y⟩)
    · exact Or.inl z
theorem q_has_setl {L : q_L} {n : Nat} {v : Value} {ls' : Array Slot} (h : lv_has ls' L.length ((n, v) :: (q_lv L).filter (fun q => !(q.1 == n) && (!(q.1 == n + 1) && !(q.1 + 1 == n && q.2.category == 2))))) : q_has ls' (q_setl L n v) := by
  refine ⟨by rw [q_setl_len]; exact h.1, h.2.1, fun j w hj => ?_⟩
  unfold q_setl at hj
  by_cases e1 : j = n + 1
  · subst e1
    have hl : n + 1 < ((q_clr L n).set n (some v)).length := by
      have := (List.getElem?_eq_some_iff.mp hj).1
      rw [List.length_set] at this
      exact this
    rw [List.getElem?_set_self hl] at hj
    cases hj
  · rw [List.getElem?_set_ne (fun q => e1 q.symm)] at hj
    by_cases e : j = n
    · subst e
      have hl : j < (q_clr L j).length := by
        have := (List.getElem?_eq_some_iff.mp hj).1
        rw [List.length_set] at this
        exact this
      rw [List.getElem?_set_self hl] at hj
      cases hj
      exact h.2.2 _ List.mem_cons_self
    · rw [List.getElem?_set_ne (fun q => e q.symm)] at hj
      obtain ⟨h1, h2⟩ := q_clr_get hj
      refine h.2.2 (j, w) (List.mem_cons_of_mem _ (List.mem_filter.mpr ⟨q_lv_mem h1, ?_⟩))
      simp only [Bool.and_eq_true, Bool.not_eq_true', beq_eq_false_iff_ne, ne_eq, Bool.and_eq_false_iff]
      refine ⟨e, e1, ?_⟩
      by_cases z : j + 1 = n
      · exact Or.inr (fun y => h2 ⟨z, y⟩)
      · exact Or.inl z
end QA
