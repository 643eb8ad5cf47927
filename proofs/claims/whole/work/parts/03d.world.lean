/-! THE ABSTRACT MACHINE IS SOUND, III: the world, fields -/
abbrev q_DT : Type := (Nat → Int32) ⊕ (Nat → Int64) ⊕ (Nat → UInt32) ⊕ (Nat → UInt64) ⊕ (Nat → Option Nat)
def q_cd (ad : Nat → Nat) (d : q_DT) : q_DT := match d with
  | .inl f => .inl f
  | .inr (.inl f) => .inr (.inl f)
  | .inr (.inr (.inl f)) => .inr (.inr (.inl f))
  | .inr (.inr (.inr (.inl f))) => .inr (.inr (.inr (.inl f)))
  | .inr (.inr (.inr (.inr f))) => .inr (.inr (.inr (.inr (fun i => (f i).map ad))))
def q_ce (ad : Nat → Nat) (sv : Value) (ct : Nat → ClassId) (e : q_E) : va_E := match e with
  | .inl (t, (n, d)) => .inl (ct t, (n, q_cd ad d))
  | .inr (ci, fs) => .inr (ci, fs.map (q_cv ad sv))
def q_W (ad : Nat → Nat) (sv : Value) (ct : Nat → ClassId) (N : Nat) (h : q_H) : va_W := (List.range N).map fun k => (ad k, q_ce ad sv ct (h k))
theorem q_W_get {ad : Nat → Nat} {sv : Value} {ct : Nat → ClassId} {N k : Nat} {h : q_H} (hk : k < N) : (q_W ad sv ct N h)[k]? = some (ad k, q_ce ad sv ct (h k)) := by
  unfold q_W
  rw [List.getElem?_map, List.getElem?_range hk]
  rfl
theorem q_W_set {ad : Nat → Nat} {sv : Value} {ct : Nat → ClassId} {N k : Nat} {h : q_H} {e : q_E} : (q_W ad sv ct N h).set k (ad k, q_ce ad sv ct e) = q_W ad sv ct N (q_up h k e) := by
  refine List.ext_getElem? fun j => ?_
  by_cases hj : j < N
  · rw [q_W_get hj]
    by_cases e1 : j = k
    · subst e1
      rw [List.getElem?_set_self (by unfold q_W; simpa using hj)]
      simp [q_up]
    · rw [List.getElem?_set_ne (fun q => e1 q.symm), q_W_get hj]
      simp [q_up, e1]
  · rw [List.getElem?_eq_none (by unfold q_W; simpa using hj), List.getElem?_eq_none (by unfold q_W; simpa using hj)]
def q_aty : Nat → FieldType
  | 0 => .int
  | 1 => .byte
  | 2 => .long
  | 3 => .boolean
  | 4 => .object "LadenEmpty$Standing"
  | 5 => .object "LadenEmpty$Land"
  | _ => .array .int
def q_tys (ct : Nat → ClassId) : List (ClassId × FieldType) := (List.range 7).map fun t => (ct t, q_aty t)
theorem q_tys_get {ct : Nat → ClassId} {t : Nat} (ht : t < 7) : (q_tys ct)[t]? = some (ct t, q_aty t) := by
  unfold q_tys
  rw [List.getElem?_map, List.getElem?_range ht]
  rfl
def q_sets (j : Nat) : Int64 := [-6148914691236517206, -3689348814741910324, -1085102592571150096, -71777214294589696, -281470681808896, -4294967296].getD j 0
def q_rob (i : Nat) : q_E := .inl (1, (q_slen.getD i 0, .inl (fun j => (q_sbyt.getD i []).getD j 0)))
/-- the cells that nobody writes: String constants, their bytes, the table of sets, the script -/
def q_ro (SL : Nat) (xs : Nat → Int32) (a : Nat) : q_E :=
  if a < 1008 then .inr (11, [.ref (a + 100), .int 0])
  else if 1100 ≤ a ∧ a < 1108 then q_rob (a - 1100)
  else if a = 1200 then .inl (2, (6, .inr (.inl q_sets)))
  else if a = 1300 then .inl (0, (SL, .inl xs))
  else .inr (99, [])
def q_nest : List (String × Nat × MethodName) := [(RX7, 18, yX6_init), (RX7, 25, yX2_init), (RX0, 17, yX5_init), (RX2, 29, yX5_init), (RX2, 58, yX7_isIn), (RX6, 17, yX2_init)]
def q_X (ad : Nat → Nat) (sv : Value) (SL : Nat) (xs : Nat → Int32) (A : Nat → Prop) (s : State) (H : Heap) : Prop :=
  vk_S 8 q_slen q_sbyt (fun i => ad (1000 + i)) (fun i => ad (1100 + i)) A s H ∧ (∀ (j : Nat) (x : Nat × String), q_strL[j]? = some x → vk_R RX6 x.1 x.2 (ad (1000 + j)) s)
  ∧ va_Z "LadenEmpty$Search" "SETS_WITH" "[J" (.ref (ad 1200)) A s H ∧ va_T .long (ad 1200) 6 (fun j => .long (q_sets j)) A s H
  ∧ va_Z "java/lang/String" "COMPACT_STRINGS" "Z" (.int 1) A s H ∧ va_Z "jdk/internal/util/Preconditions" "SIOOBE_FORMATTER" "Ljava/util/function/BiFunction;" sv A s H
  ∧ (va_X (ad 1300) SL xs s H ∧ ad 1300 < H.size ∧ ¬ A (ad 1300)) ∧ (∀ w ∈ q_nest, va_Nw (.methodLinkNest w.1 w.2.1 w.2.2 RX7) s)
  ∧ (va_AO "LadenEmpty$Standing" s ∧ va_AO "LadenEmpty$Land" s ∧ (Jvm.Cond.arrayOver (.array .int)).before #[] s = true)
/-- the machine at a method of ours -/
def q_C (p : Program) (R : Room) (s : State) (m : MethodId) (args : Array Value) (meth : Method) (c : Code) (M d : Nat) (D : va_G) (ct : Nat → ClassId) (A : Nat → Prop) : Prop :=
  p.tables.exec = Jvm.exec ∧ c.code = q_code M ∧ c.maxLocals = q_ml M ∧ s.vm.findClass (q_cn (q_own M)) = some m.cls ∧ (∀ w ∈ q_ws, w.before args s = true) ∧ va_K D vwCl (q_tys ct) s ∧ meth.name = (q_y M).name ∧ d + 1 ≤ R.frames ∧ 32 * (d + 1) ≤ R.locals ∧ (∀ q : Nat, s.heap.size ≤ q → A q)
/-- the world -/
def q_G (D : va_G) (ct : Nat → ClassId) (A : Nat → Prop) (ad : Nat → Nat) (sv : Value) (SL : Nat) (xs : Nat → Int32) (s : State) (h : q_H) (N : Nat) (H : Heap) : Prop :=
  va_P D vwCl (q_W ad sv ct N h) H ∧ va_D A (q_W ad sv ct N h) ∧ (∀ a : Nat, 1000 ≤ a → h a = q_ro SL xs a) ∧ q_X ad sv SL xs A s s.heap ∧ sv.category = 1 ∧ N ≤ 900
/-! words by the tables -/
theorem q_find {α : Type} {l : List (Nat × Nat × α)} {o i : Nat} {v : α} (h : (l.find? (fun e => e.1 == o && e.2.1 == i)).map (fun e => e.2.2) = some v) : (o, i, v) ∈ l := by
  cases hf : l.find? (fun e => e.1 == o && e.2.1 == i) with
  | none => rw [hf] at h; cases h
  | some e =>
    have h1 := List.mem_of_find?_eq_some hf
    have h2 := List.find?_some hf
    rw [hf] at h
    cases h
    simp only [Bool.and_eq_true, beq_iff_eq] at h2
    obtain ⟨a, b, c⟩ := e
    obtain ⟨rfl, rfl⟩ := h2
    exact h1
theorem q_ws_in {w : Cond} (i : Nat) {l : List Cond} (hl : q_wlist[i]? = some l) (hw : w ∈ l) : w ∈ q_ws := List.mem_append_right _ (List.mem_flatten.mpr ⟨l, List.mem_of_getElem? hl, hw⟩)
theorem q_ws_fld {o k ci j : Nat} (h : q_fld o k = some (ci, j)) : Cond.fieldLink (q_cn o) k (q_fnm ci j).1 (q_fnm ci j).2.1 (q_fnm ci j).2.2 ∈ q_ws :=
  q_ws_in 2 rfl (List.mem_map.mpr ⟨(o, k, ci, j), q_find h, rfl⟩)
theorem q_ws_con {o k : Nat} {v : Int32} (h : q_con o k = some v) : Cond.constant (q_cn o) k v ∈ q_ws :=
  q_ws_in 3 rfl (List.mem_map.mpr ⟨(o, k, v), q_find h, rfl⟩)
theorem q_ws_lco {o k : Nat} {v : Int64} (h : q_lco o k = some v) : Cond.constantLong (q_cn o) k v ∈ q_ws :=
  q_ws_in 4 rfl (List.mem_map.mpr ⟨(o, k, v), q_find h, rfl⟩)
theorem q_ws_new {o k ci : Nat} (h : q_new o k = some ci) : Cond.classLink (q_cn o) k (q_cn ci) ∈ q_ws :=
  q_ws_in 5 rfl (List.mem_map.mpr ⟨(o, k, ci), q_find h, rfl⟩)
theorem q_ws_inst {j : Nat} (h : j < 9) : Cond.instantiable (q_cn j) (q_fN j) ∈ q_ws :=
  q_ws_in 6 rfl (List.mem_map.mpr ⟨j, List.mem_range.mpr h, rfl⟩)
theorem q_ws_ini {j : Nat} (h : j < 14) : Cond.initialized (q_cn j) ∈ q_ws :=
  q_ws_in 1 rfl (List.mem_map.mpr ⟨j, List.mem_range.mpr h, rfl⟩)
theorem q_ws_u {ci : Nat} {r : vw_C} (h : vwCl[ci]? = some r) : ∀ w ∈ u_ws r.1 r.2.1 r.2.2, w ∈ q_ws := fun w hw =>
  q_ws_in 7 rfl (List.mem_flatMap.mpr ⟨r, List.mem_of_getElem? h, hw⟩)
theorem q_ws_fix {w : Cond} (i : Nat) (h : q_wfix[i]? = some w) : w ∈ q_ws := q_ws_in 8 rfl (List.mem_of_getElem? h)
theorem q_ws_inv {e : Nat × Nat × Nat × Nat} (h : e ∈ q_invL) {w : Cond} (hw : w ∈ q_winv e) : w ∈ q_ws := q_ws_in 0 rfl (List.mem_flatMap.mpr ⟨e, h, hw⟩)
theorem q_inv_mem {o k z M : Nat} (h : q_inv o k = some (z, M)) : (o, k, z, M) ∈ q_invL := q_find h
theorem q_cl_lt {ci : Nat} {r : vw_C} (h : vwCl[ci]? = some r) : ci < 9 := (List.getElem?_eq_some_iff.mp h).1
theorem q_fld_ok : ∀ e ∈ q_fldL, e.2.2.1 < 9 → e.2.2.2 < q_fN e.2.2.1 := by decide +kernel
theorem q_fld_lt {o k ci j : Nat} {r : vw_C} (h : q_fld o k = some (ci, j)) (hr : vwCl[ci]? = some r) : j < r.2.2 := by
  have h1 := q_fld_ok _ (q_find h) (q_cl_lt hr)
  unfold q_fN at h1
  rw [hr] at h1
  exact h1
theorem q_fnm_cl {ci j : Nat} {r : vw_C} (hr : vwCl[ci]? = some r) : q_fnm ci j = ((r.2.1 j).1, (r.2.1 j).2.1, (r.2.1 j).2.2.1) := by
  have := q_cl_lt hr
  unfold q_fnm
  rw [if_neg (by omega), hr]
  rfl
/-- class by class -/
theorem q_cl9 {P : Nat → vw_C → Prop} (h0 : P 0 (RX0, TX0, 3)) (h1 : P 1 (RX1, TX1, 3)) (h2 : P 2 (RX2, TX2, 10)) (h3 : P 3 (RX3, TX3, 3)) (h4 : P 4 (RX4, TX4, 6)) (h5 : P 5 (RX5, TX5, 7)) (h6 : P 6 (RX6, TX6, 9)) (h7 : P 7 (RX7, TX7, 8)) (h8 : P 8 (RX8, TX8, 25))
    {ci : Nat} {r : vw_C} (h : vwCl[ci]? = some r) : P ci r := by
  match ci, h with
  | 0, h => cases h; exact h0
  | 1, h => cases h; exact h1
  | 2, h => cases h; exact h2
  | 3, h => cases h; exact h3
  | 4, h => cases h; exact h4
  | 5, h => cases h; exact h5
  | 6, h => cases h; exact h6
  | 7, h => cases h; exact h7
  | 8, h => cases h; exact h8
  | n + 9, h => exact absurd (q_cl_lt h) (by omega)
theorem q_cl_ty {ci : Nat} {r : vw_C} (h : vwCl[ci]? = some r) : (∀ k, k < r.2.2 → parseFieldDescriptor (r.2.1 k).2.2.1 = some (q_fty ci k)) ∧ (∀ a, a < r.2.2 → ∀ b, b < r.2.2 → a ≠ b → (r.2.1 a).2.1 ≠ (r.2.1 b).2.1) ∧ r.1 = q_cn ci :=
  q_cl9 (P := fun ci r => (∀ k, k < r.2.2 → parseFieldDescriptor (r.2.1 k).2.2.1 = some (q_fty ci k)) ∧ (∀ a, a < r.2.2 → ∀ b, b < r.2.2 → a ≠ b → (r.2.1 a).2.1 ≠ (r.2.1 b).2.1) ∧ r.1 = q_cn ci)
    ⟨tyX0_ok, nmX0, rfl⟩ ⟨tyX1_ok, nmX1, rfl⟩ ⟨tyX2_ok, nmX2, rfl⟩ ⟨tyX3_ok, nmX3, rfl⟩ ⟨tyX4_ok, nmX4, rfl⟩ ⟨tyX5_ok, nmX5, rfl⟩ ⟨tyX6_ok, nmX6, rfl⟩ ⟨tyX7_ok, nmX7, rfl⟩ ⟨tyX8_ok, nmX8, rfl⟩ h
theorem q_fit_cv {ad : Nat → Nat} {sv : Value} {ty : FieldType} {v : Value} (h : q_fit ty v = true) (hr : ∀ k, v ≠ .retAddr k) : narrow ty (q_cv ad sv v) = q_cv ad sv v ∧ fits ty (q_cv ad sv v) = true := by
  unfold q_fit at h
  simp only [Bool.and_eq_true, decide_eq_true_eq] at h
  obtain ⟨h1, h2⟩ := h
  cases v with
  | ref k =>
    cases ty <;> first | exact ⟨rfl, rfl⟩ | cases h2
  | retAddr k => exact absurd rfl (hr k)
  | int x => exact ⟨h1, h2⟩
  | long x => exact ⟨h1, h2⟩
  | float x => exact ⟨h1, h2⟩
  | double x => exact ⟨h1, h2⟩
  | null => exact ⟨h1, h2⟩
theorem q_fit_noret {ty : FieldType} {v : Value} (h : q_fit ty v = true) : ∀ k, v ≠ .retAddr k := by
  intro k e
  subst e
  unfold q_fit at h
  simp only [Bool.and_eq_true, decide_eq_true_eq] at h
  cases ty <;> cases h.2
section QC
variable {p : Program} {l : Launch} {e : Env} {R : Room} {s : State} {m : MethodId} {args : Array Value} {below : List Frame} {meth : Method} {c : Code} {H : Heap} {locs : List Loc} {cells slots : Nat} {Q : State → Prop}
variable {pc : Nat} {ls : Array Slot} {ad : Nat → Nat} {sv : Value} {M d : Nat} {D : va_G} {ct : Nat → ClassId} {A : Nat → Prop} {SL : Nat} {xs : Nat → Int32} {h : q_H} {N : Nat}
theorem q_getf_snd (C : q_C p R s m args meth c M d D ct A) (G : q_G D ct A ad sv SL xs s h N H) (hS : va_S A s.heap H locs) {k : Nat} {st st' : List Value} (hh : q_getf (q_own M) k h N st = some st') (hd : decode (q_code M) pc = .ok (.getfield k, 3))
    (kk : W p l e R s m args below meth c H locs cells slots Q (F0 m (pc + 3) ls (st'.map (q_cv ad sv)))) : W p l e R s m args below meth c H locs cells slots Q (F0 m pc ls (st.map (q_cv ad sv))) := by
  obtain ⟨hx, hb, hml, hown, hts, hK, -, -, -, -⟩ := C
  obtain ⟨hP, hD, hro, hX, hsv, hN⟩ := G
  unfold q_getf at hh
  split at hh
  · rename_i a0 r
    obtain ⟨a, ea0⟩ : ∃ a : Nat, a = a0 := ⟨a0, rfl⟩
    subst ea0
    split at hh
    · rename_i ha
      have ha : a < N ∨ 1000 ≤ a := ha
      split at hh
      · rename_i ci j cj fs hf he
        split at hh
        · rename_i hc
          subst hc
          cases hv : fs[j]? with
          | none => rw [hv] at hh; cases hh
          | some v =>
            rw [hv] at hh
            cases hh
            by_cases haN : a < N
            · have hw := q_W_get (ad := ad) (sv := sv) (ct := ct) (h := h) haN
              rw [he] at hw
              obtain ⟨rr, hr, -⟩ := hP a _ hw
              have hlk := hts _ (q_ws_fld hf)
              rw [q_fnm_cl hr] at hlk
              exact va_get hx hb hts (q_ws_u hr) hown hK hP a hw hr j (q_fld_lt hf hr) hlk (fun _ z => z) (by rw [List.getElem?_map, hv]; rfl) hd kk
            · have ha2 : 1000 ≤ a := by omega
              rw [hro a ha2] at he
              unfold q_ro at he
              split at he
              · rename_i h8
                cases he
                have hi : a - 1000 < 8 := by omega
                obtain ⟨-, hco, hva, -⟩ := hX.1.1 (a - 1000) hi
                have hlk := hts _ (q_ws_fld hf)
                have ea : 1000 + (a - 1000) = a := by omega
                have ea2 : 1100 + (a - 1000) = a + 100 := by omega
                simp only [ea, ea2] at hco hva
                match j, hv with
                | 0, hv =>
                  cases hv
                  exact vk_getf hx hb hva hS hown hlk (fun _ z => z) hd kk
                | 1, hv =>
                  cases hv
                  exact vk_getf hx hb hco hS hown hlk (fun _ z => z) hd kk
                | n + 2, hv => cases hv
              · split at he
                · cases he
                · split at he
                  · cases he
                  · split at he
                    · cases he
                    · cases he
                      cases hv
        · cases hh
      · cases hh
    · cases hh
  · cases hh
theorem q_putf_snd (C : q_C p R s m args meth c M d D ct A) (G : q_G D ct A ad sv SL xs s h N H) (hS : va_S A s.heap H locs) {k : Nat} {st st' : List Value} {h' : q_H} (hh : q_putf (q_own M) k ((q_y M).name == "<init>") h N st = some (st', h')) (hd : decode (q_code M) pc = .ok (.putfield k, 3))
    (kk : ∀ (H1 : Heap) (locs1 : List Loc), q_G D ct A ad sv SL xs s h' N H1 → va_S A s.heap H1 locs1 → W p l e R s m args below meth c H1 locs1 cells slots Q (F0 m (pc + 3) ls (st'.map (q_cv ad sv)))) : W p l e R s m args below meth c H locs cells slots Q (F0 m pc ls (st.map (q_cv ad sv))) := by
  obtain ⟨hx, hb, hml, hown, hts, hK, hnm, -, -, -⟩ := C
  obtain ⟨hP, hD, hro, hX, hsv, hN⟩ := G
  unfold q_putf at hh
  split at hh
  · rename_i v a0 r
    obtain ⟨a, ea0⟩ : ∃ a : Nat, a = a0 := ⟨a0, rfl⟩
    subst ea0
    split at hh
    · rename_i haN
      have haN : a < N := haN
      split at hh
      · rename_i ci j cj fs hf he
        split at hh
        · rename_i hc
          obtain ⟨rfl, hl, hfin, hfit⟩ := hc
          cases hh
          have hw := q_W_get (ad := ad) (sv := sv) (ct := ct) (h := h) haN
          rw [he] at hw
          obtain ⟨rr, hr, -⟩ := hP a _ hw
          have hlk := hts _ (q_ws_fld hf)
          rw [q_fnm_cl hr] at hlk
          obtain ⟨hty, hnames, hcn⟩ := q_cl_ty hr
          have hj := q_fld_lt hf hr
          obtain ⟨hn1, hn2⟩ := q_fit_cv (ad := ad) (sv := sv) hfit (q_fit_noret hfit)
          have fin : (rr.2.1 j).2.2.2 = q_ffin ci j := by unfold q_ffin; rw [hr]; rfl
          have e2 : (q_W ad sv ct N h).set a (ad a, .inr (ci, (List.map (q_cv ad sv) fs).set j (q_cv ad sv v))) = q_W ad sv ct N (q_up h a (.inr (ci, fs.set j v))) := by
            rw [← List.map_set]
            exact q_W_set (e := .inr (ci, fs.set j v))
          have kk2 : ∀ (H1 : Heap) (locs1 : List Loc), va_P D vwCl ((q_W ad sv ct N h).set a (ad a, .inr (ci, (List.map (q_cv ad sv) fs).set j (q_cv ad sv v)))) H1 → va_D A ((q_W ad sv ct N h).set a (ad a, .inr (ci, (List.map (q_cv ad sv) fs).set j (q_cv ad sv v)))) → va_S A s.heap H1 locs1 → W p l e R s m args below meth c H1 locs1 cells slots Q (F0 m (pc + 3) ls (st'.map (q_cv ad sv))) := by
            intro H1 locs1 hP1 hD1 hS1
            rw [e2] at hP1 hD1
            refine kk H1 locs1 ⟨hP1, hD1, fun x hx2 => ?_, hX, hsv, hN⟩ hS1
            have : x ≠ a := by omega
            simp only [q_up, if_neg this]
            exact hro x hx2
          rcases hfin with hfin | ⟨hini, hoc⟩
          · exact va_put hx hb hts (q_ws_u hr) (q_fty ci) hty hnames hown hK hP hD hS a hw hr j hj hlk (fun _ z => z) (by rw [fin]; exact hfin) (hty j hj) hn1 hn2 (by rw [List.length_map]; exact hl) hd kk2
          · by_cases hf2 : q_ffin ci j = true
            · have hdecl : (rr.2.1 j).1 = q_cn (q_own M) := by
                rw [hoc, ← hcn]
                exact q_cl9 (P := fun ci r => ∀ k, k < r.2.2 → (r.2.1 k).1 = r.1) (by decide +kernel) (by decide +kernel) (by decide +kernel) (by decide +kernel) (by decide +kernel) (by decide +kernel) (by decide +kernel) (by decide +kernel) (by decide +kernel) hr j hj
              exact va_putF hx hb hts (q_ws_u hr) (q_fty ci) hty hnames hown hK hP hD hS a hw hr j hj hlk (fun _ z => z) (by rw [fin]; exact hf2) (by rw [hnm]; exact eq_of_beq hini) hdecl (hty j hj) hn1 hn2 (by rw [List.length_map]; exact hl) hd kk2
            · exact va_put hx hb hts (q_ws_u hr) (q_fty ci) hty hnames hown hK hP hD hS a hw hr j hj hlk (fun _ z => z) (by rw [fin]; simpa using hf2) (hty j hj) hn1 hn2 (by rw [List.length_map]; exact hl) hd kk2
        · cases hh
      · cases hh
    · cases hh
  · cases hh
end QC
