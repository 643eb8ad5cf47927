/-! THE ABSTRACT MACHINE IS SOUND, VIII: what a run keeps; the world at another state -/
def q_keep (N S N' S' : Nat) (h h' : q_H) : Prop := N ≤ N' ∧ S ≤ S' ∧ N' ≤ 900 ∧ ∀ a : Nat, 1000 ≤ a → h' a = h a
theorem q_keep_rf {N S : Nat} {h : q_H} (hN : N ≤ 900) : q_keep N S N S h h := ⟨Nat.le_refl _, Nat.le_refl _, hN, fun _ _ => rfl⟩
theorem q_keep_tr {N S N1 S1 N2 S2 : Nat} {h h1 h2 : q_H} (a : q_keep N S N1 S1 h h1) (b : q_keep N1 S1 N2 S2 h1 h2) : q_keep N S N2 S2 h h2 :=
  ⟨Nat.le_trans a.1 b.1, Nat.le_trans a.2.1 b.2.1, b.2.2.1, fun x hx => (b.2.2.2 x hx).trans (a.2.2.2 x hx)⟩
theorem q_up_keep {h : q_H} {a N : Nat} {e : q_E} (ha : a < N) (hN : N ≤ 900) : ∀ x : Nat, 1000 ≤ x → q_up h a e x = h x := fun x hx => by
  unfold q_up
  rw [if_neg (by omega)]
theorem q_putf_keep {o k N : Nat} {ini : Bool} {h h' : q_H} {st st' : List Value} (hN : N ≤ 900) (hh : q_putf o k ini h N st = some (st', h')) : ∀ x : Nat, 1000 ≤ x → h' x = h x := by
  unfold q_putf at hh
  split at hh
  · split at hh
    · rename_i ha
      split at hh
      · split at hh
        · cases hh; exact q_up_keep ha hN
        · cases hh
      · cases hh
    · cases hh
  · cases hh
theorem q_iast_keep {N : Nat} {h h' : q_H} {st st' : List Value} (hN : N ≤ 900) (hh : q_iast h N st = some (st', h')) : ∀ x : Nat, 1000 ≤ x → h' x = h x := by
  unfold q_iast at hh
  split at hh
  · split at hh
    · rename_i ha
      split at hh
      · split at hh
        · cases hh
        · cases hh; exact q_up_keep ha hN
      · cases hh
    · cases hh
  · cases hh
theorem q_bast_keep {N : Nat} {h h' : q_H} {st st' : List Value} (hN : N ≤ 900) (hh : q_bast h N st = some (st', h')) : ∀ x : Nat, 1000 ≤ x → h' x = h x := by
  unfold q_bast at hh
  split at hh
  · split at hh
    · rename_i ha
      split at hh
      · split at hh
        · cases hh
        · cases hh; exact q_up_keep ha hN
      · split at hh
        · cases hh
        · cases hh; exact q_up_keep ha hN
      · cases hh
    · cases hh
  · cases hh
theorem q_last_keep {N : Nat} {h h' : q_H} {st st' : List Value} (hN : N ≤ 900) (hh : q_last h N st = some (st', h')) : ∀ x : Nat, 1000 ≤ x → h' x = h x := by
  unfold q_last at hh
  split at hh
  · split at hh
    · rename_i ha
      split at hh
      · split at hh
        · cases hh
        · cases hh; exact q_up_keep ha hN
      · cases hh
    · cases hh
  · cases hh
theorem q_copy_keep {N : Nat} {h h' : q_H} {st st' : List Value} (hN : N ≤ 900) (hh : q_copy h N st = some (st', h')) : ∀ x : Nat, 1000 ≤ x → h' x = h x := by
  unfold q_copy at hh
  split at hh
  · split at hh
    · rename_i ha
      split at hh
      · split at hh
        · cases hh; exact q_up_keep ha.1 hN
        · cases hh
      · cases hh
    · cases hh
  · cases hh
theorem q_aast_keep {N : Nat} {h h' : q_H} {st st' : List Value} (hN : N ≤ 900) (hh : q_aast h N st = some (st', h')) : ∀ x : Nat, 1000 ≤ x → h' x = h x := by
  unfold q_aast at hh
  split at hh
  · split at hh
    · rename_i ha
      split at hh
      · split at hh
        · cases hh
        · cases hh; exact q_up_keep ha.1 hN
      · cases hh
    · cases hh
  · cases hh
theorem q_hop_keep {o k N : Nat} {ini : Bool} {i : Instr} {h h' : q_H} {st st' : List Value} (hN : N ≤ 900) (hh : q_hop o ini i st h N = some (k, st', h')) : ∀ x : Nat, 1000 ≤ x → h' x = h x := by
  unfold q_hop at hh
  split at hh
  · obtain ⟨a, h1, h2⟩ := q_mapS hh; cases h2; exact fun _ _ => rfl
  · obtain ⟨a, h1, h2⟩ := q_mapS hh; cases h2; exact q_putf_keep hN h1
  · obtain ⟨a, h1, h2⟩ := q_mapS hh; cases h2; exact fun _ _ => rfl
  · obtain ⟨a, h1, h2⟩ := q_mapS hh; cases h2; exact fun _ _ => rfl
  · obtain ⟨a, h1, h2⟩ := q_mapS hh; cases h2; exact fun _ _ => rfl
  · obtain ⟨a, h1, h2⟩ := q_mapS hh; cases h2; exact fun _ _ => rfl
  · obtain ⟨a, h1, h2⟩ := q_mapS hh; cases h2; exact fun _ _ => rfl
  · obtain ⟨a, h1, h2⟩ := q_mapS hh; cases h2; exact q_iast_keep hN h1
  · obtain ⟨a, h1, h2⟩ := q_mapS hh; cases h2; exact q_bast_keep hN h1
  · obtain ⟨a, h1, h2⟩ := q_mapS hh; cases h2; exact q_last_keep hN h1
  · obtain ⟨a, h1, h2⟩ := q_mapS hh; cases h2; exact q_aast_keep hN h1
  · split at hh
    · obtain ⟨a, h1, h2⟩ := q_mapS hh; cases h2; exact q_copy_keep hN h1
    · cases hh
  · split at hh
    · split at hh
      · split at hh
        · cases hh; exact fun _ _ => rfl
        · cases hh
      · cases hh
    · cases hh
  · cases hh
theorem q_alo_keep {o k N S N' S' : Nat} {i : Instr} {h h' : q_H} {st st' : List Value} (hh : q_alo o i st h N S = some (k, st', h', N', S')) (hN : N' < 900) : q_keep N S N' S' h h' := by
  unfold q_alo at hh
  split at hh
  · obtain ⟨a, h1, h2⟩ := q_mapS hh; cases h2; exact ⟨by omega, by omega, by omega, q_up_keep (N := N + 1) (by omega) (by omega)⟩
  · split at hh
    · split at hh
      · cases hh
      · obtain ⟨a, h1, h2⟩ := q_mapS hh; cases h2; exact ⟨by omega, by omega, by omega, q_up_keep (N := N + 1) (by omega) (by omega)⟩
    · cases hh
  · split at hh
    · split at hh
      · cases hh
      · obtain ⟨a, h1, h2⟩ := q_mapS hh; cases h2; exact ⟨by omega, by omega, by omega, q_up_keep (N := N + 1) (by omega) (by omega)⟩
    · cases hh
  · split at hh
    · split at hh
      · cases hh
        refine ⟨by omega, by omega, by omega, fun x hx => ?_⟩
        show (if x = N then _ else if N < x ∧ x < N + 9 then _ else h x) = h x
        rw [if_neg (by omega), if_neg (by omega)]
      · cases hh
    · cases hh
  · cases hh
theorem q_ins_keep {o len pc pc' N S N' S' : Nat} {ini : Bool} {i : Instr} {L L' : q_L} {h h' : q_H} {st st' : List Value} (hN : N ≤ 900) (hi : q_ins o ini i len pc L st h N S = some (pc', L', st', h', N', S')) : q_keep N S N' S' h h' := by
  unfold q_ins at hi
  split at hi
  · split at hi
    · cases hi; exact q_keep_rf hN
    · cases hi
  · split at hi
    · split at hi
      · cases hi; exact q_keep_rf hN
      · cases hi
    · split at hi
      · split at hi
        · cases hi; exact q_keep_rf hN
        · cases hi
      · split at hi
        · cases hi; exact q_keep_rf hN
        · split at hi
          · rename_i k st2 h2 h1
            split at hi
            · cases hi
              exact ⟨Nat.le_refl _, Nat.le_refl _, hN, q_hop_keep hN h1⟩
            · cases hi
          · split at hi
            · rename_i k st2 h2 N2 S2 h1
              split at hi
              · rename_i hk
                cases hi
                exact q_alo_keep h1 hk.2.1
              · cases hi
            · cases hi
theorem q_end_keep {M N S N' S' : Nat} {i : Instr} {h h' : q_H} {st : List Value} {r : Option Value} (hh : q_end M i st h N S = some (r, h', N', S')) : h' = h ∧ N' = N ∧ S' = S := by
  unfold q_end at hh
  split at hh
  · split at hh
    · split at hh
      · cases hh; exact ⟨rfl, rfl, rfl⟩
      · cases hh
    · cases hh
  · split at hh
    · split at hh
      · cases hh; exact ⟨rfl, rfl, rfl⟩
      · cases hh
    · cases hh
  · split at hh
    · split at hh
      · cases hh; exact ⟨rfl, rfl, rfl⟩
      · cases hh
    · cases hh
  · cases hh
theorem q_run_keep : ∀ (n d M pc : Nat) (L : q_L) (st : List Value) (h : q_H) (N S : Nat) (r : Option Value) (h' : q_H) (N' S' : Nat), N ≤ 900 → q_run n d M pc L st h N S = some (r, h', N', S') → q_keep N S N' S' h h'
  | 0, d, M, pc, L, st, h, N, S, r, h', N', S', hN, hr => by rw [q_run] at hr; cases hr
  | n + 1, d, M, pc, L, st, h, N, S, r, h', N', S', hN, hr => by
    rw [q_run] at hr
    split at hr
    · cases hr
    · rename_i i len hdec
      split at hr
      · rename_i rr he
        split at hr
        · cases hr
          obtain ⟨rfl, rfl, rfl⟩ := q_end_keep he
          exact q_keep_rf hN
        · cases hr
      · split at hr
        · rename_i k M' hcal
          split at hr
          · cases hr
          · rename_i d'
            split at hr
            · split at hr
              · rename_i r1 h1 N1 S1 hrun
                split at hr
                · have a := q_run_keep n _ _ _ _ _ _ _ _ _ _ _ _ hN hrun
                  exact q_keep_tr a (q_run_keep n _ _ _ _ _ _ _ _ _ _ _ _ a.2.2.1 hr)
                · cases hr
              · cases hr
            · cases hr
        · split at hr
          · rename_i pc1 L1 st1 h1 N1 S1 hins
            have a := q_ins_keep hN hins
            exact q_keep_tr a (q_run_keep n _ _ _ _ _ _ _ _ _ _ _ _ a.2.2.1 hr)
          · cases hr
theorem q_AO_moved {u U : State} (hvm : u.vm.Alike U.vm) (h : (Jvm.Cond.arrayOver (.array .int)).before #[] u = true) : (Jvm.Cond.arrayOver (.array .int)).before #[] U = true := by
  unfold Cond.before at h
  simp only [Cond.holds, Cond.value, beq_iff_eq] at h
  cases hc : u.vm.findClass (FieldType.array .int).toString with
  | none => simp [hc] at h
  | some comp =>
    simp only [hc, Option.bind_some, Option.bind_eq_some_iff, Option.map_eq_some_iff] at h
    obtain ⟨c, h2, k, h3, hb⟩ := h
    obtain ⟨k', hk', he⟩ := hvm.2.2 _ _ h3
    have hi : (U.vm.classes.findIdx? fun (x : Class) => match x.kind with | .array component _ => component == comp | _ => false) = some c := by
      have e0 : U.vm.bare = u.vm.bare := by first | exact hvm.bare_eq | exact hvm.bare_eq.symm
      have e1 := va_idx_bare U.vm comp
      rw [e0] at e1
      exact e1.symm.trans ((va_idx_bare u.vm comp).trans h2)
    have hkind : k'.kind = k.kind := by rw [he]
    have f1 : U.vm.findClass (FieldType.array .int).toString = some comp := by rw [hvm.findClass]; exact hc
    have f2 : ∀ x, U.vm.findClass x = u.vm.findClass x := fun x => by rw [hvm.findClass]
    unfold Cond.before Cond.holds
    simp only [Cond.value, beq_iff_eq]
    rw [f1, Option.bind_some]
    refine (congrArg (fun o : Option Nat => (o.bind (fun c => (U.vm.classes[c]?).map fun (k : Class) => match k.kind with | .array _ ty => decide (ty = FieldType.array .int) && decide (U.vm.findClass ("[" ++ (FieldType.array .int).toString) = some c) | _ => false))) hi).trans ?_
    simp only [Option.bind_some, hk', Option.map_some, hkind, f2]
    exact congrArg some hb
theorem q_X_kept {ad : Nat → Nat} {sv : Value} {SL : Nat} {xs : Nat → Int32} {A : Nat → Prop} {s : State} {H H1 : Heap} (h : q_X ad sv SL xs A s H) (hz : H.size ≤ H1.size) (hq : ∀ a : Nat, a < H.size → ¬ A a → H1[a]? = H[a]?) : q_X ad sv SL xs A s H1 := by
  obtain ⟨h1, h2, h3, h4, h5, h6, ⟨h7, h8, h9⟩, h10⟩ := h
  exact ⟨h1.kept hq, h2, h3.kept hq, h4.kept hq, h5.kept hq, h6.kept hq, ⟨h7.kept (hq _ h8 h9), Nat.lt_of_lt_of_le h8 hz, h9⟩, h10⟩
theorem q_X_warm {ad : Nat → Nat} {sv : Value} {SL : Nat} {xs : Nat → Int32} {A : Nat → Prop} {s U : State} {H : Heap} (hW : s.WarmedH U.vm) (h : q_X ad sv SL xs A s H) : q_X ad sv SL xs A U H := by
  obtain ⟨h1, h2, h3, h4, h5, h6, ⟨h7, h8, h9⟩, h10, h11, h12, h13⟩ := h
  exact ⟨h1.moved hW.alike, fun j x hx => (h2 j x hx).warm hW, h3.moved hW.alike, h4.moved hW.alike, h5.moved hW.alike, h6.moved hW.alike, ⟨h7.moved hW.alike, h8, h9⟩, fun w hw => va_Nw.warmM hW (h10 w hw), h11.moved hW.alike, h12.moved hW.alike, q_AO_moved hW.alike h13⟩
theorem q_X_same {ad : Nat → Nat} {sv : Value} {SL : Nat} {xs : Nat → Int32} {A : Nat → Prop} {s U : State} {H : Heap} (hv : U.vm = s.vm) (h : q_X ad sv SL xs A s H) : q_X ad sv SL xs A U H := by
  obtain ⟨h1, h2, h3, h4, h5, h6, ⟨h7, h8, h9⟩, h10, h11, h12, h13⟩ := h
  have ha : s.vm.Alike U.vm := by rw [hv]; exact Vm.Alike.refl _
  exact ⟨h1.moved ha, fun j x hx => (h2 j x hx).same hv, h3.moved ha, h4.moved ha, h5.moved ha, h6.moved ha, ⟨h7.moved ha, h8, h9⟩, fun w hw => va_Nw.same rfl hv.symm (h10 w hw), h11.moved ha, h12.moved ha, q_AO_moved ha h13⟩
