/-! THE ABSTRACT MACHINE IS SOUND, V: stores, copies, constants -/
theorem q_str_ok : ∀ e ∈ q_strJ, e.1 = 6 ∧ (q_strL[e.2.2]?).map (fun x => x.1) = some e.2.1 := by decide +kernel
theorem q_nfw : nativeFrameWords "java/lang/System" "arraycopy" 5 = 7 := by decide +kernel
section QE
variable {p : Program} {l : Launch} {e : Env} {R : Room} {s : State} {m : MethodId} {args : Array Value} {below : List Frame} {meth : Method} {c : Code} {H : Heap} {locs : List Loc} {cells slots : Nat} {Q : State → Prop}
variable {pc : Nat} {ls : Array Slot} {ad : Nat → Nat} {sv : Value} {M d : Nat} {D : va_G} {ct : Nat → ClassId} {A : Nat → Prop} {SL : Nat} {xs : Nat → Int32} {h : q_H} {N : Nat}
theorem q_iast_snd (C : q_C p R s m args meth c M d D ct A) (G : q_G D ct A ad sv SL xs s h N H) (hS : va_S A s.heap H locs) {st st' : List Value} {h' : q_H} (hh : q_iast h N st = some (st', h')) (hd : decode (q_code M) pc = .ok (.iastore, 1))
    (kk : ∀ (H1 : Heap) (locs1 : List Loc), q_G D ct A ad sv SL xs s h' N H1 → va_S A s.heap H1 locs1 → W p l e R s m args below meth c H1 locs1 cells slots Q (F0 m (pc + 1) ls (st'.map (q_cv ad sv)))) : W p l e R s m args below meth c H locs cells slots Q (F0 m pc ls (st.map (q_cv ad sv))) := by
  obtain ⟨hx, hb, hml, hown, hts, hK, -, -, -, -⟩ := C
  have hP := G.1
  have hD := G.2.1
  unfold q_iast at hh
  split at hh
  · rename_i x i a0 r
    obtain ⟨a, ea0⟩ : ∃ a : Nat, a = a0 := ⟨a0, rfl⟩
    subst ea0
    split at hh
    · rename_i haN
      have haN : a < N := haN
      split at hh
      · rename_i n f he
        split at hh
        · cases hh
        · rename_i hin
          cases hh
          have hw := q_W_get (ad := ad) (sv := sv) (ct := ct) (h := h) haN
          rw [he] at hw
          exact va_iast hx hb hK hP hD hS a 0 hw (q_tys_get (by omega)) hin hd (fun H1 locs1 hP1 hD1 hS1 => kk H1 locs1 (G.up (e2 := .inl (0, (n, .inl (upd f i.toNatClampNeg x)))) haN hP1 hD1) hS1)
      · cases hh
    · cases hh
  · cases hh
theorem q_bast_snd (C : q_C p R s m args meth c M d D ct A) (G : q_G D ct A ad sv SL xs s h N H) (hS : va_S A s.heap H locs) {st st' : List Value} {h' : q_H} (hh : q_bast h N st = some (st', h')) (hd : decode (q_code M) pc = .ok (.bastore, 1))
    (kk : ∀ (H1 : Heap) (locs1 : List Loc), q_G D ct A ad sv SL xs s h' N H1 → va_S A s.heap H1 locs1 → W p l e R s m args below meth c H1 locs1 cells slots Q (F0 m (pc + 1) ls (st'.map (q_cv ad sv)))) : W p l e R s m args below meth c H locs cells slots Q (F0 m pc ls (st.map (q_cv ad sv))) := by
  obtain ⟨hx, hb, hml, hown, hts, hK, -, -, -, -⟩ := C
  have hP := G.1
  have hD := G.2.1
  unfold q_bast at hh
  split at hh
  · rename_i x i a0 r
    obtain ⟨a, ea0⟩ : ∃ a : Nat, a = a0 := ⟨a0, rfl⟩
    subst ea0
    split at hh
    · rename_i haN
      have haN : a < N := haN
      split at hh
      · rename_i n f he
        split at hh
        · cases hh
        · rename_i hin
          cases hh
          have hw := q_W_get (ad := ad) (sv := sv) (ct := ct) (h := h) haN
          rw [he] at hw
          exact va_bast hx hb hK hP hD hS a 1 hw (q_tys_get (by omega)) hin hd (fun H1 locs1 hP1 hD1 hS1 => kk H1 locs1 (G.up (e2 := .inl (1, (n, .inl (upd f i.toNatClampNeg (vp_nar .byte x))))) haN hP1 hD1) hS1)
      · rename_i n f he
        split at hh
        · cases hh
        · rename_i hin
          cases hh
          have hw := q_W_get (ad := ad) (sv := sv) (ct := ct) (h := h) haN
          rw [he] at hw
          exact va_zast hx hb hK hP hD hS a 3 hw (q_tys_get (by omega)) hin hd (fun H1 locs1 hP1 hD1 hS1 => kk H1 locs1 (G.up (e2 := .inl (3, (n, .inl (upd f i.toNatClampNeg (vp_nar .boolean x))))) haN hP1 hD1) hS1)
      · cases hh
    · cases hh
  · cases hh
theorem q_last_snd (C : q_C p R s m args meth c M d D ct A) (G : q_G D ct A ad sv SL xs s h N H) (hS : va_S A s.heap H locs) {st st' : List Value} {h' : q_H} (hh : q_last h N st = some (st', h')) (hd : decode (q_code M) pc = .ok (.lastore, 1))
    (kk : ∀ (H1 : Heap) (locs1 : List Loc), q_G D ct A ad sv SL xs s h' N H1 → va_S A s.heap H1 locs1 → W p l e R s m args below meth c H1 locs1 cells slots Q (F0 m (pc + 1) ls (st'.map (q_cv ad sv)))) : W p l e R s m args below meth c H locs cells slots Q (F0 m pc ls (st.map (q_cv ad sv))) := by
  obtain ⟨hx, hb, hml, hown, hts, hK, -, -, -, -⟩ := C
  have hP := G.1
  have hD := G.2.1
  unfold q_last at hh
  split at hh
  · rename_i x i a0 r
    obtain ⟨a, ea0⟩ : ∃ a : Nat, a = a0 := ⟨a0, rfl⟩
    subst ea0
    split at hh
    · rename_i haN
      have haN : a < N := haN
      split at hh
      · rename_i n f he
        split at hh
        · cases hh
        · rename_i hin
          cases hh
          have hw := q_W_get (ad := ad) (sv := sv) (ct := ct) (h := h) haN
          rw [he] at hw
          exact va_last hx hb hK hP hD hS a 2 hw (q_tys_get (by omega)) hin hd (fun H1 locs1 hP1 hD1 hS1 => kk H1 locs1 (G.up (e2 := .inl (2, (n, .inr (.inl (vp_updL f i.toNatClampNeg x))))) haN hP1 hD1) hS1)
      · cases hh
    · cases hh
  · cases hh
theorem q_copy_snd (C : q_C p R s m args meth c M d D ct A) (G : q_G D ct A ad sv SL xs s h N H) (hS : va_S A s.heap H locs) (hsz : ls.size = q_ml M) {k M' : Nat} {st st' : List Value} {h' : q_H} (hi : q_inv (q_own M) k = some (6, M')) (hh : q_copy h N st = some (st', h')) (hd : decode (q_code M) pc = .ok (.invokestatic k, 3))
    (kk : ∀ (H1 : Heap) (locs1 : List Loc), q_G D ct A ad sv SL xs s h' N H1 → va_S A s.heap H1 locs1 → W p l e R s m args below meth c H1 locs1 cells slots Q (F0 m (pc + 3) ls (st'.map (q_cv ad sv)))) : W p l e R s m args below meth c H locs cells slots Q (F0 m pc ls (st.map (q_cv ad sv))) := by
  obtain ⟨hx, hb, hml, hown, hts, hK, -, hfr, hlo, -⟩ := C
  have hP := G.1
  have hD := G.2.1
  have hsv := G.2.2.2.2.1
  unfold q_copy at hh
  split at hh
  · rename_i n dp a0 sp b0 r
    obtain ⟨a, ea0⟩ : ∃ a : Nat, a = a0 := ⟨a0, rfl⟩
    subst ea0
    obtain ⟨b, eb0⟩ : ∃ b : Nat, b = b0 := ⟨b0, rfl⟩
    subst eb0
    split at hh
    · rename_i haN
      have haN : a < N ∧ b < N := haN
      split at hh
      · rename_i n0 f n1 g hb0 ha0
        split at hh
        · rename_i hc
          obtain ⟨h1, h2, h3, h4, h5, h6⟩ := hc
          cases hh
          have hw := q_W_get (ad := ad) (sv := sv) (ct := ct) (h := h) haN.1
          rw [ha0] at hw
          have hw2 := q_W_get (ad := ad) (sv := sv) (ct := ct) (h := h) haN.2
          rw [hb0] at hw2
          have hl : Cond.methodLink (q_cn (q_own M)) k arraycopyName ∈ q_ws := q_ws_inv (q_inv_mem hi) List.mem_cons_self
          exact va_copyi hx hb (hml.trans hsz.symm) hown (hts _ hl) (hts _ (q_ws_fix 1 rfl)) (hts _ (q_ws_fix 2 rfl)) (hts _ (q_ws_fix 3 rfl)) hK hP hD hS b a 0 0 (ty := .int) hw2 hw (q_tys_get (by omega)) (q_tys_get (by omega)) rfl h1 h2 h3 h4 h5 (fun _ _ => rfl) (by omega)
            (by rw [q_nfw, q_cv_sum hsv]; omega) hd (fun H1 locs1 hP1 hD1 hS1 => kk H1 locs1 (G.up (e2 := .inl (0, (n1, .inl (va_cpy f g sp.toNatClampNeg dp.toNatClampNeg n.toNatClampNeg)))) haN.1 hP1 hD1) hS1)
        · cases hh
      · cases hh
    · cases hh
  · cases hh
theorem q_aast_snd (C : q_C p R s m args meth c M d D ct A) (G : q_G D ct A ad sv SL xs s h N H) (hS : va_S A s.heap H locs) {st st' : List Value} {h' : q_H} (hh : q_aast h N st = some (st', h')) (hd : decode (q_code M) pc = .ok (.aastore, 1))
    (kk : ∀ (H1 : Heap) (locs1 : List Loc), q_G D ct A ad sv SL xs s h' N H1 → va_S A s.heap H1 locs1 → W p l e R s m args below meth c H1 locs1 cells slots Q (F0 m (pc + 1) ls (st'.map (q_cv ad sv)))) : W p l e R s m args below meth c H locs cells slots Q (F0 m pc ls (st.map (q_cv ad sv))) := by
  obtain ⟨hx, hb, hml, hown, hts, hK, -, hfr, hlo, -⟩ := C
  have hP := G.1
  have hD := G.2.1
  unfold q_aast at hh
  split at hh
  · rename_i v0 i a0 r
    obtain ⟨a, ea0⟩ : ∃ a : Nat, a = a0 := ⟨a0, rfl⟩
    subst ea0
    obtain ⟨v, ev0⟩ : ∃ v : Nat, v = v0 := ⟨v0, rfl⟩
    subst ev0
    split at hh
    · rename_i haN
      have haN : a < N ∧ v < N := haN
      split at hh
      · rename_i t n f ci fs ha0 hv0
        split at hh
        · cases hh
        · rename_i hc
          cases hh
          have hin : vp_in i n := fun z => hc (z.elim Or.inl (fun y => Or.inr (Or.inl y)))
          have htc : (t = 4 ∧ ci = 5) ∨ (t = 5 ∧ ci = 2) := Classical.byContradiction fun z => hc (Or.inr (Or.inr z))
          have hw := q_W_get (ad := ad) (sv := sv) (ct := ct) (h := h) haN.1
          rw [ha0] at hw
          have hw2 := q_W_get (ad := ad) (sv := sv) (ct := ct) (h := h) haN.2
          rw [hv0] at hw2
          have eup : (fun j => ((va_up f i.toNatClampNeg (some v)) j).map ad) = va_up (fun j => (f j).map ad) i.toNatClampNeg (some (ad v)) := by
            funext j
            unfold va_up
            by_cases e : j = i.toNatClampNeg
            · simp [e]
            · simp [e]
          have kk2 : ∀ (H1 : Heap) (locs1 : List Loc), va_P D vwCl ((q_W ad sv ct N h).set a (ad a, .inl (ct t, n, .inr (.inr (.inr (.inr (va_up (fun j => (f j).map ad) i.toNatClampNeg (some (ad v))))))))) H1 → va_D A ((q_W ad sv ct N h).set a (ad a, .inl (ct t, n, .inr (.inr (.inr (.inr (va_up (fun j => (f j).map ad) i.toNatClampNeg (some (ad v))))))))) → va_S A s.heap H1 locs1 → W p l e R s m args below meth c H1 locs1 cells slots Q (F0 m (pc + 1) ls (st'.map (q_cv ad sv))) := by
            intro H1 locs1 hP1 hD1 hS1
            rw [← eup] at hP1 hD1
            exact kk H1 locs1 (G.up (e2 := .inl (t, (n, .inr (.inr (.inr (.inr (va_up f i.toNatClampNeg (some v)))))))) haN.1 hP1 hD1) hS1
          rcases htc with ⟨rfl, rfl⟩ | ⟨rfl, rfl⟩
          · exact va_astq hx hb hK hP hD hS a 4 v 5 (r := (RX5, TX5, 7)) hw (q_tys_get (by omega)) hw2 rfl hin hd kk2
          · exact va_astq hx hb hK hP hD hS a 5 v 2 (r := (RX2, TX2, 10)) hw (q_tys_get (by omega)) hw2 rfl hin hd kk2
      · cases hh
    · cases hh
  · cases hh
theorem q_cst_snd (C : q_C p R s m args meth c M d D ct A) (G : q_G D ct A ad sv SL xs s h N H) (hS : va_S A s.heap H locs) {i : Instr} {k : Nat} {st st' : List Value} (hh : q_cst (q_own M) i st = some (k, st')) (hd : decode (q_code M) pc = .ok (i, k))
    (kk : W p l e R s m args below meth c H locs cells slots Q (F0 m (pc + k) ls (st'.map (q_cv ad sv)))) : W p l e R s m args below meth c H locs cells slots Q (F0 m pc ls (st.map (q_cv ad sv))) := by
  obtain ⟨hx, hb, hml, hown, hts, hK, -, hfr, hlo, -⟩ := C
  have hX := G.2.2.2.1
  unfold q_cst at hh
  split at hh
  · rename_i j
    split at hh
    · rename_i v hv
      cases hh
      exact lv_ldc hx hb hown (hts _ (q_ws_con hv)) hd kk
    · cases hs : q_str (q_own M) j with
      | none => rw [hs] at hh; cases hh
      | some z =>
        rw [hs] at hh
        cases hh
        have hm := q_find hs
        obtain ⟨h6, hz⟩ := q_str_ok _ hm
        have h6 : q_own M = 6 := h6
        cases hq : q_strL[z]? with
        | none => rw [show (q_own M, j, z).2.2 = z from rfl, hq] at hz; cases hz
        | some x =>
          rw [show (q_own M, j, z).2.2 = z from rfl, hq] at hz
          have hj : x.1 = j := Option.some.inj hz
          have hR := hX.2.1 z x hq
          rw [h6] at hown
          rw [hj] at hR
          exact va_ldcS hx hb hown hR hd kk
  · rename_i j
    cases hv : q_con (q_own M) j with
    | none => rw [hv] at hh; cases hh
    | some v =>
      rw [hv] at hh
      cases hh
      exact lv_ldcw hx hb hown (hts _ (q_ws_con hv)) hd kk
  · rename_i j
    cases hv : q_lco (q_own M) j with
    | none => rw [hv] at hh; cases hh
    | some v =>
      rw [hv] at hh
      cases hh
      exact lv_ldc2 hx hb hown (hts _ (q_ws_lco hv)) hd kk
  · rename_i j
    split at hh
    · rename_i ho
      obtain ⟨h4, rfl⟩ := ho
      cases hh
      rw [h4] at hown
      exact va_gets hx hb hX.2.2.1 hS hown (hts _ (q_ws_fix 4 rfl)) (fun _ z => z) hd kk
    · split at hh
      · rename_i ho
        obtain ⟨h4, rfl⟩ := ho
        cases hh
        rw [h4] at hown
        exact va_gets hx hb hX.2.2.2.2.1 hS hown (hts _ (q_ws_fix 5 rfl)) (fun _ z => z) hd kk
      · split at hh
        · rename_i ho
          obtain ⟨h4, rfl⟩ := ho
          cases hh
          rw [h4] at hown
          exact va_gets hx hb hX.2.2.2.2.2.1 hS hown (hts _ (q_ws_fix 6 rfl)) (fun _ z => z) hd kk
        · cases hh
  · cases hh
end QE
