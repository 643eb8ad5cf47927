/-! THE ABSTRACT MACHINE IS SOUND, VII: any instruction that is no call -/
theorem q_mapS {α β : Type} {o : Option α} {f : α → β} {b : β} (h : o.map f = some b) : ∃ a, o = some a ∧ f a = b := by
  cases o with
  | none => cases h
  | some a => exact ⟨a, rfl, Option.some.inj h⟩
section QG
variable {p : Program} {l : Launch} {e : Env} {R : Room} {s : State} {m : MethodId} {args : Array Value} {below : List Frame} {meth : Method} {c : Code} {H : Heap} {locs : List Loc} {cells slots : Nat} {Q : State → Prop}
variable {pc : Nat} {ls : Array Slot} {ad : Nat → Nat} {sv : Value} {M d : Nat} {D : va_G} {ct : Nat → ClassId} {A : Nat → Prop} {SL : Nat} {xs : Nat → Int32} {h : q_H} {N : Nat}
theorem q_hop_snd (C : q_C p R s m args meth c M d D ct A) (G : q_G D ct A ad sv SL xs s h N H) (hS : va_S A s.heap H locs) (hsz : ls.size = q_ml M) {i : Instr} {k : Nat} {st st' : List Value} {h' : q_H} (hh : q_hop (q_own M) ((q_y M).name == "<init>") i st h N = some (k, st', h')) (hd : decode (q_code M) pc = .ok (i, k))
    (kk : ∀ (H1 : Heap) (locs1 : List Loc), q_G D ct A ad sv SL xs s h' N H1 → va_S A s.heap H1 locs1 → W p l e R s m args below meth c H1 locs1 cells slots Q (F0 m (pc + k) ls (st'.map (q_cv ad sv)))) : W p l e R s m args below meth c H locs cells slots Q (F0 m pc ls (st.map (q_cv ad sv))) := by
  unfold q_hop at hh
  split at hh
  · obtain ⟨a, h1, h2⟩ := q_mapS hh
    cases h2
    exact q_getf_snd C G hS h1 hd (kk H locs G hS)
  · obtain ⟨a, h1, h2⟩ := q_mapS hh
    cases h2
    exact q_putf_snd C G hS h1 hd kk
  · obtain ⟨a, h1, h2⟩ := q_mapS hh
    cases h2
    exact q_iald_snd C G hS h1 hd (kk H locs G hS)
  · obtain ⟨a, h1, h2⟩ := q_mapS hh
    cases h2
    exact q_bald_snd C G hS h1 hd (kk H locs G hS)
  · obtain ⟨a, h1, h2⟩ := q_mapS hh
    cases h2
    exact q_lald_snd C G hS h1 hd (kk H locs G hS)
  · obtain ⟨a, h1, h2⟩ := q_mapS hh
    cases h2
    exact q_aald_snd C G h1 hd (kk H locs G hS)
  · obtain ⟨a, h1, h2⟩ := q_mapS hh
    cases h2
    exact q_alen_snd C G hS h1 hd (kk H locs G hS)
  · obtain ⟨a, h1, h2⟩ := q_mapS hh
    cases h2
    exact q_iast_snd C G hS h1 hd kk
  · obtain ⟨a, h1, h2⟩ := q_mapS hh
    cases h2
    exact q_bast_snd C G hS h1 hd kk
  · obtain ⟨a, h1, h2⟩ := q_mapS hh
    cases h2
    exact q_last_snd C G hS h1 hd kk
  · obtain ⟨a, h1, h2⟩ := q_mapS hh
    cases h2
    exact q_aast_snd C G hS h1 hd kk
  · rename_i j
    split at hh
    · rename_i hi
      obtain ⟨a, h1, h2⟩ := q_mapS hh
      cases h2
      obtain ⟨⟨z, M'⟩, h3, h4⟩ := q_mapS hi
      cases h4
      exact q_copy_snd C G hS hsz h3 h1 hd kk
    · cases hh
  · rename_i j
    split at hh
    · rename_i hi
      obtain ⟨⟨z, M'⟩, h3, h4⟩ := q_mapS hi
      cases h4
      split at hh
      · rename_i a r
        split at hh
        · rename_i hsum
          cases hh
          obtain ⟨hx, hb, hml, hown, hts, hK, -, hfr, hlo, hA⟩ := C
          have hl : Cond.methodLink (q_cn (q_own M)) j objectInit ∈ q_ws := q_ws_inv (q_inv_mem h3) List.mem_cons_self
          have hco : Cond.code objectInit ⟨#[0xb1]⟩ 1 none ∈ q_ws := List.mem_append_left _ (List.mem_append_right _ List.mem_cons_self)
          exact W.objInit hx hb hown (hts _ hl) (hts _ (q_ws_fix 0 rfl)) (hts _ hco) (g := F0 m pc ls (Value.ref (ad a) :: st'.map (q_cv ad sv))) rfl (hsz.trans hml.symm) rfl hd (by omega) (by show 2 * 0 + _ + 12 ≤ _; rw [q_cv_sum G.2.2.2.2.1]; omega) (kk H locs G hS)
        · cases hh
      · cases hh
    · cases hh
  · cases hh
theorem mna_o (cA : ClassId) (z : Nat) : ∀ i : Nat, Jvm.Free.Multi.outerC cA 8 z i = { cls := cA, slots := (Jvm.Free.Multi.outerC cA 8 z i).slots, vm := .none }
  | 0 => rfl
  | i + 1 => congrArg (fun c : Cell => c.setSlot i (.ref (z + 1 + i))) (mna_o cA z i)
theorem mna_outer {cA : ClassId} {z : Nat} {f : Nat → Option Nat} (hf : ∀ j, j < 8 → f j = some (z + 1 + j)) : Jvm.Free.Multi.outerC cA 8 z 8 = arrV cA 8 (fun j => va_rf (f j)) := by
  obtain ⟨o1, o2, o3⟩ := Jvm.Free.Multi.outerC_facts cA 8 z 8
  have os := Jvm.Free.Multi.outerC_slot cA 8 z 8
  have hm := mna_o cA z 8
  generalize Jvm.Free.Multi.outerC cA 8 z 8 = oc at o1 o2 o3 os hm
  have e : oc.slots = (arrV cA 8 (fun j => va_rf (f j))).slots := by
    refine Array.ext_getElem? (fun i => ?_)
    by_cases hi : i < 8
    · rw [os i hi, if_pos hi, arrV_read _ _ hi, hf i hi]
      rfl
    · rw [Array.getElem?_eq_none (by rw [o3]; omega), Array.getElem?_eq_none (by rw [arrV_size]; omega)]
  rw [hm, e]
  rfl
/-- new T[8][40] -/
theorem q_mna_snd {p : Program} {l : Launch} {e : Env} {R : Room} {s : State} {m : MethodId} {args : Array Value} {below : List Frame} {meth : Method} {c : Code} {H : Heap} {locs : List Loc} {cells slots : Nat} {Q : State → Prop} {pc : Nat} {ls : Array Slot} {ad : Nat → Nat} {sv : Value} {M d : Nat} {D : va_G} {ct : Nat → ClassId} {A : Nat → Prop} {SL : Nat} {xs : Nat → Int32} {h : q_H} {N : Nat} (C : q_C p R s m args meth c M d D ct A) (G : q_G D ct A ad sv SL xs s h N H) (hS : va_S A s.heap H locs) {st : List Value} (h0 : q_own M = 3) (hN : N + 9 < 900) (wf : ∀ k : Nat, k < N → q_wfE N (h k)) (hd : decode (q_code M) pc = .ok (.multianewarray 18 2, 4)) (hc : cells + 9 ≤ R.cells) (hs : slots + 328 ≤ R.slots)
    (kk : ∀ (ad' : Nat → Nat) (H1 : Heap), (∀ a : Nat, a < N ∨ N + 9 ≤ a → ad' a = ad a) → q_G D ct A ad' sv SL xs s (fun a => if a = N then .inl (6, (8, .inr (.inr (.inr (.inr (fun j => if j < 8 then some (N + 1 + j) else none)))))) else if N < a ∧ a < N + 9 then .inl (0, (40, .inl (fun _ => 0))) else h a) (N + 9) H1 → va_S A s.heap H1 locs → W p l e R s m args below meth c H1 locs (cells + 9) (slots + 328) Q (F0 m (pc + 4) ls (.ref (ad' N) :: st.map (q_cv ad sv)))) : W p l e R s m args below meth c H locs cells slots Q (F0 m pc ls (.int 40 :: .int 8 :: st.map (q_cv ad sv))) := by
  obtain ⟨hx, hb, hml, hown, hts, hK, -, hfr, hlo, hA⟩ := C
  obtain ⟨hP, hD, hro, hX, hsv, -⟩ := G
  rw [h0] at hown
  have t8 : (8 : Int32).toNatClampNeg = 8 := of_decide_eq_true rfl
  have t40 : (40 : Int32).toNatClampNeg = 40 := of_decide_eq_true rfl
  intro T hT X
  subst hT
  obtain ⟨vm₁, cA, comp, hW, hfA, hfC, -, -, X1, step⟩ := X.multianewarray2F (own := RX3) (index := 18) (ty := .int) (g := F0 m pc ls (.int 40 :: .int 8 :: st.map (q_cv ad sv))) hx hown (hts _ (q_ws_fix 7 rfl)) hX.2.2.2.2.2.2.2.2.2.2 (hts _ (q_ws_fix 8 rfl)) rfl (by rw [hb]; exact hd) rfl (by decide) (by decide) (by decide) (by decide) (by decide) rfl rfl (by rw [t8]; omega) (by rw [t8, t40]; omega)
  rw [t8, t40] at X1 step
  obtain ⟨f1, f2, f3, f4⟩ := Jvm.Free.Multi.fill_facts (T.setVm vm₁) cA comp 8 40 (defaultValue .int) 8
  have fo := fun (a : Addr) (ha : a < T.heap.size) => Jvm.Free.Multi.fill_old (T.setVm vm₁) cA comp 8 40 (defaultValue .int) (a := a) ha 8
  have fi := fun (j : Nat) (hj : j < 8) => Jvm.Free.Multi.fill_inner (T.setVm vm₁) cA comp 8 40 (defaultValue .int) 8 j hj
  generalize Jvm.Free.Multi.fill (T.setVm vm₁) cA comp 8 40 (defaultValue .int) 8 = T1 at X1 step f1 f2 f3 f4 fo fi
  have f1' : T1.heap.size = T.heap.size + 1 + 8 := f1
  have f2' : T1.heap[T.heap.size]? = some (Jvm.Free.Multi.outerC cA 8 T.heap.size 8) := f2
  have fo' : ∀ a : Nat, a < T.heap.size → T1.heap[a]? = T.heap[a]? := fun a ha => fo a ha
  have fi' : ∀ j : Nat, j < 8 → T1.heap[T.heap.size + 1 + j]? = some (Jvm.Free.Multi.innerC comp 40 (defaultValue .int)) := fun j hj => fi j hj
  have hcA : cA = ct 6 := Option.some.inj (hfA.symm.trans (hK.2 6 _ (q_tys_get (by omega))).2)
  have hco : comp = ct 0 := Option.some.inj (hfC.symm.trans (hK.2 0 _ (q_tys_get (by omega))).2)
  have a1 : ∀ a : Nat, a < N ∨ N + 9 ≤ a → (fun a => if N ≤ a ∧ a < N + 9 then T.heap.size + (a - N) else ad a) a = ad a := fun a ha => if_neg (by omega)
  have a2 : ∀ j : Nat, j < 9 → (fun a => if N ≤ a ∧ a < N + 9 then T.heap.size + (a - N) else ad a) (N + j) = T.heap.size + j := fun j hj => by
    dsimp only
    rw [if_pos (by omega), Nat.add_sub_cancel_left]
  generalize (fun a => if N ≤ a ∧ a < N + 9 then T.heap.size + (a - N) else ad a) = ad' at a1 a2
  have aN : ad' N = T.heap.size := a2 0 (by omega)
  have old : ∀ k : Nat, k < N → ad k < T.heap.size := fun k hk => (hP k _ (q_W_get hk)).lt
  have hG : q_G D ct A ad' sv SL xs s (fun a => if a = N then .inl (6, (8, .inr (.inr (.inr (.inr (fun j => if j < 8 then some (N + 1 + j) else none)))))) else if N < a ∧ a < N + 9 then .inl (0, (40, .inl (fun _ => 0))) else h a) (N + 9) T1.heap := by
    have hlen : ∀ (k : Nat) (q : Nat × va_E) (hh : q_H), (q_W ad' sv ct (N + 9) hh)[k]? = some q → k < N + 9 := fun k q hh hq => by
      have := (List.getElem?_eq_some_iff.mp hq).1
      unfold q_W at this
      simpa using this
    refine ⟨fun k q hq => ?_, ⟨fun i j pp qq hi hj hpq => ?_, fun k q hq => ?_⟩, fun a ha => ?_, q_X_up (fun a ha => a1 a (by omega)) hX, hsv, by omega⟩
    · have hk := hlen k q _ hq
      rw [q_W_get hk] at hq
      cases hq
      by_cases hkN : k < N
      · rw [a1 k (Or.inl hkN)]
        show va_at D vwCl (ad k, q_ce ad' sv ct (if k = N then _ else if N < k ∧ k < N + 9 then _ else h k)) T1.heap
        rw [if_neg (by omega), if_neg (by omega), q_ce_up (fun a ha => a1 a (by omega)) (wf k hkN)]
        exact (hP k _ (q_W_get hkN)).kept (fo' _ (old k hkN))
      · by_cases hk2 : k = N
        · subst hk2
          show va_at D vwCl (ad' k, q_ce ad' sv ct (if k = k then _ else _)) T1.heap
          rw [if_pos rfl, aN]
          show T1.heap[T.heap.size]? = some (arrV (ct 6) 8 (fun j => va_rf ((if j < 8 then some (k + 1 + j) else none).map ad')))
          rw [f2', hcA]
          exact congrArg some (mna_outer (fun j hj => by
            rw [if_pos hj]
            show some (ad' (k + 1 + j)) = _
            rw [show k + 1 + j = k + (1 + j) by omega, a2 (1 + j) (by omega)]
            exact congrArg some (by omega)))
        · obtain ⟨j, hj, rfl⟩ : ∃ j, j < 8 ∧ k = N + (1 + j) := ⟨k - N - 1, by omega, by omega⟩
          rw [a2 (1 + j) (by omega)]
          show va_at D vwCl (T.heap.size + (1 + j), q_ce ad' sv ct (if N + (1 + j) = N then _ else if N < N + (1 + j) ∧ N + (1 + j) < N + 9 then _ else _)) T1.heap
          rw [if_neg (by omega), if_pos (by omega)]
          show T1.heap[T.heap.size + (1 + j)]? = some (arrV (ct 0) 40 (fun _ => .int 0))
          rw [show T.heap.size + (1 + j) = T.heap.size + 1 + j by omega, fi' j hj, hco, ← arrV_new]
          rfl
    · have hi' := hlen i pp _ hi
      have hj' := hlen j qq _ hj
      rw [q_W_get hi'] at hi
      rw [q_W_get hj'] at hj
      cases hi
      cases hj
      dsimp only at hpq
      by_cases hiN : i < N
      · by_cases hjN : j < N
        · rw [a1 i (Or.inl hiN), a1 j (Or.inl hjN)] at hpq
          exact hD.1 i j _ _ (q_W_get hiN) (q_W_get hjN) hpq
        · have := old i hiN
          rw [a1 i (Or.inl hiN), show j = N + (j - N) by omega, a2 (j - N) (by omega)] at hpq
          omega
      · by_cases hjN : j < N
        · have := old j hjN
          rw [a1 j (Or.inl hjN), show i = N + (i - N) by omega, a2 (i - N) (by omega)] at hpq
          omega
        · rw [show i = N + (i - N) by omega, show j = N + (j - N) by omega, a2 (i - N) (by omega), a2 (j - N) (by omega)] at hpq
          omega
    · have hk := hlen k q _ hq
      rw [q_W_get hk] at hq
      cases hq
      dsimp only
      by_cases hkN : k < N
      · rw [a1 k (Or.inl hkN)]
        exact hD.2 k _ (q_W_get hkN)
      · rw [show k = N + (k - N) by omega, a2 (k - N) (by omega)]
        exact hA _ (by have := hS.1; omega)
    · show (if a = N then _ else if N < a ∧ a < N + 9 then _ else h a) = _
      rw [if_neg (by omega), if_neg (by omega)]
      exact hro a ha
  obtain ⟨t, b1, b2⟩ := kk ad' T1.heap a1 hG ⟨by have := hS.1; omega, fun q h1 h2 => (fo' q (Nat.lt_of_lt_of_le h1 hS.1)).trans (hS.2.1 q h1 h2), hS.2.2⟩ T1 rfl X1
  rw [aN] at b1
  exact ⟨t, step t b1, b2⟩
theorem q_alo_snd (C : q_C p R s m args meth c M d D ct A) (G : q_G D ct A ad sv SL xs s h N H) (hS : va_S A s.heap H locs) {i : Instr} {L : q_L} {k S N' S' : Nat} {st st' : List Value} {h' : q_H} (hh : q_alo (q_own M) i st h N S = some (k, st', h', N', S')) (hN : N' < 900) (wf : q_wf N L st h) (hd : decode (q_code M) pc = .ok (i, k)) (hc : cells + (N' - N) ≤ R.cells) (hs : slots + (S' - S) ≤ R.slots)
    (kk : ∀ (ad' : Nat → Nat) (H1 : Heap), (∀ a : Nat, a < N ∨ N' ≤ a → ad' a = ad a) → q_G D ct A ad' sv SL xs s h' N' H1 → va_S A s.heap H1 locs → W p l e R s m args below meth c H1 locs (cells + (N' - N)) (slots + (S' - S)) Q (F0 m (pc + k) ls (st'.map (q_cv ad' sv)))) : W p l e R s m args below meth c H locs cells slots Q (F0 m pc ls (st.map (q_cv ad sv))) := by
  obtain ⟨w1, w2, w3⟩ := wf
  have agree : ∀ q : Nat, ∀ a : Nat, a < N ∨ N + 1 ≤ a → va_up ad N q a = ad a := fun q a h => va_up_ne _ _ (by omega)
  have old : ∀ (q : Nat), N + 1 < 900 → ∀ a : Nat, a < N ∨ 1000 ≤ a → va_up ad N q a = ad a := fun q hq => q_up_old (by omega)
  unfold q_alo at hh
  split at hh
  · obtain ⟨ci, h1, h2⟩ := q_mapS hh
    cases h2
    rw [show N + 1 - N = 1 by omega] at hc kk
    rw [show S + q_fN ci - S = q_fN ci by omega] at hs kk
    exact q_new_snd C G hS h1 hN w3 hd hc hs (fun q H1 G1 hS1 => by
      have := kk (va_up ad N q) H1 (agree q) G1 hS1
      rw [List.map_cons, q_cvs_up (old q hN) w2] at this
      rw [show q_cv (va_up ad N q) sv (.ref N) = .ref q from congrArg Value.ref (va_up_self _ _ _)] at this
      exact this)
  · rename_i t
    split at hh
    · rename_i n r
      split at hh
      · cases hh
      · rename_i hn
        obtain ⟨e2, h1, h2⟩ := q_mapS hh
        cases h2
        rw [show N + 1 - N = 1 by omega] at hc kk
        rw [show S + n.toNatClampNeg - S = n.toNatClampNeg by omega] at hs kk
        exact q_newarr_snd C G hS (fun z => hn (Or.inl z)) (fun z => hn (Or.inr z)) h1 hN w3 hd hc hs (fun q H1 G1 hS1 => by
          have := kk (va_up ad N q) H1 (agree q) G1 hS1
          rw [List.map_cons, q_cvs_up (old q hN) (fun v hv => w2 v (List.mem_cons_of_mem _ hv))] at this
          rw [show q_cv (va_up ad N q) sv (.ref N) = .ref q from congrArg Value.ref (va_up_self _ _ _)] at this
          exact this)
    · cases hh
  · rename_i z
    split at hh
    · rename_i n r
      split at hh
      · cases hh
      · rename_i hn
        obtain ⟨t, h1, h2⟩ := q_mapS hh
        cases h2
        have ht : (q_own M = 0 ∧ z = 9 ∧ t = 4) ∨ (q_own M = 7 ∧ z = 23 ∧ t = 5) := by
          split at h1
          · rename_i q; cases h1; exact Or.inl ⟨q.1, q.2, rfl⟩
          · split at h1
            · rename_i q; cases h1; exact Or.inr ⟨q.1, q.2, rfl⟩
            · cases h1
        rw [show N + 1 - N = 1 by omega] at hc kk
        rw [show S + n.toNatClampNeg - S = n.toNatClampNeg by omega] at hs kk
        exact q_anew_snd C G hS (fun z => hn (Or.inl z)) (fun z => hn (Or.inr z)) ht hN w3 hd hc hs (fun q H1 G1 hS1 => by
          have := kk (va_up ad N q) H1 (agree q) G1 hS1
          rw [List.map_cons, q_cvs_up (old q hN) (fun v hv => w2 v (List.mem_cons_of_mem _ hv))] at this
          rw [show q_cv (va_up ad N q) sv (.ref N) = .ref q from congrArg Value.ref (va_up_self _ _ _)] at this
          exact this)
    · cases hh
  · split at hh
    · rename_i n w r
      split at hh
      · rename_i hq
        obtain ⟨h0, rfl, rfl, rfl, rfl⟩ := hq
        cases hh
        rw [show N + 9 - N = 9 by omega] at hc kk
        rw [show S + 328 - S = 328 by omega] at hs kk
        exact q_mna_snd C G hS h0 hN w3 hd hc hs (fun ad' H1 hag G1 hS1 => by
          have := kk ad' H1 hag G1 hS1
          rw [List.map_cons, q_cvs_up (ad := ad) (N := N) (fun a h => hag a (by omega)) (fun v hv => w2 v (List.mem_cons_of_mem _ (List.mem_cons_of_mem _ hv)))] at this
          exact this)
      · cases hh
    · cases hh
  · cases hh
theorem q_ldi_len {k n k' : Nat} {L L' : q_L} {i : Instr} {st st' : List Value} (h : q_lop i L st = some (k', L', st')) : L'.length = L.length := by
  unfold q_lop at h
  split at h
  · exact congrArg _ (q_ldie h).2.1
  · exact congrArg _ (q_ldie h).2.1
  · exact congrArg _ (q_ldle h).2.1
  · exact congrArg _ (q_ldle h).2.1
  · exact congrArg _ (q_ldae h).2.1
  · exact congrArg _ (q_ldae h).2.1
  · obtain ⟨-, x, -, rfl, -⟩ := q_stie h; exact q_set_len ..
  · obtain ⟨-, x, -, rfl, -⟩ := q_stie h; exact q_set_len ..
  · obtain ⟨-, x, -, rfl, -⟩ := q_stae h; exact q_set_len ..
  · obtain ⟨-, x, -, rfl, -⟩ := q_stae h; exact q_set_len ..
  · obtain ⟨-, x, -, rfl, -⟩ := q_stle h; exact q_setl_len ..
  · obtain ⟨-, x, -, rfl, -⟩ := q_stle h; exact q_setl_len ..
  · obtain ⟨-, -, x, -, -, rfl⟩ := q_ince h; exact q_set_len ..
  · cases h
theorem q_ins_snd (C : q_C p R s m args meth c M d D ct A) (G : q_G D ct A ad sv SL xs s h N H) (hS : va_S A s.heap H locs) {i : Instr} {L L' : q_L} {len pc' S N' S' : Nat} {st st' : List Value} {h' : q_H} (hh : q_has ls (q_cL ad sv L)) (hL : L.length = q_ml M)
    (hi : q_ins (q_own M) ((q_y M).name == "<init>") i len pc L st h N S = some (pc', L', st', h', N', S')) (hd : decode (q_code M) pc = .ok (i, len)) (hc : cells + (N' - N) ≤ R.cells) (hs : slots + (S' - S) ≤ R.slots)
    (kk : ∀ (ad' : Nat → Nat) (ls' : Array Slot) (H1 : Heap) (locs1 : List Loc), (∀ a : Nat, a < N ∨ N' ≤ a → ad' a = ad a) → q_G D ct A ad' sv SL xs s h' N' H1 → q_has ls' (q_cL ad' sv L') → L'.length = q_ml M → va_S A s.heap H1 locs1 → W p l e R s m args below meth c H1 locs1 (cells + (N' - N)) (slots + (S' - S)) Q (F0 m pc' ls' (st'.map (q_cv ad' sv)))) : W p l e R s m args below meth c H locs cells slots Q (F0 m pc ls (st.map (q_cv ad sv))) := by
  have hsv := G.2.2.2.2.1
  have hsz : ls.size = q_ml M := by rw [hh.1, ← hL]; exact List.length_map ..
  unfold q_ins at hi
  split at hi
  · rename_i k st2 h1
    split at hi
    · rename_i hk
      subst hk
      cases hi
      simp only [Nat.sub_self, Nat.add_zero] at kk
      exact q_alu_snd C.1 C.2.1 hsv h1 hd (kk ad ls H locs (fun _ _ => rfl) G hh hL hS)
    · cases hi
  · split at hi
    · rename_i k st2 h1
      split at hi
      · rename_i hk
        subst hk
        cases hi
        simp only [Nat.sub_self, Nat.add_zero] at kk
        exact q_cst_snd C G hS h1 hd (kk ad ls H locs (fun _ _ => rfl) G hh hL hS)
      · cases hi
    · split at hi
      · rename_i k L2 st2 h1
        split at hi
        · rename_i hk
          subst hk
          cases hi
          simp only [Nat.sub_self, Nat.add_zero] at kk
          exact q_lop_snd C.1 C.2.1 hsv h1 hd hh (fun ls' hh' => kk ad ls' H locs (fun _ _ => rfl) G hh' ((q_ldi_len (k := 0) (n := 0) h1).trans hL) hS)
        · cases hi
      · split at hi
        · rename_i t st2 h1
          cases hi
          simp only [Nat.sub_self, Nat.add_zero] at kk
          exact q_br_snd C.1 C.2.1 h1 hd (kk ad ls H locs (fun _ _ => rfl) G hh hL hS)
        · split at hi
          · rename_i k st2 h2 h1
            split at hi
            · rename_i hk
              subst hk
              cases hi
              simp only [Nat.sub_self, Nat.add_zero] at kk
              exact q_hop_snd C G hS hsz h1 hd (fun H1 locs1 G1 hS1 => kk ad ls H1 locs1 (fun _ _ => rfl) G1 hh hL hS1)
            · cases hi
          · split at hi
            · rename_i k st2 h2 N2 S2 h1
              split at hi
              · rename_i hk
                obtain ⟨hk, hN2, wf⟩ := hk
                subst hk
                cases hi
                refine q_alo_snd C G hS h1 hN2 wf hd hc hs (fun ad' H1 hag G1 hS1 => kk ad' ls H1 locs hag G1 ?_ hL hS1)
                rw [q_cL_up (fun a h => hag a (by omega)) wf.1]
                exact hh
              · cases hi
            · cases hi
end QG
