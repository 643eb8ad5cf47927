/-! THE ABSTRACT MACHINE IS SOUND, VII: any instruction that is no call -/
theorem q_mapS {α β : Type} {o : Option α} {f : α → β} {b : β} (h : o.map f = some b) : ∃ a, o = some a ∧ f a = b := by
  cases o with
  | none => cases h
  | some a => exact ⟨a, rfl, Option.some.inj h⟩
section QG
variable {p : Program} {l : Launch} {e : Env} {R : Room} {s : State} {m : MethodId} {args : Array Value} {below : List Frame} {meth : Method} {c : Code} {H : Heap} {locs : List Loc} {cells slots : Nat} {Q : State → Prop}
variable {pc : Nat} {ls : Array Slot} {ad : Nat → Nat} {sv : Value} {M d : Nat} {D : va_G} {ct : Nat → ClassId} {A : Nat → Prop} {SL : Nat} {xs : Nat → Int32} {h : q_H} {N : Nat}
theorem q_hop_snd (C : q_C p R s m args meth c M d D ct A) (G : q_G D ct A ad sv SL xs s h N H) (hS : va_S A s.heap H locs) (hsz : ls.size = q_ml M) {i : Instr} {k : Nat} {st st' : List Value} {h' : q_H} (hh : q_hop (q_own M) ((q_y M).name == "<init>") i st h N = some (k, st', h')) (hd : decode (q_code M) pc = .ok (i, k))
    (kk : ∀ (H1 : Heap) (locs1 : List Loc), q_G D ct A ad sv SL xs s h' N H1 → va_S A s.heap H1 locs1 → W p l e R s m args below meth c H1 locs1 cells slots Q (F0 m (pc + k) ls (st'.map (q_cv ad sv)))) : W p l e R s m args below meth c H locs cells slots Q (F0 m pc ls (st.map (q_cv ad sv))) := by
  unfold q_hop at hh
  split at hh
  · obtain ⟨a, h1, h2⟩ := q_mapS hh
    cases h2
    exact q_getf_snd C G hS h1 hd (kk H locs G hS)
  · obtain ⟨a, h1, h2⟩ := q_mapS hh
    cases h2
    exact q_putf_snd C G hS h1 hd kk
  · obtain ⟨a, h1, h2⟩ := q_mapS hh
    cases h2
    exact q_iald_snd C G hS h1 hd (kk H locs G hS)
  · obtain ⟨a, h1, h2⟩ := q_mapS hh
    cases h2
    exact q_bald_snd C G hS h1 hd (kk H locs G hS)
  · obtain ⟨a, h1, h2⟩ := q_mapS hh
    cases h2
    exact q_lald_snd C G hS h1 hd (kk H locs G hS)
  · obtain ⟨a, h1, h2⟩ := q_mapS hh
    cases h2
    exact q_aald_snd C G h1 hd (kk H locs G hS)
  · obtain ⟨a, h1, h2⟩ := q_mapS hh
    cases h2
    exact q_alen_snd C G hS h1 hd (kk H locs G hS)
  · obtain ⟨a, h1, h2⟩ := q_mapS hh
    cases h2
    exact q_iast_snd C G hS h1 hd kk
  · obtain ⟨a, h1, h2⟩ := q_mapS hh
    cases h2
    exact q_bast_snd C G hS h1 hd kk
  · obtain ⟨a, h1, h2⟩ := q_mapS hh
    cases h2
    exact q_last_snd C G hS h1 hd kk
  · obtain ⟨a, h1, h2⟩ := q_mapS hh
    cases h2
    exact q_aast_snd C G hS h1 hd kk
  · rename_i j
    split at hh
    · rename_i hi
      obtain ⟨a, h1, h2⟩ := q_mapS hh
      cases h2
      obtain ⟨⟨z, M'⟩, h3, h4⟩ := q_mapS hi
      cases h4
      exact q_copy_snd C G hS hsz h3 h1 hd kk
    · cases hh
  · rename_i j
    split at hh
    · rename_i hi
      obtain ⟨⟨z, M'⟩, h3, h4⟩ := q_mapS hi
      cases h4
      split at hh
      · rename_i a r
        split at hh
        · rename_i hsum
          cases hh
          obtain ⟨hx, hb, hml, hown, hts, hK, -, hfr, hlo, hA⟩ := C
          have hl : Cond.methodLink (q_cn (q_own M)) j objectInit ∈ q_ws := q_ws_inv (q_inv_mem h3) List.mem_cons_self
          have hco : Cond.code objectInit ⟨#[0xb1]⟩ 1 none ∈ q_ws := List.mem_append_left _ (List.mem_append_right _ List.mem_cons_self)
          exact W.objInit hx hb hown (hts _ hl) (hts _ (q_ws_fix 0 rfl)) (hts _ hco) (g := F0 m pc ls (Value.ref (ad a) :: st'.map (q_cv ad sv))) rfl (hsz.trans hml.symm) rfl hd (by omega) (by show 2 * 0 + _ + 12 ≤ _; rw [q_cv_sum G.2.2.2.2.1]; omega) (kk H locs G hS)
        · cases hh
      · cases hh
    · cases hh
  · cases hh
/-- new T[8][40] -/
theorem q_mna_snd (C : q_C p R s m args meth c M d D ct A) (G : q_G D ct A ad sv SL xs s h N H) (hS : va_S A s.heap H locs) {st : List Value} (h0 : q_own M = 3) (hN : N + 9 < 900) (wf : ∀ k : Nat, k < N → q_wfE N (h k)) (hd : decode (q_code M) pc = .ok (.multianewarray 18 2, 4)) (hc : cells + 9 ≤ R.cells) (hs : slots + 328 ≤ R.slots)
    (kk : ∀ (ad' : Nat → Nat) (H1 : Heap), (∀ a : Nat, a < N ∨ N + 9 ≤ a → ad' a = ad a) → q_G D ct A ad' sv SL xs s (fun a => if a = N then .inl (6, (8, .inr (.inr (.inr (.inr (fun j => if j < 8 then some (N + 1 + j) else none)))))) else if N < a ∧ a < N + 9 then .inl (0, (40, .inl (fun _ => 0))) else h a) (N + 9) H1 → va_S A s.heap H1 locs → W p l e R s m args below meth c H1 locs (cells + 9) (slots + 328) Q (F0 m (pc + 4) ls (.ref (ad' N) :: st.map (q_cv ad sv)))) : W p l e R s m args below meth c H locs cells slots Q (F0 m pc ls (.int 40 :: .int 8 :: st.map (q_cv ad sv))) := by
  sorry
theorem q_alo_snd (C : q_C p R s m args meth c M d D ct A) (G : q_G D ct A ad sv SL xs s h N H) (hS : va_S A s.heap H locs) {i : Instr} {L : q_L} {k S N' S' : Nat} {st st' : List Value} {h' : q_H} (hh : q_alo (q_own M) i st h N S = some (k, st', h', N', S')) (hN : N' < 900) (wf : q_wf N L st h) (hd : decode (q_code M) pc = .ok (i, k)) (hc : cells + (N' - N) ≤ R.cells) (hs : slots + (S' - S) ≤ R.slots)
    (kk : ∀ (ad' : Nat → Nat) (H1 : Heap), (∀ a : Nat, a < N ∨ N' ≤ a → ad' a = ad a) → q_G D ct A ad' sv SL xs s h' N' H1 → va_S A s.heap H1 locs → W p l e R s m args below meth c H1 locs (cells + (N' - N)) (slots + (S' - S)) Q (F0 m (pc + k) ls (st'.map (q_cv ad' sv)))) : W p l e R s m args below meth c H locs cells slots Q (F0 m pc ls (st.map (q_cv ad sv))) := by
  obtain ⟨w1, w2, w3⟩ := wf
  have agree : ∀ q : Nat, ∀ a : Nat, a < N ∨ N + 1 ≤ a → va_up ad N q a = ad a := fun q a h => va_up_ne _ _ (by omega)
  have old : ∀ (q : Nat), N + 1 < 900 → ∀ a : Nat, a < N ∨ 1000 ≤ a → va_up ad N q a = ad a := fun q hq => q_up_old (by omega)
  unfold q_alo at hh
  split at hh
  · obtain ⟨ci, h1, h2⟩ := q_mapS hh
    cases h2
    rw [show N + 1 - N = 1 by omega] at hc kk
    rw [show S + q_fN ci - S = q_fN ci by omega] at hs kk
    exact q_new_snd C G hS h1 hN w3 hd hc hs (fun q H1 G1 hS1 => by
      have := kk (va_up ad N q) H1 (agree q) G1 hS1
      rw [List.map_cons, q_cvs_up (old q hN) w2] at this
      rw [show q_cv (va_up ad N q) sv (.ref N) = .ref q from congrArg Value.ref (va_up_self _ _ _)] at this
      exact this)
  · rename_i t
    split at hh
    · rename_i n r
      split at hh
      · cases hh
      · rename_i hn
        obtain ⟨e2, h1, h2⟩ := q_mapS hh
        cases h2
        rw [show N + 1 - N = 1 by omega] at hc kk
        rw [show S + n.toNatClampNeg - S = n.toNatClampNeg by omega] at hs kk
        exact q_newarr_snd C G hS (fun z => hn (Or.inl z)) (fun z => hn (Or.inr z)) h1 hN w3 hd hc hs (fun q H1 G1 hS1 => by
          have := kk (va_up ad N q) H1 (agree q) G1 hS1
          rw [List.map_cons, q_cvs_up (old q hN) (fun v hv => w2 v (List.mem_cons_of_mem _ hv))] at this
          rw [show q_cv (va_up ad N q) sv (.ref N) = .ref q from congrArg Value.ref (va_up_self _ _ _)] at this
          exact this)
    · cases hh
  · rename_i z
    split at hh
    · rename_i n r
      split at hh
      · cases hh
      · rename_i hn
        obtain ⟨t, h1, h2⟩ := q_mapS hh
        cases h2
        have ht : (q_own M = 0 ∧ z = 9 ∧ t = 4) ∨ (q_own M = 7 ∧ z = 23 ∧ t = 5) := by
          split at h1
          · rename_i q; cases h1; exact Or.inl ⟨q.1, q.2, rfl⟩
          · split at h1
            · rename_i q; cases h1; exact Or.inr ⟨q.1, q.2, rfl⟩
            · cases h1
        rw [show N + 1 - N = 1 by omega] at hc kk
        rw [show S + n.toNatClampNeg - S = n.toNatClampNeg by omega] at hs kk
        exact q_anew_snd C G hS (fun z => hn (Or.inl z)) (fun z => hn (Or.inr z)) ht hN w3 hd hc hs (fun q H1 G1 hS1 => by
          have := kk (va_up ad N q) H1 (agree q) G1 hS1
          rw [List.map_cons, q_cvs_up (old q hN) (fun v hv => w2 v (List.mem_cons_of_mem _ hv))] at this
          rw [show q_cv (va_up ad N q) sv (.ref N) = .ref q from congrArg Value.ref (va_up_self _ _ _)] at this
          exact this)
    · cases hh
  · split at hh
    · rename_i n w r
      split at hh
      · rename_i hq
        obtain ⟨h0, rfl, rfl, rfl, rfl⟩ := hq
        cases hh
        rw [show N + 9 - N = 9 by omega] at hc kk
        rw [show S + 328 - S = 328 by omega] at hs kk
        exact q_mna_snd C G hS h0 hN w3 hd hc hs (fun ad' H1 hag G1 hS1 => by
          have := kk ad' H1 hag G1 hS1
          rw [List.map_cons, q_cvs_up (ad := ad) (N := N) (fun a h => hag a (by omega)) (fun v hv => w2 v (List.mem_cons_of_mem _ (List.mem_cons_of_mem _ hv)))] at this
          exact this)
      · cases hh
    · cases hh
  · cases hh
theorem q_ldi_len {k n k' : Nat} {L L' : q_L} {i : Instr} {st st' : List Value} (h : q_lop i L st = some (k', L', st')) : L'.length = L.length := by
  unfold q_lop at h
  split at h
  · exact congrArg _ (q_ldie h).2.1
  · exact congrArg _ (q_ldie h).2.1
  · exact congrArg _ (q_ldle h).2.1
  · exact congrArg _ (q_ldle h).2.1
  · exact congrArg _ (q_ldae h).2.1
  · exact congrArg _ (q_ldae h).2.1
  · obtain ⟨-, x, -, rfl, -⟩ := q_stie h; exact q_set_len ..
  · obtain ⟨-, x, -, rfl, -⟩ := q_stie h; exact q_set_len ..
  · obtain ⟨-, x, -, rfl, -⟩ := q_stae h; exact q_set_len ..
  · obtain ⟨-, x, -, rfl, -⟩ := q_stae h; exact q_set_len ..
  · obtain ⟨-, x, -, rfl, -⟩ := q_stle h; exact q_setl_len ..
  · obtain ⟨-, x, -, rfl, -⟩ := q_stle h; exact q_setl_len ..
  · obtain ⟨-, -, x, -, -, rfl⟩ := q_ince h; exact q_set_len ..
  · cases h
theorem q_ins_snd (C : q_C p R s m args meth c M d D ct A) (G : q_G D ct A ad sv SL xs s h N H) (hS : va_S A s.heap H locs) {i : Instr} {L L' : q_L} {len pc' S N' S' : Nat} {st st' : List Value} {h' : q_H} (hh : q_has ls (q_cL ad sv L)) (hL : L.length = q_ml M)
    (hi : q_ins (q_own M) ((q_y M).name == "<init>") i len pc L st h N S = some (pc', L', st', h', N', S')) (hd : decode (q_code M) pc = .ok (i, len)) (hc : cells + (N' - N) ≤ R.cells) (hs : slots + (S' - S) ≤ R.slots)
    (kk : ∀ (ad' : Nat → Nat) (ls' : Array Slot) (H1 : Heap) (locs1 : List Loc), (∀ a : Nat, a < N ∨ N' ≤ a → ad' a = ad a) → q_G D ct A ad' sv SL xs s h' N' H1 → q_has ls' (q_cL ad' sv L') → L'.length = q_ml M → va_S A s.heap H1 locs1 → W p l e R s m args below meth c H1 locs1 (cells + (N' - N)) (slots + (S' - S)) Q (F0 m pc' ls' (st'.map (q_cv ad' sv)))) : W p l e R s m args below meth c H locs cells slots Q (F0 m pc ls (st.map (q_cv ad sv))) := by
  have hsv := G.2.2.2.2.1
  have hsz : ls.size = q_ml M := by rw [hh.1, ← hL]; exact List.length_map ..
  unfold q_ins at hi
  split at hi
  · rename_i k st2 h1
    split at hi
    · rename_i hk
      subst hk
      cases hi
      simp only [Nat.sub_self, Nat.add_zero] at kk
      exact q_alu_snd C.1 C.2.1 hsv h1 hd (kk ad ls H locs (fun _ _ => rfl) G hh hL hS)
    · cases hi
  · split at hi
    · rename_i k st2 h1
      split at hi
      · rename_i hk
        subst hk
        cases hi
        simp only [Nat.sub_self, Nat.add_zero] at kk
        exact q_cst_snd C G hS h1 hd (kk ad ls H locs (fun _ _ => rfl) G hh hL hS)
      · cases hi
    · split at hi
      · rename_i k L2 st2 h1
        split at hi
        · rename_i hk
          subst hk
          cases hi
          simp only [Nat.sub_self, Nat.add_zero] at kk
          exact q_lop_snd C.1 C.2.1 hsv h1 hd hh (fun ls' hh' => kk ad ls' H locs (fun _ _ => rfl) G hh' ((q_ldi_len (k := 0) (n := 0) h1).trans hL) hS)
        · cases hi
      · split at hi
        · rename_i t st2 h1
          cases hi
          simp only [Nat.sub_self, Nat.add_zero] at kk
          exact q_br_snd C.1 C.2.1 h1 hd (kk ad ls H locs (fun _ _ => rfl) G hh hL hS)
        · split at hi
          · rename_i k st2 h2 h1
            split at hi
            · rename_i hk
              subst hk
              cases hi
              simp only [Nat.sub_self, Nat.add_zero] at kk
              exact q_hop_snd C G hS hsz h1 hd (fun H1 locs1 G1 hS1 => kk ad ls H1 locs1 (fun _ _ => rfl) G1 hh hL hS1)
            · cases hi
          · split at hi
            · rename_i k st2 h2 N2 S2 h1
              split at hi
              · rename_i hk
                obtain ⟨hk, hN2, wf⟩ := hk
                subst hk
                cases hi
                refine q_alo_snd C G hS h1 hN2 wf hd hc hs (fun ad' H1 hag G1 hS1 => kk ad' ls H1 locs hag G1 ?_ hL hS1)
                rw [q_cL_up (fun a h => hag a (by omega)) wf.1]
                exact hh
              · cases hi
            · cases hi
end QG
