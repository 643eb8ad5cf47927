/-! new int[8][40] at the machine (a trial: it belongs in 03h) -/
theorem mna_o (cA : ClassId) (z : Nat) : ∀ i : Nat, Jvm.Free.Multi.outerC cA 8 z i = { cls := cA, slots := (Jvm.Free.Multi.outerC cA 8 z i).slots, vm := .none }
  | 0 => rfl
  | i + 1 => congrArg (fun c : Cell => c.setSlot i (.ref (z + 1 + i))) (mna_o cA z i)
theorem mna_outer {cA : ClassId} {z : Nat} {f : Nat → Option Nat} (hf : ∀ j, j < 8 → f j = some (z + 1 + j)) : Jvm.Free.Multi.outerC cA 8 z 8 = arrV cA 8 (fun j => va_rf (f j)) := by
  obtain ⟨o1, o2, o3⟩ := Jvm.Free.Multi.outerC_facts cA 8 z 8
  have os := Jvm.Free.Multi.outerC_slot cA 8 z 8
  have hm := mna_o cA z 8
  generalize Jvm.Free.Multi.outerC cA 8 z 8 = oc at o1 o2 o3 os hm
  have e : oc.slots = (arrV cA 8 (fun j => va_rf (f j))).slots := by
    refine Array.ext_getElem? (fun i => ?_)
    by_cases hi : i < 8
    · rw [os i hi, if_pos hi, arrV_read _ _ hi, hf i hi]
      rfl
    · rw [Array.getElem?_eq_none (by rw [o3]; omega), Array.getElem?_eq_none (by rw [arrV_size]; omega)]
  rw [hm, e]
  rfl
theorem q_mna2 {p : Program} {l : Launch} {e : Env} {R : Room} {s : State} {m : MethodId} {args : Array Value} {below : List Frame} {meth : Method} {c : Code} {H : Heap} {locs : List Loc} {cells slots : Nat} {Q : State → Prop} {pc : Nat} {ls : Array Slot} {ad : Nat → Nat} {sv : Value} {M d : Nat} {D : va_G} {ct : Nat → ClassId} {A : Nat → Prop} {SL : Nat} {xs : Nat → Int32} {h : q_H} {N : Nat} (C : q_C p R s m args meth c M d D ct A) (G : q_G D ct A ad sv SL xs s h N H) (hS : va_S A s.heap H locs) {st : List Value} (h0 : q_own M = 3) (hN : N + 9 < 900) (wf : ∀ k : Nat, k < N → q_wfE N (h k)) (hd : decode (q_code M) pc = .ok (.multianewarray 18 2, 4)) (hc : cells + 9 ≤ R.cells) (hs : slots + 328 ≤ R.slots)
    (kk : ∀ (ad' : Nat → Nat) (H1 : Heap), (∀ a : Nat, a < N ∨ N + 9 ≤ a → ad' a = ad a) → q_G D ct A ad' sv SL xs s (fun a => if a = N then .inl (6, (8, .inr (.inr (.inr (.inr (fun j => if j < 8 then some (N + 1 + j) else none)))))) else if N < a ∧ a < N + 9 then .inl (0, (40, .inl (fun _ => 0))) else h a) (N + 9) H1 → va_S A s.heap H1 locs → W p l e R s m args below meth c H1 locs (cells + 9) (slots + 328) Q (F0 m (pc + 4) ls (.ref (ad' N) :: st.map (q_cv ad sv)))) : W p l e R s m args below meth c H locs cells slots Q (F0 m pc ls (.int 40 :: .int 8 :: st.map (q_cv ad sv))) := by
  obtain ⟨hx, hb, hml, hown, hts, hK, -, hfr, hlo, hA⟩ := C
  obtain ⟨hP, hD, hro, hX, hsv, -⟩ := G
  rw [h0] at hown
  have t8 : (8 : Int32).toNatClampNeg = 8 := of_decide_eq_true rfl
  have t40 : (40 : Int32).toNatClampNeg = 40 := of_decide_eq_true rfl
  intro T hT X
  subst hT
  obtain ⟨vm₁, cA, comp, hW, hfA, hfC, -, -, X1, step⟩ := X.multianewarray2F (own := RX3) (index := 18) (ty := .int) (g := F0 m pc ls (.int 40 :: .int 8 :: st.map (q_cv ad sv))) hx hown (hts _ (q_ws_fix 7 rfl)) hX.2.2.2.2.2.2.2.2.2.2 (hts _ (q_ws_fix 8 rfl)) rfl (by rw [hb]; exact hd) rfl (by decide) (by decide) (by decide) (by decide) (by decide) rfl rfl (by rw [t8]; omega) (by rw [t8, t40]; omega)
  rw [t8, t40] at X1 step
  obtain ⟨f1, f2, f3, f4⟩ := Jvm.Free.Multi.fill_facts (T.setVm vm₁) cA comp 8 40 (defaultValue .int) 8
  have fo := fun (a : Addr) (ha : a < T.heap.size) => Jvm.Free.Multi.fill_old (T.setVm vm₁) cA comp 8 40 (defaultValue .int) (a := a) ha 8
  have fi := fun (j : Nat) (hj : j < 8) => Jvm.Free.Multi.fill_inner (T.setVm vm₁) cA comp 8 40 (defaultValue .int) 8 j hj
  generalize Jvm.Free.Multi.fill (T.setVm vm₁) cA comp 8 40 (defaultValue .int) 8 = T1 at X1 step f1 f2 f3 f4 fo fi
  have f1' : T1.heap.size = T.heap.size + 1 + 8 := f1
  have f2' : T1.heap[T.heap.size]? = some (Jvm.Free.Multi.outerC cA 8 T.heap.size 8) := f2
  have fo' : ∀ a : Nat, a < T.heap.size → T1.heap[a]? = T.heap[a]? := fun a ha => fo a ha
  have fi' : ∀ j : Nat, j < 8 → T1.heap[T.heap.size + 1 + j]? = some (Jvm.Free.Multi.innerC comp 40 (defaultValue .int)) := fun j hj => fi j hj
  have hcA : cA = ct 6 := Option.some.inj (hfA.symm.trans (hK.2 6 _ (q_tys_get (by omega))).2)
  have hco : comp = ct 0 := Option.some.inj (hfC.symm.trans (hK.2 0 _ (q_tys_get (by omega))).2)
  have a1 : ∀ a : Nat, a < N ∨ N + 9 ≤ a → (fun a => if N ≤ a ∧ a < N + 9 then T.heap.size + (a - N) else ad a) a = ad a := fun a ha => if_neg (by omega)
  have a2 : ∀ j : Nat, j < 9 → (fun a => if N ≤ a ∧ a < N + 9 then T.heap.size + (a - N) else ad a) (N + j) = T.heap.size + j := fun j hj => by
    dsimp only
    rw [if_pos (by omega), Nat.add_sub_cancel_left]
  generalize (fun a => if N ≤ a ∧ a < N + 9 then T.heap.size + (a - N) else ad a) = ad' at a1 a2
  have aN : ad' N = T.heap.size := a2 0 (by omega)
  have old : ∀ k : Nat, k < N → ad k < T.heap.size := fun k hk => (hP k _ (q_W_get hk)).lt
  have hG : q_G D ct A ad' sv SL xs s (fun a => if a = N then .inl (6, (8, .inr (.inr (.inr (.inr (fun j => if j < 8 then some (N + 1 + j) else none)))))) else if N < a ∧ a < N + 9 then .inl (0, (40, .inl (fun _ => 0))) else h a) (N + 9) T1.heap := by
    have hlen : ∀ (k : Nat) (q : Nat × va_E) (hh : q_H), (q_W ad' sv ct (N + 9) hh)[k]? = some q → k < N + 9 := fun k q hh hq => by
      have := (List.getElem?_eq_some_iff.mp hq).1
      unfold q_W at this
      simpa using this
    refine ⟨fun k q hq => ?_, ⟨fun i j pp qq hi hj hpq => ?_, fun k q hq => ?_⟩, fun a ha => ?_, q_X_up (fun a ha => a1 a (by omega)) hX, hsv, by omega⟩
    · have hk := hlen k q _ hq
      rw [q_W_get hk] at hq
      cases hq
      by_cases hkN : k < N
      · rw [a1 k (Or.inl hkN)]
        show va_at D vwCl (ad k, q_ce ad' sv ct (if k = N then _ else if N < k ∧ k < N + 9 then _ else h k)) T1.heap
        rw [if_neg (by omega), if_neg (by omega), q_ce_up (fun a ha => a1 a (by omega)) (wf k hkN)]
        exact (hP k _ (q_W_get hkN)).kept (fo' _ (old k hkN))
      · by_cases hk2 : k = N
        · subst hk2
          show va_at D vwCl (ad' k, q_ce ad' sv ct (if k = k then _ else _)) T1.heap
          rw [if_pos rfl, aN]
          show T1.heap[T.heap.size]? = some (arrV (ct 6) 8 (fun j => va_rf ((if j < 8 then some (k + 1 + j) else none).map ad')))
          rw [f2', hcA]
          exact congrArg some (mna_outer (fun j hj => by
            rw [if_pos hj]
            show some (ad' (k + 1 + j)) = _
            rw [show k + 1 + j = k + (1 + j) by omega, a2 (1 + j) (by omega)]
            exact congrArg some (by omega)))
        · obtain ⟨j, hj, rfl⟩ : ∃ j, j < 8 ∧ k = N + (1 + j) := ⟨k - N - 1, by omega, by omega⟩
          rw [a2 (1 + j) (by omega)]
          show va_at D vwCl (T.heap.size + (1 + j), q_ce ad' sv ct (if N + (1 + j) = N then _ else if N < N + (1 + j) ∧ N + (1 + j) < N + 9 then _ else _)) T1.heap
          rw [if_neg (by omega), if_pos (by omega)]
          show T1.heap[T.heap.size + (1 + j)]? = some (arrV (ct 0) 40 (fun _ => .int 0))
          rw [show T.heap.size + (1 + j) = T.heap.size + 1 + j by omega, fi' j hj, hco, ← arrV_new]
          rfl
    · have hi' := hlen i pp _ hi
      have hj' := hlen j qq _ hj
      rw [q_W_get hi'] at hi
      rw [q_W_get hj'] at hj
      cases hi
      cases hj
      dsimp only at hpq
      by_cases hiN : i < N
      · by_cases hjN : j < N
        · rw [a1 i (Or.inl hiN), a1 j (Or.inl hjN)] at hpq
          exact hD.1 i j _ _ (q_W_get hiN) (q_W_get hjN) hpq
        · have := old i hiN
          rw [a1 i (Or.inl hiN), show j = N + (j - N) by omega, a2 (j - N) (by omega)] at hpq
          omega
      · by_cases hjN : j < N
        · have := old j hjN
          rw [a1 j (Or.inl hjN), show i = N + (i - N) by omega, a2 (i - N) (by omega)] at hpq
          omega
        · rw [show i = N + (i - N) by omega, show j = N + (j - N) by omega, a2 (i - N) (by omega), a2 (j - N) (by omega)] at hpq
          omega
    · have hk := hlen k q _ hq
      rw [q_W_get hk] at hq
      cases hq
      dsimp only
      by_cases hkN : k < N
      · rw [a1 k (Or.inl hkN)]
        exact hD.2 k _ (q_W_get hkN)
      · rw [show k = N + (k - N) by omega, a2 (k - N) (by omega)]
        exact hA _ (by have := hS.1; omega)
    · show (if a = N then _ else if N < a ∧ a < N + 9 then _ else h a) = _
      rw [if_neg (by omega), if_neg (by omega)]
      exact hro a ha
  obtain ⟨t, b1, b2⟩ := kk ad' T1.heap a1 hG ⟨by have := hS.1; omega, fun q h1 h2 => (fo' q (Nat.lt_of_lt_of_le h1 hS.1)).trans (hS.2.1 q h1 h2), hS.2.2⟩ T1 rfl X1
  rw [aN] at b1
  exact ⟨t, step t b1, b2⟩
