/-! THE ABSTRACT MACHINE IS SOUND, II: locals, jumps -/
theorem q_ldie {k n k' : Nat} {L L' : q_L} {st st' : List Value} (h : q_ldi k L n st = some (k', L', st')) : k' = k ∧ L' = L ∧ ∃ x : Int32, L[n]? = some (some (.int x)) ∧ st' = .int x :: st := by
  unfold q_ldi at h
  split at h
  · rename_i x hx
    cases h
    exact ⟨rfl, rfl, x, q_ld_some hx, rfl⟩
  · cases h
theorem q_ldle {k n k' : Nat} {L L' : q_L} {st st' : List Value} (h : q_ldl k L n st = some (k', L', st')) : k' = k ∧ L' = L ∧ ∃ x : Int64, L[n]? = some (some (.long x)) ∧ st' = .long x :: st := by
  unfold q_ldl at h
  split at h
  · rename_i x hx
    cases h
    exact ⟨rfl, rfl, x, q_ld_some hx, rfl⟩
  · cases h
theorem q_ldae {k n k' : Nat} {L L' : q_L} {st st' : List Value} (h : q_lda k L n st = some (k', L', st')) : k' = k ∧ L' = L ∧ ∃ x : Nat, L[n]? = some (some (.ref x)) ∧ st' = .ref x :: st := by
  unfold q_lda at h
  split at h
  · rename_i x hx
    cases h
    exact ⟨rfl, rfl, x, q_ld_some hx, rfl⟩
  · cases h
theorem q_stie {k n k' : Nat} {L L' : q_L} {st st' : List Value} (h : q_sti k L n st = some (k', L', st')) : k' = k ∧ ∃ x : Int32, n < L.length ∧ L' = q_set L n (.int x) ∧ st = .int x :: st' := by
  unfold q_sti at h
  split at h
  · split at h
    · rename_i hn
      cases h
      exact ⟨rfl, _, hn, rfl, rfl⟩
    · cases h
  · cases h
theorem q_stae {k n k' : Nat} {L L' : q_L} {st st' : List Value} (h : q_sta k L n st = some (k', L', st')) : k' = k ∧ ∃ x : Nat, n < L.length ∧ L' = q_set L n (.ref x) ∧ st = .ref x :: st' := by
  unfold q_sta at h
  split at h
  · split at h
    · rename_i hn
      cases h
      exact ⟨rfl, _, hn, rfl, rfl⟩
    · cases h
  · cases h
theorem q_stle {k n k' : Nat} {L L' : q_L} {st st' : List Value} (h : q_stl k L n st = some (k', L', st')) : k' = k ∧ ∃ x : Int64, n + 1 < L.length ∧ L' = q_setl L n (.long x) ∧ st = .long x :: st' := by
  unfold q_stl at h
  split at h
  · split at h
    · rename_i hn
      cases h
      exact ⟨rfl, _, hn, rfl, rfl⟩
    · cases h
  · cases h
theorem q_ince {n k' : Nat} {z : Int} {L L' : q_L} {st st' : List Value} (h : q_inc L n z st = some (k', L', st')) : k' = 3 ∧ st' = st ∧ ∃ x : Int32, L[n]? = some (some (.int x)) ∧ n < L.length ∧ L' = q_set L n (.int (x + Int32.ofInt z)) := by
  unfold q_inc at h
  split at h
  · rename_i x hx
    split at h
    · rename_i hn
      cases h
      exact ⟨rfl, rfl, x, q_ld_some hx, hn, rfl⟩
    · cases h
  · cases h
theorem q_tgte {pc t : Nat} {off : Int} (h : q_tgt pc off = some t) : (pc : Int) + off = (t : Int) := by
  unfold q_tgt at h
  split at h
  · rename_i h0
    cases h
    exact (Int.toNat_of_nonneg h0).symm
  · cases h
theorem q_mapt {o : Option Nat} {r st' : List Value} {t : Nat} (h : o.map (fun t => (t, r)) = some (t, st')) : o = some t ∧ st' = r := by
  cases o with
  | none => cases h
  | some x => cases h; exact ⟨rfl, rfl⟩
section QB
variable {p : Program} {l : Launch} {e : Env} {R : Room} {s : State} {m : MethodId} {args : Array Value} {below : List Frame} {meth : Method} {c : Code} {H : Heap} {locs : List Loc} {cells slots : Nat} {Q : State → Prop}
variable {cc : ByteArray} {pc : Nat} {ls : Array Slot} {ad : Nat → Nat} {sv : Value}
set_option maxHeartbeats 4000000 in
theorem q_lop_snd (hx : p.tables.exec = Jvm.exec) (hb : c.code = cc) (hsv : sv.category = 1) {i : Instr} {k : Nat} {L L' : q_L} {st st' : List Value} (h : q_lop i L st = some (k, L', st')) (hd : decode cc pc = .ok (i, k)) (hh : q_has ls (q_cL ad sv L))
    (kk : ∀ ls', q_has ls' (q_cL ad sv L') → W p l e R s m args below meth c H locs cells slots Q (F0 m (pc + k) ls' (st'.map (q_cv ad sv)))) : W p l e R s m args below meth c H locs cells slots Q (F0 m pc ls (st.map (q_cv ad sv))) := by
  have len : (q_cL ad sv L).length = L.length := List.length_map ..
  have hlv := q_has_lv hh
  unfold q_lop at h
  split at h
  · obtain ⟨rfl, rfl, x, h1, rfl⟩ := q_ldie h
    exact lv_iload hx hb hd (hh.2.2 _ _ (q_cL_get h1)) (kk ls hh)
  · obtain ⟨rfl, rfl, x, h1, rfl⟩ := q_ldie h
    exact lv_iload_n hx hb hd rfl (hh.2.2 _ _ (q_cL_get h1)) (kk ls hh)
  · obtain ⟨rfl, rfl, x, h1, rfl⟩ := q_ldle h
    exact lv_lload hx hb hd (hh.2.2 _ _ (q_cL_get h1)) (kk ls hh)
  · obtain ⟨rfl, rfl, x, h1, rfl⟩ := q_ldle h
    exact lv_lload_n hx hb hd rfl (hh.2.2 _ _ (q_cL_get h1)) (kk ls hh)
  · obtain ⟨rfl, rfl, x, h1, rfl⟩ := q_ldae h
    exact lv_aload hx hb hd (hh.2.2 _ _ (q_cL_get h1)) (kk ls hh)
  · obtain ⟨rfl, rfl, x, h1, rfl⟩ := q_ldae h
    exact lv_aload_n hx hb hd rfl (hh.2.2 _ _ (q_cL_get h1)) (kk ls hh)
  · obtain ⟨rfl, x, hn, rfl, rfl⟩ := q_stie h
    exact lv_istore hx hb hd hlv (by rw [len]; exact hn) rfl (fun ls' h' => kk ls' (by rw [← q_set_map hsv]; exact q_has_set h'))
  · obtain ⟨rfl, x, hn, rfl, rfl⟩ := q_stie h
    exact lv_istore_n hx hb hd rfl hlv (by rw [len]; exact hn) rfl (fun ls' h' => kk ls' (by rw [← q_set_map hsv]; exact q_has_set h'))
  · obtain ⟨rfl, x, hn, rfl, rfl⟩ := q_stae h
    exact lv_astore hx hb hd hlv (by rw [len]; exact hn) rfl (fun ls' h' => kk ls' (by rw [← q_set_map hsv]; exact q_has_set h'))
  · obtain ⟨rfl, x, hn, rfl, rfl⟩ := q_stae h
    exact lv_astore_n hx hb hd rfl hlv (by rw [len]; exact hn) rfl (fun ls' h' => kk ls' (by rw [← q_set_map hsv]; exact q_has_set h'))
  · obtain ⟨rfl, x, hn, rfl, rfl⟩ := q_stle h
    exact lv_lstore hx hb hd hlv (by rw [len]; exact hn) rfl (fun ls' h' => kk ls' (by rw [← q_setl_map hsv]; exact q_has_setl h'))
  · obtain ⟨rfl, x, hn, rfl, rfl⟩ := q_stle h
    exact lv_lstore_n hx hb hd rfl hlv (by rw [len]; exact hn) rfl (fun ls' h' => kk ls' (by rw [← q_setl_map hsv]; exact q_has_setl h'))
  · obtain ⟨rfl, rfl, x, h1, hn, rfl⟩ := q_ince h
    obtain ⟨j, hj⟩ := List.getElem?_of_mem (q_lv_mem (q_cL_get (ad := ad) (sv := sv) h1))
    exact lv_iinc hx hb hd hlv hj rfl (by rw [len]; exact hn) rfl (fun ls' h' => kk ls' (by rw [← q_set_map hsv]; exact q_has_set h'))
  · cases h
set_option maxHeartbeats 4000000 in
theorem q_br_snd (hx : p.tables.exec = Jvm.exec) (hb : c.code = cc) {i : Instr} {len t : Nat} {st st' : List Value} (h : q_br i len pc st = some (t, st')) (hd : decode cc pc = .ok (i, len))
    (kk : W p l e R s m args below meth c H locs cells slots Q (F0 m t ls (st'.map (q_cv ad sv)))) : W p l e R s m args below meth c H locs cells slots Q (F0 m pc ls (st.map (q_cv ad sv))) := by
  unfold q_br at h
  split at h
  · split at h
    · rename_i hl
      subst hl
      obtain ⟨h1, rfl⟩ := q_mapt h
      exact lv_goto hx hb hd (q_tgte h1) kk
    · cases h
  · rename_i cnd off
    split at h
    · rename_i hl
      subst hl
      split at h
      · rename_i x r
        cases ht : q_tgt pc off with
        | none => rw [ht] at h; cases h
        | some tt =>
          rw [ht] at h
          obtain ⟨rfl, rfl⟩ : (if q_c1 cnd x = true then tt else pc + 3) = t ∧ r = st' := by cases h; exact ⟨rfl, rfl⟩
          have g := q_tgte ht
          cases cnd with
          | eq => exact lv_if_eq hx hb hd g (fun z => by rw [if_pos (by simpa [q_c1] using z)] at kk; exact kk) (fun z => by rw [if_neg (by simpa [q_c1] using z)] at kk; exact kk)
          | ne => exact lv_if_ne hx hb hd g (fun z => by rw [if_pos (by simpa [q_c1] using z)] at kk; exact kk) (fun z => by rw [if_neg (by simpa [q_c1] using z)] at kk; exact kk)
          | lt => exact lv_if_lt hx hb hd g (fun z => by rw [if_pos (by simpa [q_c1] using z)] at kk; exact kk) (fun z => by rw [if_neg (by simpa [q_c1] using z)] at kk; exact kk)
          | ge => exact lv_if_ge hx hb hd g (fun z => by rw [if_pos (by simpa [q_c1] using z)] at kk; exact kk) (fun z => by rw [if_neg (by simpa [q_c1] using z)] at kk; exact kk)
          | gt => exact lv_if_gt hx hb hd g (fun z => by rw [if_pos (by simpa [q_c1] using z)] at kk; exact kk) (fun z => by rw [if_neg (by simpa [q_c1] using z)] at kk; exact kk)
          | le => exact lv_if_le hx hb hd g (fun z => by rw [if_pos (by simpa [q_c1] using z)] at kk; exact kk) (fun z => by rw [if_neg (by simpa [q_c1] using z)] at kk; exact kk)
      · cases h
    · cases h
  · rename_i cnd off
    split at h
    · rename_i hl
      subst hl
      split at h
      · rename_i y x r
        cases ht : q_tgt pc off with
        | none => rw [ht] at h; cases h
        | some tt =>
          rw [ht] at h
          obtain ⟨rfl, rfl⟩ : (if q_c2 cnd x y = true then tt else pc + 3) = t ∧ r = st' := by cases h; exact ⟨rfl, rfl⟩
          have g := q_tgte ht
          cases cnd with
          | eq => exact lv_icmp_eq hx hb hd g (fun z => by rw [if_pos (by simpa [q_c2] using z)] at kk; exact kk) (fun z => by rw [if_neg (by simpa [q_c2] using z)] at kk; exact kk)
          | ne => exact lv_icmp_ne hx hb hd g (fun z => by rw [if_pos (by simpa [q_c2] using z)] at kk; exact kk) (fun z => by rw [if_neg (by simpa [q_c2] using z)] at kk; exact kk)
          | lt => exact lv_icmp_lt hx hb hd g (fun z => by rw [if_pos (by simpa [q_c2] using z)] at kk; exact kk) (fun z => by rw [if_neg (by simpa [q_c2] using z)] at kk; exact kk)
          | ge => exact lv_icmp_ge hx hb hd g (fun z => by rw [if_pos (by simpa [q_c2] using z)] at kk; exact kk) (fun z => by rw [if_neg (by simpa [q_c2] using z)] at kk; exact kk)
          | gt => exact lv_icmp_gt hx hb hd g (fun z => by rw [if_pos (by simpa [q_c2] using z)] at kk; exact kk) (fun z => by rw [if_neg (by simpa [q_c2] using z)] at kk; exact kk)
          | le => exact lv_icmp_le hx hb hd g (fun z => by rw [if_pos (by simpa [q_c2] using z)] at kk; exact kk) (fun z => by rw [if_neg (by simpa [q_c2] using z)] at kk; exact kk)
      · cases h
    · cases h
  · rename_i d lo hi offs
    split at h
    · rename_i x r
      obtain ⟨h1, rfl⟩ := q_mapt h
      unfold q_tsw at h1
      split at h1
      · rename_i ho
        exact lv_tableOut hx hb hd ho (q_tgte h1) kk
      · rename_i ho
        split at h1
        · rename_i o hoo
          exact lv_tableIn hx hb hd (fun q => ho (Or.inl q)) (fun q => ho (Or.inr q)) hoo (q_tgte h1) kk
        · cases h1
    · cases h
  · rename_i d ps
    split at h
    · rename_i x r
      obtain ⟨h1, rfl⟩ := q_mapt h
      unfold q_lsw at h1
      split at h1
      · rename_i ho
        exact lv_lookup hx hb hd ho rfl (q_tgte h1) kk
      · cases h1
    · cases h
  · cases h
end QB
