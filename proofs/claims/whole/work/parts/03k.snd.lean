/-! THE ABSTRACT MACHINE IS SOUND, X: every run -/
theorem q_end_res {M N S N' S' : Nat} {i : Instr} {h h' : q_H} {st : List Value} {r : Option Value} (hh : q_end M i st h N S = some (r, h', N', S')) (ad : Nat → Nat) (sv : Value) : r.toList.map (q_cv ad sv) = r.toList := by
  unfold q_end at hh
  split at hh
  · split at hh
    · split at hh
      · cases hh; rfl
      · cases hh
    · cases hh
  · split at hh
    · split at hh
      · cases hh; rfl
      · cases hh
    · cases hh
  · split at hh
    · split at hh
      · cases hh; rfl
      · cases hh
    · cases hh
  · cases hh
theorem q_run_res (ad : Nat → Nat) (sv : Value) : ∀ (n d M pc : Nat) (L : q_L) (st : List Value) (h : q_H) (N S : Nat) (r : Option Value) (h' : q_H) (N' S' : Nat), q_run n d M pc L st h N S = some (r, h', N', S') → r.toList.map (q_cv ad sv) = r.toList
  | 0, d, M, pc, L, st, h, N, S, r, h', N', S', hr => by rw [q_run] at hr; cases hr
  | n + 1, d, M, pc, L, st, h, N, S, r, h', N', S', hr => by
    rw [q_run] at hr
    split at hr
    · cases hr
    · split at hr
      · rename_i rr he
        split at hr
        · cases hr
          exact q_end_res he ad sv
        · cases hr
      · split at hr
        · split at hr
          · cases hr
          · split at hr
            · split at hr
              · split at hr
                · exact q_run_res ad sv n _ _ _ _ _ _ _ _ _ _ _ _ hr
                · cases hr
              · cases hr
            · cases hr
        · split at hr
          · exact q_run_res ad sv n _ _ _ _ _ _ _ _ _ _ _ _ hr
          · cases hr
theorem q_calE {o k M' : Nat} {i : Instr} (h : q_cal o i = some (k, M')) : (k = 0 ∧ ∃ j, i = .invokevirtual j ∧ q_inv o j = some (0, M')) ∨ (k = 1 ∧ ∃ j, i = .invokestatic j ∧ q_inv o j = some (1, M')) ∨ (k = 3 ∧ ∃ j, i = .invokestatic j ∧ q_inv o j = some (3, M')) ∨ (k = 2 ∧ ∃ j, i = .invokespecial j ∧ q_inv o j = some (2, M')) ∨ (k = 4 ∧ ∃ j, i = .invokespecial j ∧ q_inv o j = some (4, M')) := by
  unfold q_cal at h
  split at h
  · split at h
    · rename_i M hi; cases h; exact Or.inl ⟨rfl, _, rfl, hi⟩
    · cases h
  · split at h
    · rename_i M hi; cases h; exact Or.inr (Or.inl ⟨rfl, _, rfl, hi⟩)
    · rename_i M hi; cases h; exact Or.inr (Or.inr (Or.inl ⟨rfl, _, rfl, hi⟩))
    · cases h
  · split at h
    · rename_i M hi; cases h; exact Or.inr (Or.inr (Or.inr (Or.inl ⟨rfl, _, rfl, hi⟩)))
    · rename_i M hi; cases h; exact Or.inr (Or.inr (Or.inr (Or.inr ⟨rfl, _, rfl, hi⟩)))
    · cases h
  · cases h
theorem q_goodW (M' : Nat) (hM : M' < 201) : GoodIn q_ws (Cond.code (q_y M') (q_code M') (q_ml M') (q_ret M') :: q_ws) := fun w hw => by
  rcases List.mem_cons.mp hw with rfl | h
  · exact q_gd (q_ws_code hM)
  · exact q_gd h
section QI
variable {p : Program} {l : Launch} {e : Env} {R : Room} {s : State} {m : MethodId} {args : Array Value} {below : List Frame} {meth : Method} {c : Code} {H : Heap} {locs : List Loc} {cells slots : Nat} {Q : State → Prop}
variable {pc : Nat} {ls : Array Slot} {ad : Nat → Nat} {sv : Value} {M d : Nat} {D : va_G} {ct : Nat → ClassId} {A : Nat → Prop} {SL : Nat} {xs : Nat → Int32} {h : q_H} {N : Nat}
theorem q_recv (C : q_C p R s m args meth c M d D ct A) (G : q_G D ct A ad sv SL xs s h N H) (hS : va_S A s.heap H locs) {ci : Nat} {v : Value} (hci : ci < 14) (hr : q_rcv ci h N v = true) : ∃ b : Nat, v = .ref b ∧ ∃ cellB : Cell, H[ad b]? = some cellB ∧ cellB.vm.isStatics = false ∧ s.vm.findClass (q_cn ci) = some cellB.cls := by
  obtain ⟨hx, hb, hml, hown, hts, hK, -, hfr, hlo, hA⟩ := C
  obtain ⟨hP, hD, hro, hX, hsv, hN⟩ := G
  unfold q_rcv at hr
  split at hr
  · rename_i a0
    obtain ⟨a, ea0⟩ : ∃ a : Nat, a = a0 := ⟨a0, rfl⟩
    subst ea0
    rw [Bool.and_eq_true] at hr
    obtain ⟨h1, h2⟩ := hr
    have h1 : a < N ∨ 1000 ≤ a := of_decide_eq_true h1
    refine ⟨a, rfl, ?_⟩
    split at h2
    · rename_i cj fs he
      have hcj : cj = ci := eq_of_beq h2
      subst hcj
      by_cases haN : a < N
      · have hw := q_W_get (ad := ad) (sv := sv) (ct := ct) (h := h) haN
        rw [he] at hw
        obtain ⟨rr, hrr, -⟩ := hP a _ hw
        have := va_recv hK hP hrr hw
        rw [(q_cl_ty hrr).2.2] at this
        exact this
      · rw [hro a (by omega)] at he
        unfold q_ro at he
        split at he
        · rename_i h8
          cases he
          have hi : a - 1000 < 8 := by omega
          have := vk_recv hX.1 hi hS
          rw [show 1000 + (a - 1000) = a by omega] at this
          exact this
        · split at he
          · exact absurd he (by unfold q_rob; exact fun z => Sum.inl_ne_inr z)
          · split at he
            · cases he
            · split at he
              · cases he
              · cases he
                omega
    · cases h2
  · cases hr
end QI
theorem q_sound (l : Launch) : ∀ n, q_Snd l n
  | 0 => fun d M pc L st h N S r h' N' S' hr => by rw [q_run] at hr; cases hr
  | n + 1 => by
    intro d M pc L st h N S r h' N' S' hr p e R s m args below meth c H locs cells slots Q ls ad sv D ct A SL xs C G hh hL hS hc hs kk
    have IH := q_sound l n
    have hN : N ≤ 900 := G.2.2.2.2.2
    have hsv := G.2.2.2.2.1
    rw [q_run] at hr
    split at hr
    · cases hr
    · rename_i i len hdec
      split at hr
      · rename_i rr he
        split at hr
        · rename_i hl
          subst hl
          cases hr
          obtain ⟨hrok, est⟩ := q_endE (ad := ad) (sv := sv) he hdec
          obtain ⟨rfl, rfl, rfl⟩ := q_end_keep he
          rw [est]
          have := kk ad pc ls H locs (fun _ _ => rfl) G hS hrok
          simpa only [Nat.sub_self, Nat.add_zero] using this
        · cases hr
      · split at hr
        · rename_i k M' hcal
          split at hr
          · cases hr
          · rename_i d'
            split at hr
            · rename_i hlm
              obtain ⟨hl, hmay⟩ := hlm
              subst hl
              split at hr
              · rename_i r1 h1 N1 S1 hrun
                split at hr
                · rename_i hwf
                  have k1 := q_run_keep n _ _ _ _ _ _ _ _ _ _ _ _ hN hrun
                  have k2 := q_run_keep n _ _ _ _ _ _ _ _ _ _ _ _ k1.2.2.1 hr
                  have kN1 := k1.1
                  have kS1 := k1.2.1
                  have kN2 := k2.1
                  have kS2 := k2.2.1
                  have kN9 := k1.2.2.1
                  have kN9' := k2.2.2.1
                  generalize hAs : (st.take (q_na M')).reverse = As at hrun hmay
                  generalize hrest : st.drop (q_na M') = rest at hr hwf hmay
                  have hst : st = As.reverse ++ rest := by rw [← hAs, ← hrest, List.reverse_reverse, List.take_append_drop]
                  unfold q_may at hmay
                  rw [Bool.and_eq_true, Bool.and_eq_true, Bool.and_eq_true] at hmay
                  obtain ⟨⟨⟨hna, hsum⟩, hent⟩, hkind⟩ := hmay
                  have hna : q_na M' ≤ st.length := of_decide_eq_true hna
                  rw [hrest] at hsum
                  have hsum : (rest.map fun v => v.category).sum ≤ 8 := of_decide_eq_true hsum
                  rw [hAs] at hent hkind
                  have hent : (q_ent As).length ≤ q_ml M' := of_decide_eq_true hent
                  have hAl : As.length = q_na M' := by rw [← hAs, List.length_reverse, List.length_take]; omega
                  have hsz : ls.size = q_ml M := by rw [hh.1, ← hL]; exact List.length_map ..
                  have cont : ∀ (ad' : Nat → Nat) (H1 : Heap) (locs1 : List Loc), (∀ a : Nat, a < N ∨ N1 ≤ a → ad' a = ad a) → va_P D vwCl (q_W ad' sv ct N1 h1) H1 → va_D A (q_W ad' sv ct N1 h1) → va_S A s.heap H1 locs1 → W p l e R s m args below meth c H1 locs1 (cells + (N1 - N)) (slots + (S1 - S)) Q (F0 m (pc + 3) ls (r1.toList ++ rest.map (q_cv ad sv))) := by
                    intro ad' H1 locs1 hag hP1 hD1 hS1
                    have G1 : q_G D ct A ad' sv SL xs s h1 N1 H1 := ⟨hP1, hD1, fun a ha => (k1.2.2.2 a ha).trans (G.2.2.1 a ha), q_X_up (fun a ha => hag a (by omega)) G.2.2.2.1, hsv, kN9⟩
                    have heq : q_cL ad' sv L = q_cL ad sv L ∧ rest.map (q_cv ad' sv) = rest.map (q_cv ad sv) := by
                      rcases hwf with e | wf
                      · have ea : ad' = ad := funext fun a => hag a (by omega)
                        rw [ea]
                        exact ⟨rfl, rfl⟩
                      · exact ⟨q_cL_up (fun a h => hag a (by omega)) wf.1, q_cvs_up (fun a h => hag a (by omega)) wf.2.1⟩
                    rw [← heq.2, ← q_run_res ad' sv n _ _ _ _ _ _ _ _ _ _ _ _ hrun, ← List.map_append]
                    refine IH (d' + 1) M (pc + 3) L (r1.toList ++ rest) h1 N1 S1 r h' N' S' hr p e R s m args below meth c H1 locs1 (cells + (N1 - N)) (slots + (S1 - S)) Q ls ad' sv D ct A SL xs C G1 (by rw [heq.1]; exact hh) hL hS1 (by omega) (by omega) (fun ad2 pc2 ls2 H2 locs2 hag2 G2 hS2 hrok => ?_)
                    have := kk ad2 pc2 ls2 H2 locs2 (fun a ha => (hag2 a (by omega)).trans (hag a (by omega))) G2 hS2 hrok
                    rw [show cells + (N1 - N) + (N' - N1) = cells + (N' - N) by omega, show slots + (S1 - S) + (S' - S1) = slots + (S' - S) by omega]
                    exact this
                  obtain ⟨hx, hb, hml, hown, hts, hK, hnm, hfr, hlo, hA⟩ := id C
                  have hstk : st.map (q_cv ad sv) = (As.map (q_cv ad sv)).reverse ++ rest.map (q_cv ad sv) := by rw [hst, List.map_append, List.map_reverse]
                  have hroom : 2 * (F0 m pc ls (st.map (q_cv ad sv))).monitorRoom + ((rest.map (q_cv ad sv)).map fun v => v.category).sum ≤ 8 := lv_room (by rw [q_cv_sum hsv]; exact hsum)
                  obtain ⟨hbl, hpre⟩ := q_pre C G hS (As := As)
                  have hM' : ∀ {j z}, q_inv (q_own M) j = some (z, M') → z < 5 → M' < 201 := fun hi hz => q_invM _ (q_inv_mem hi) hz
                  have hR : ∀ hM : M' < 201, (q_rm d' (N1 - N) (S1 - S)).frames + 1 ≤ R.frames ∧ 8 + (q_ml M' + 11) + (q_rm d' (N1 - N) (S1 - S)).locals ≤ R.locals := fun hM => by
                    have h13 : q_ml M' ≤ 13 := (q_tabM _ (q_meth_mem hM)).2.2.2.2.1
                    exact ⟨hfr, by show 8 + (q_ml M' + 11) + 32 * (d' + 1) ≤ R.locals; omega⟩
                  have hf : cells + (N1 - N) ≤ R.cells ∧ slots + (S1 - S) ≤ R.slots := ⟨by omega, by omega⟩
                  rcases q_calE hcal with ⟨rfl, j, rfl, hi⟩ | ⟨rfl, j, rfl, hi⟩ | ⟨rfl, j, rfl, hi⟩ | ⟨rfl, j, rfl, hi⟩ | ⟨rfl, j, rfl, hi⟩
                  · have hM := hM' hi (by decide)
                    have hMet := q_met IH hrun hent hM D ct A ad sv SL xs
                    obtain ⟨t1, t2, t3, t4, t5, t6⟩ := q_tabM _ (q_meth_mem hM)
                    obtain ⟨hpar, hpos⟩ := q_invN _ (q_inv_mem hi) (by simp)
                    match As, hkind, hAl, hstk, hbl, hpre, hMet with
                    | [], hkind, hAl, hstk, hbl, hpre, hMet => cases hkind
                    | v :: As0, hkind, hAl, hstk, hbl, hpre, hMet =>
                      obtain ⟨b, rfl, hrecv⟩ := q_recv C G hS t6 hkind
                      have hcls : q_cn (q_own M') = (q_y M').cls := t1.symm
                      rw [show q_cn (q_meth M').1 = (q_y M').cls from hcls] at hrecv
                      have ww : ∀ w ∈ q_winv (q_own M, j, 0, M'), w ∈ q_ws := fun w hw => q_ws_inv (q_inv_mem hi) hw
                      have hG : GoodIn q_ws (wsV (q_cn (q_own M)) j (q_y M').cls (q_y M') (Cond.code (q_y M') (q_code M') (q_ml M') (q_ret M') :: q_ws)) := by
                        intro w hw
                        rcases List.mem_append.mp hw with hw | hw
                        · rcases List.mem_cons.mp hw with rfl | hw
                          · exact q_gd (ww _ List.mem_cons_self)
                          · rcases List.mem_cons.mp hw with rfl | hw
                            · exact q_gd (ww _ (List.mem_cons_of_mem _ List.mem_cons_self))
                            · rcases List.mem_cons.mp hw with rfl | hw
                              · rw [← hcls]
                                exact q_gd (ww _ (List.mem_cons_of_mem _ (List.mem_cons_of_mem _ List.mem_cons_self)))
                              · rcases List.mem_cons.mp hw with rfl | hw
                                · rw [← hcls]
                                  exact q_gd (q_ws_ini t6)
                                · exact absurd hw List.not_mem_nil
                        · exact q_goodW M' hM w hw
                      have cw : CallW R s args (q_cn (q_own M)) (q_y M').cls j (q_y M') (q_code M') (q_ml M') (q_ret M') (Cond.code (q_y M') (q_code M') (q_ml M') (q_ret M') :: q_ws) (q_rm d' (N1 - N) (S1 - S)) (N1 - N) (S1 - S) (q_na M' - 1) := cwV (q_na M' - 1) hts hG rfl rfl rfl ⟨rfl, t2, t3, hpar⟩ (hR hM)
                      refine q_after (va_runV ⟨hx, hb, hml, hown, hts⟩ hMet cw ⟨hbl, hrecv, hpre⟩ rfl ?_ hsz ?_ hroom hdec hf) hS cont
                      · rw [List.length_map, ← hAl]; rfl
                      · show st.map (q_cv ad sv) = (As0.map (q_cv ad sv)).reverse ++ .ref (ad b) :: rest.map (q_cv ad sv)
                        rw [hstk, List.map_cons, List.reverse_cons, List.append_assoc]
                        rfl
                  · have hM := hM' hi (by decide)
                    have hMet := q_met IH hrun hent hM D ct A ad sv SL xs
                    obtain ⟨t1, t2, t3, t4, t5, t6⟩ := q_tabM _ (q_meth_mem hM)
                    obtain ⟨hpar, hpos⟩ := q_invN _ (q_inv_mem hi) (by simp)
                    have hcls : q_cn (q_own M') = (q_y M').cls := t1.symm
                    have ww : ∀ w ∈ q_winv (q_own M, j, 1, M'), w ∈ q_ws := fun w hw => q_ws_inv (q_inv_mem hi) hw
                    have hG : GoodIn q_ws (va_wsS (q_cn (q_own M)) j (q_y M') (Cond.code (q_y M') (q_code M') (q_ml M') (q_ret M') :: q_ws)) := by
                      intro w hw
                      rcases List.mem_append.mp hw with hw | hw
                      · rcases List.mem_cons.mp hw with rfl | hw
                        · exact q_gd (ww _ List.mem_cons_self)
                        · rcases List.mem_cons.mp hw with rfl | hw
                          · exact q_gd (ww _ (List.mem_cons_of_mem _ List.mem_cons_self))
                          · rcases List.mem_cons.mp hw with rfl | hw
                            · rw [← hcls]
                              exact q_gd (q_ws_ini t6)
                            · exact absurd hw List.not_mem_nil
                      · exact q_goodW M' hM w hw
                    have cw := va_cwS (R := R) (s := s) (args := args) (own := q_cn (q_own M)) (index := j) (y := q_y M') (bytes := q_code M') (maxL := q_ml M') (mc := N1 - N) (ms := S1 - S) (ret := q_ret M') (rm := q_rm d' (N1 - N) (S1 - S)) (q_na M') hts hG rfl rfl rfl ⟨t2, t3, hpar⟩ (hR hM)
                    refine q_after (va_runS ⟨hx, hb, hml, hown, hts⟩ hMet cw ⟨hbl, hpre⟩ rfl ?_ hsz ?_ hroom hdec hf) hS cont
                    · rw [List.length_map, ← hAl]
                    · exact hstk
                  · have hM := hM' hi (by decide)
                    have hMet := q_met IH hrun hent hM D ct A ad sv SL xs
                    obtain ⟨t1, t2, t3, t4, t5, t6⟩ := q_tabM _ (q_meth_mem hM)
                    obtain ⟨hpar, hpos⟩ := q_invN _ (q_inv_mem hi) (by simp)
                    have hcls : q_cn (q_own M') = (q_y M').cls := t1.symm
                    have ww : ∀ w ∈ q_winv (q_own M, j, 3, M'), w ∈ q_ws := fun w hw => q_ws_inv (q_inv_mem hi) hw
                    have hnest := G.2.2.2.1.2.2.2.2.2.2.2.1 _ (q_invX _ (q_inv_mem hi) (Or.inl rfl))
                    have hini : (Cond.initialized (q_y M').cls).before args s = true := by rw [← hcls]; exact hts _ (q_ws_ini t6)
                    have cw := va_cnB (R := R) (s := s) (args := args) (own := q_cn (q_own M)) (host := RX7) (index := j) (y := q_y M') (bytes := q_code M') (maxL := q_ml M') (mc := N1 - N) (ms := S1 - S) (ret := q_ret M') (rm := q_rm d' (N1 - N) (S1 - S)) (q_na M') hts (q_goodW M' hM) rfl rfl rfl hnest hini ⟨t2, t3, hpar⟩ (hR hM)
                    refine q_after (va_runSN ⟨hx, hb, hml, hown, hts⟩ hMet ⟨cw, hts _ (ww _ List.mem_cons_self), trivial⟩ ⟨hbl, hpre⟩ rfl ?_ hsz ?_ hroom hdec hf) hS cont
                    · rw [List.length_map, ← hAl]
                    · exact hstk
                  · have hM := hM' hi (by decide)
                    have hMet := q_met IH hrun hent hM D ct A ad sv SL xs
                    obtain ⟨t1, t2, t3, t4, t5, t6⟩ := q_tabM _ (q_meth_mem hM)
                    obtain ⟨hpar, hpos⟩ := q_invN _ (q_inv_mem hi) (by simp)
                    obtain ⟨hn1, hn2⟩ := q_invI _ (q_inv_mem hi) (Or.inl rfl)
                    match As, hkind, hAl, hstk, hbl, hpre, hMet with
                    | [], hkind, hAl, hstk, hbl, hpre, hMet => cases hkind
                    | v :: As0, hkind, hAl, hstk, hbl, hpre, hMet =>
                      obtain ⟨b, rfl⟩ : ∃ b, v = .ref b := by cases v <;> first | exact ⟨_, rfl⟩ | cases hkind
                      have hcls : q_cn (q_own M') = (q_y M').cls := t1.symm
                      have ww : ∀ w ∈ q_winv (q_own M, j, 2, M'), w ∈ q_ws := fun w hw => q_ws_inv (q_inv_mem hi) hw
                      have hini : (Cond.initialized (q_y M').cls).before args s = true := by rw [← hcls]; exact hts _ (q_ws_ini t6)
                      have hn2 : q_ret M' = none := hn2
                      have hgw := q_goodW M' hM
                      rw [hn2] at hMet hgw
                      have cw := cwI (R := R) (s := s) (args := args) (own := q_cn (q_own M)) (index := j) (y := q_y M') (bytes := q_code M') (maxL := q_ml M') (mc := N1 - N) (ms := S1 - S) (rm := q_rm d' (N1 - N) (S1 - S)) (q_na M' - 1) hts hgw rfl rfl rfl hini (hts _ (ww _ List.mem_cons_self)) (hts _ (ww _ (List.mem_cons_of_mem _ List.mem_cons_self))) hn1 ⟨t2, t3, hpar⟩ (hR hM)
                      refine q_after (va_runI ⟨hx, hb, hml, hown, hts⟩ hMet cw ⟨hbl, hpre⟩ rfl ?_ hsz ?_ hroom hdec hf) hS cont
                      · rw [List.length_map, ← hAl]; rfl
                      · show st.map (q_cv ad sv) = (As0.map (q_cv ad sv)).reverse ++ .ref (ad b) :: rest.map (q_cv ad sv)
                        rw [hstk, List.map_cons, List.reverse_cons, List.append_assoc]
                        rfl
                  · have hM := hM' hi (by decide)
                    have hMet := q_met IH hrun hent hM D ct A ad sv SL xs
                    obtain ⟨t1, t2, t3, t4, t5, t6⟩ := q_tabM _ (q_meth_mem hM)
                    obtain ⟨hpar, hpos⟩ := q_invN _ (q_inv_mem hi) (by simp)
                    obtain ⟨hn1, hn2⟩ := q_invI _ (q_inv_mem hi) (Or.inr rfl)
                    match As, hkind, hAl, hstk, hbl, hpre, hMet with
                    | [], hkind, hAl, hstk, hbl, hpre, hMet => cases hkind
                    | v :: As0, hkind, hAl, hstk, hbl, hpre, hMet =>
                      obtain ⟨b, rfl⟩ : ∃ b, v = .ref b := by cases v <;> first | exact ⟨_, rfl⟩ | cases hkind
                      have hcls : q_cn (q_own M') = (q_y M').cls := t1.symm
                      have ww : ∀ w ∈ q_winv (q_own M, j, 4, M'), w ∈ q_ws := fun w hw => q_ws_inv (q_inv_mem hi) hw
                      have hnest := G.2.2.2.1.2.2.2.2.2.2.2.1 _ (q_invX _ (q_inv_mem hi) (Or.inr rfl))
                      have hini : (Cond.initialized (q_y M').cls).before args s = true := by rw [← hcls]; exact hts _ (q_ws_ini t6)
                      have hn2 : q_ret M' = none := hn2
                      have hgw := q_goodW M' hM
                      rw [hn2] at hMet hgw
                      have cw := va_cnB (R := R) (s := s) (args := args) (own := q_cn (q_own M)) (host := RX7) (index := j) (y := q_y M') (bytes := q_code M') (maxL := q_ml M') (mc := N1 - N) (ms := S1 - S) (ret := none) (rm := q_rm d' (N1 - N) (S1 - S)) (q_na M' - 1) hts hgw rfl rfl rfl hnest hini ⟨t2, t3, hpar⟩ (hR hM)
                      refine q_after (va_runIN ⟨hx, hb, hml, hown, hts⟩ hMet ⟨cw, hn1, hts _ (ww _ List.mem_cons_self)⟩ ⟨hbl, hpre⟩ rfl ?_ hsz ?_ hroom hdec hf) hS cont
                      · rw [List.length_map, ← hAl]; rfl
                      · show st.map (q_cv ad sv) = (As0.map (q_cv ad sv)).reverse ++ .ref (ad b) :: rest.map (q_cv ad sv)
                        rw [hstk, List.map_cons, List.reverse_cons, List.append_assoc]
                        rfl
                · cases hr
              · cases hr
            · cases hr
        · split at hr
          · rename_i pc1 L1 st1 h1 N1 S1 hins
            have k1 := q_ins_keep hN hins
            have k2 := q_run_keep n _ _ _ _ _ _ _ _ _ _ _ _ k1.2.2.1 hr
            have kN1 := k1.1
            have kS1 := k1.2.1
            have kN2 := k2.1
            have kS2 := k2.2.1
            refine q_ins_snd C G hS hh hL hins hdec (by omega) (by omega) (fun ad' ls' H1 locs1 hag G1 hh1 hL1 hS1 => ?_)
            refine IH d M pc1 L1 st1 h1 N1 S1 r h' N' S' hr p e R s m args below meth c H1 locs1 (cells + (N1 - N)) (slots + (S1 - S)) Q ls' ad' sv D ct A SL xs C G1 hh1 hL1 hS1 (by omega) (by omega) (fun ad2 pc2 ls2 H2 locs2 hag2 G2 hS2 hrok => ?_)
            have := kk ad2 pc2 ls2 H2 locs2 (fun a ha => (hag2 a (by omega)).trans (hag a (by omega))) G2 hS2 hrok
            rw [show cells + (N1 - N) + (N' - N1) = cells + (N' - N) by omega, show slots + (S1 - S) + (S' - S1) = slots + (S' - S) by omega]
            exact this
          · cases hr
