/-! WHOLE_START -/
theorem w_arr {s : State} {args : Array Value} (hts : ∀ w ∈ lw_tbl, w.before args s = true) : ∃ ct : Nat → ClassId, ∀ t, t < 7 → ArrOfT s (ct t) (q_aty t) ∧ va_RA s (ct t) (q_aty t) := by
  have h : ∀ t : Nat, ∃ c : ClassId, t < 7 → ArrOfT s c (q_aty t) ∧ va_RA s c (q_aty t) := fun t => by
    by_cases ht : t < 7
    · rcases (show t = 0 ∨ t = 1 ∨ t = 2 ∨ t = 3 ∨ t = 4 ∨ t = 5 ∨ t = 6 by omega) with rfl | rfl | rfl | rfl | rfl | rfl | rfl
      · obtain ⟨c, k, comp, f1, f2, f3⟩ := Cond.arrayClass_spec (hts _ g_arr.1)
        exact ⟨c, fun _ => ⟨fun n z => ⟨fun k h => (by cases h), k, f2, comp, f3⟩, f1⟩⟩
      · obtain ⟨c, k, comp, f1, f2, f3⟩ := Cond.arrayClass_spec (hts _ g_arr.2.1)
        exact ⟨c, fun _ => ⟨fun n z => ⟨fun k h => (by cases h), k, f2, comp, f3⟩, f1⟩⟩
      · obtain ⟨c, k, comp, f1, f2, f3⟩ := Cond.arrayClass_spec (hts _ g_arr.2.2.1)
        exact ⟨c, fun _ => ⟨fun n z => ⟨fun k h => (by cases h), k, f2, comp, f3⟩, f1⟩⟩
      · obtain ⟨c, k, comp, f1, f2, f3⟩ := Cond.arrayClass_spec (hts _ g_arr.2.2.2)
        exact ⟨c, fun _ => ⟨fun n z => ⟨fun k h => (by cases h), k, f2, comp, f3⟩, f1⟩⟩
      · obtain ⟨comp, c, k, e1, -, e3, e4, e5⟩ := Cond.arrayOver_spec (hts _ g_t5.1)
        exact ⟨c, fun _ => ⟨fun n z => ⟨fun k h => (by cases h), k, e3, comp, e4⟩, k, comp, e3, e4, e1, e5⟩⟩
      · obtain ⟨comp, c, k, e1, -, e3, e4, e5⟩ := Cond.arrayOver_spec (hts _ g_t5.2.1)
        exact ⟨c, fun _ => ⟨fun n z => ⟨fun k h => (by cases h), k, e3, comp, e4⟩, k, comp, e3, e4, e1, e5⟩⟩
      · obtain ⟨comp, c, k, e1, e3, e4, e5⟩ := Cond.arrayOver_specA (hts _ g_t5.2.2)
        exact ⟨c, fun _ => ⟨fun n z => ⟨fun k h => (by cases h), k, e3, comp, e4⟩, e5⟩⟩
    · exact ⟨0, fun z => absurd z ht⟩
  exact Classical.axiomOfChoice h
theorem whole_start {p : Program} {e : Env} {s : State} {m : MethodId} {below : List Frame} {meth : Method} {c : Code} (l : Launch) (hflags : l.flags = flags0) {b L : Nat} {xs : Nat → Int32} (hL : L ≤ 3072) (C0 : lw_At p s m meth c b L xs) (hn : meth.name = (q_y 201).name) : W p l e room_1 s m #[Value.ref b] below meth c s.heap [] 0 0 (lw_Z below #[Value.ref b] s) (entryFrame m ([Value.ref b] : List Value).toArray 4) := by
  obtain ⟨hx, hb, hr, hml, hown, hts, hX, hbl, hlocks, hgv⟩ := id C0
  obtain ⟨ad, sv, e4, hsv, hXX⟩ := w_world hts hgv hX hbl
  obtain ⟨D, hD⟩ := w_cls hts
  obtain ⟨ct, hct⟩ := w_arr hts
  have hK : va_K D vwCl (q_tys ct) s := ⟨hD, fun k q hk => by
    by_cases hk7 : k < 7
    · rw [q_tys_get hk7] at hk
      cases hk
      exact hct k hk7
    · rw [List.getElem?_eq_none (by rw [q_tys_len]; omega)] at hk
      cases hk⟩
  exact whole_core l hL C0 e4 ⟨hx, hb, hml, hown, fun w hw => hts w (q_ws_tbl w hw), hK, hn, by decide, by decide, fun q h => h⟩ ⟨fun k q h => by simp [q_W] at h, ⟨fun i j p q h => by simp [q_W] at h, fun k q h => by simp [q_W] at h⟩, fun a _ => rfl, hXX, hsv, by omega⟩
