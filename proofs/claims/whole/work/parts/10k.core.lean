/-! THE WHOLE, once the world is known -/
theorem whole_core {p : Program} {e : Env} {s : State} {m : MethodId} {below : List Frame} {meth : Method} {c : Code} (l : Launch) {b L : Nat} {xs : Nat → Int32} (hL : L ≤ 3072) (C0 : lw_At p s m meth c b L xs) {D : va_G} {ct : Nat → ClassId} {ad : Nat → Nat} {sv : Value} (hb0 : ad 1300 = b) (hC : q_C p room_1 s m #[Value.ref b] meth c 201 11 D ct (fun q : Nat => s.heap.size ≤ q)) (hG : q_G D ct (fun q : Nat => s.heap.size ≤ q) ad sv L xs s (q_ro L xs) 0 s.heap) : W p l e room_1 s m #[Value.ref b] below meth c s.heap [] 0 0 (lw_Z below #[Value.ref b] s) (entryFrame m ([Value.ref b] : List Value).toArray 4) := by
  obtain ⟨hx, hb, hr, hml, hown, hts, hX, hbl, hlocks, hgv⟩ := id C0
  obtain ⟨n, r, h', N', S', hrun, hr1, hr2, hr3⟩ := run_law (SL := L) (xs := xs) (by omega)
  subst hr1 hr2 hr3
  have hh := q_has_ent (ad := ad) (sv := sv) hG.2.2.2.2.1 (As := [.ref 1300]) (n := 4) (by decide)
  have e1 : ([.ref 1300] : List Value).map (q_cv ad sv) = [.ref b] := by
    show [Value.ref (ad 1300)] = _
    rw [hb0]
  rw [e1] at hh
  rw [lg_entry_eq]
  refine q_sound l n 11 201 0 _ [] _ 0 0 _ h' _ _ hrun p e room_1 s m _ below meth c s.heap [] 0 0 _ _ ad sv D ct _ L xs hC hG hh rfl va_S.rf (by decide) (by decide) (fun ad' pc' ls' H1 locs1 hag G1 hS1 hrok => ?_)
  refine va_forget (fun q hq => hS1.2.2 q hq) ?_
  refine W.widen (k := 600000) (n := 7302250) (by decide) (by decide) ?_
  have hz := @lw_ret p l e s m below meth c b hx hb hr hlocks pc' H1 ls' hrok.1
  exact hz
