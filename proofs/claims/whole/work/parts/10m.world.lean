/-! THE WORLD at the law's entry: all that nobody writes -/
theorem g_sets : ∀ j, j < 6 → Cond.eq (.elem (.static "LadenEmpty$Search" "SETS_WITH" "[J") (.int (Int32.ofNat j))) (.long (q_sets j)) ∈ flatC (Jvm.Cond.and given_1 narrow_1) := by decide +kernel
theorem g_s1 : Cond.arrayOf (.static "LadenEmpty$Search" "SETS_WITH" "[J") .long ∈ flatC (Jvm.Cond.and given_1 narrow_1) := by decide +kernel
theorem g_s2 : Cond.eq (.length (.static "LadenEmpty$Search" "SETS_WITH" "[J")) (.int (Int32.ofNat 6)) ∈ flatC (Jvm.Cond.and given_1 narrow_1) := by decide +kernel
theorem g_s3 : Cond.eq (.static "java/lang/String" "COMPACT_STRINGS" "Z") (.int 1) ∈ flatC (Jvm.Cond.and given_1 narrow_1) := by decide +kernel
theorem g_s4 : Cond.isRef (.static "jdk/internal/util/Preconditions" "SIOOBE_FORMATTER" "Ljava/util/function/BiFunction;") ∈ flatC (Jvm.Cond.and given_1 narrow_1) := by decide +kernel
theorem g_t1 : Cond.laysStatic "LadenEmpty$Search" "SETS_WITH" "[J" ∈ lw_tbl ∧ Cond.initialized "LadenEmpty$Search" ∈ lw_tbl := by decide +kernel
theorem g_t2 : Cond.laysStatic "java/lang/String" "COMPACT_STRINGS" "Z" ∈ lw_tbl ∧ Cond.initialized "java/lang/String" ∈ lw_tbl := by decide +kernel
theorem g_t3 : Cond.laysStatic "jdk/internal/util/Preconditions" "SIOOBE_FORMATTER" "Ljava/util/function/BiFunction;" ∈ lw_tbl ∧ Cond.initialized "jdk/internal/util/Preconditions" ∈ lw_tbl := by decide +kernel
theorem g_t4 : ∀ w ∈ q_nest, Cond.methodLinkNest w.1 w.2.1 w.2.2 RX7 ∈ lw_tbl := by decide +kernel
theorem g_t5 : Cond.arrayOver (.object "LadenEmpty$Standing") ∈ lw_tbl ∧ Cond.arrayOver (.object "LadenEmpty$Land") ∈ lw_tbl ∧ Cond.arrayOver (.array .int) ∈ lw_tbl := by decide +kernel
theorem g_t6 : ∀ x ∈ q_strL, Cond.stringRef RX6 x.1 x.2 ∈ lw_tbl := by decide +kernel
theorem w_world {s : State} {b L : Nat} {xs : Nat → Int32} (hts : ∀ w ∈ lw_tbl, w.before #[Value.ref b] s = true) (hgv : (Jvm.Cond.and given_1 narrow_1).before #[Value.ref b] s = true) (hX : va_X b L xs s s.heap) (hbl : b < s.heap.size) : ∃ (ad : Nat → Nat) (sv : Value), ad 1300 = b ∧ sv.category = 1 ∧ q_X ad sv L xs (fun q : Nat => s.heap.size ≤ q) s s.heap := by
  have hs := flat_of_before _ hgv
  have hA : ∀ a : Nat, a < s.heap.size → ¬ (fun q : Nat => s.heap.size ≤ q) a := fun a h => Nat.not_le.mpr h
  obtain ⟨adK, adV, hS, hE⟩ := w_str hgv hA
  obtain ⟨t, ht, hT⟩ := va_Tof (tm := .static "LadenEmpty$Search" "SETS_WITH" "[J") (ty := .long) (N := 6) (f := fun j => .long (q_sets j)) (by decide) (hs _ g_s1) (va_eqt (hs _ g_s2)) (fun j hj => va_eqtl (hs _ (g_sets j hj))) hA
  have hZ := va_Zref (hts _ g_t1.1) (hts _ g_t1.2) ht hA
  have hC := va_Zof (hts _ g_t2.1) (hts _ g_t2.2) (va_eqi (hs _ g_s3)) hA
  obtain ⟨sv, hsv, hF⟩ : ∃ sv : Value, sv.category = 1 ∧ va_Z "jdk/internal/util/Preconditions" "SIOOBE_FORMATTER" "Ljava/util/function/BiFunction;" sv (fun q : Nat => s.heap.size ≤ q) s s.heap := by
    rcases va_Zqof (hts _ g_t3.1) (hts _ g_t3.2) (hs _ g_s4) hA with h | ⟨t, h⟩
    · exact ⟨_, rfl, h⟩
    · exact ⟨_, rfl, h⟩
  have e1 : ∀ i, i < 8 → (fun a => if a < 1008 then adK (a - 1000) else if a < 1108 then adV (a - 1100) else if a = 1200 then t else b) (1000 + i) = adK i := fun i hi => by
    dsimp only
    rw [if_pos (by omega), Nat.add_sub_cancel_left]
  have e2 : ∀ i, i < 8 → (fun a => if a < 1008 then adK (a - 1000) else if a < 1108 then adV (a - 1100) else if a = 1200 then t else b) (1100 + i) = adV i := fun i hi => by
    dsimp only
    rw [if_neg (by omega), if_pos (by omega), Nat.add_sub_cancel_left]
  generalize hf : (fun a => if a < 1008 then adK (a - 1000) else if a < 1108 then adV (a - 1100) else if a = 1200 then t else b) = ad at e1 e2
  have e3 : ad 1200 = t := by rw [← hf]; rfl
  have e4 : ad 1300 = b := by rw [← hf]; rfl
  refine ⟨ad, sv, e4, hsv, ⟨fun i hi => ?_, fun i j hi hj e => ?_⟩, fun j x hx => ?_, ?_, ?_, hC, hF, ⟨?_, ?_, ?_⟩, fun w hw => va_tabs rfl rfl (hts _ (g_t4 w hw)), va_AO.of (hts _ g_t5.1), va_AO.of (hts _ g_t5.2.1), hts _ g_t5.2.2⟩
  · dsimp only
    rw [e1 i hi, e2 i hi]
    exact hS.1 i hi
  · dsimp only at e
    rw [e1 i hi, e1 j hj] at e
    exact hS.2 i j hi hj e
  · have hj : j < 8 := (List.getElem?_eq_some_iff.mp hx).1
    have he := hE j hj
    have ex : q_strL.getD j (0, "") = x := by rw [List.getD_eq_getElem?_getD, hx]; rfl
    have e5 : strT j = .string "LadenEmpty$Tape" x.1 := by
      unfold strT
      rw [ex]
    rw [e5] at he
    rw [e1 j hj]
    exact vk_R.of (hts _ (g_t6 x (List.mem_of_getElem? hx))) he
  · rw [e3]
    exact hZ
  · rw [e3]
    exact hT
  · rw [e4]
    exact hX
  · rw [e4]
    exact hbl
  · rw [e4]
    exact hA b hbl
