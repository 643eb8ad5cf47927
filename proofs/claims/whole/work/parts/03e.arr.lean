/-! THE ABSTRACT MACHINE IS SOUND, IV: arrays, constants -/
section QD
variable {p : Program} {l : Launch} {e : Env} {R : Room} {s : State} {m : MethodId} {args : Array Value} {below : List Frame} {meth : Method} {c : Code} {H : Heap} {locs : List Loc} {cells slots : Nat} {Q : State → Prop}
variable {pc : Nat} {ls : Array Slot} {ad : Nat → Nat} {sv : Value} {M d : Nat} {D : va_G} {ct : Nat → ClassId} {A : Nat → Prop} {SL : Nat} {xs : Nat → Int32} {h : q_H} {N : Nat}
theorem q_rob_e {i t n : Nat} {f : Nat → Int32} (h : q_rob i = .inl (t, (n, .inl f))) : t = 1 ∧ n = q_slen.getD i 0 ∧ f = (fun j => (q_sbyt.getD i []).getD j 0) := by
  unfold q_rob at h
  cases h
  exact ⟨rfl, rfl, rfl⟩
theorem q_rob_l {i t n : Nat} {w : (Nat → Int64) ⊕ (Nat → UInt32) ⊕ (Nat → UInt64) ⊕ (Nat → Option Nat)} (h : q_rob i = .inl (t, (n, .inr w))) : False := by
  unfold q_rob at h
  cases h
theorem q_ro_int {n : Nat} {f : Nat → Int32} {a : Nat} (h : q_ro SL xs a = .inl (0, (n, .inl f))) : a = 1300 ∧ n = SL ∧ f = xs := by
  unfold q_ro at h
  split at h
  · cases h
  · split at h
    · exact absurd (q_rob_e h).1 (by decide)
    · split at h
      · cases h
      · split at h
        · rename_i e; cases h; exact ⟨e, rfl, rfl⟩
        · cases h
theorem q_ro_byte {n t : Nat} {f : Nat → Int32} {a : Nat} (ht : t ≠ 0) (h : q_ro SL xs a = .inl (t, (n, .inl f))) : t = 1 ∧ ∃ i : Nat, i < 8 ∧ a = 1100 + i ∧ n = q_slen.getD i 0 ∧ f = (fun j => (q_sbyt.getD i []).getD j 0) := by
  unfold q_ro at h
  split at h
  · cases h
  · split at h
    · rename_i e
      obtain ⟨h1, h2, h3⟩ := q_rob_e h
      exact ⟨h1, a - 1100, by omega, by omega, h2, h3⟩
    · split at h
      · cases h
      · split at h
        · cases h; exact absurd rfl ht
        · cases h
theorem q_ro_long {n t : Nat} {f : Nat → Int64} {a : Nat} (h : q_ro SL xs a = .inl (t, (n, .inr (.inl f)))) : t = 2 ∧ a = 1200 ∧ n = 6 ∧ f = q_sets := by
  unfold q_ro at h
  split at h
  · cases h
  · split at h
    · exact absurd h (fun z => q_rob_l z)
    · split at h
      · rename_i e; cases h; exact ⟨rfl, e, rfl, rfl⟩
      · split at h
        · cases h
        · cases h
theorem q_G.up {H1 : Heap} (G : q_G D ct A ad sv SL xs s h N H) {a : Nat} {e2 : q_E} (ha : a < N) (hP : va_P D vwCl ((q_W ad sv ct N h).set a (ad a, q_ce ad sv ct e2)) H1) (hD : va_D A ((q_W ad sv ct N h).set a (ad a, q_ce ad sv ct e2))) : q_G D ct A ad sv SL xs s (q_up h a e2) N H1 := by
  obtain ⟨-, -, hro, hX, hsv, hN⟩ := G
  rw [q_W_set] at hP hD
  refine ⟨hP, hD, fun x hx2 => ?_, hX, hsv, hN⟩
  have : x ≠ a := by omega
  simp only [q_up, if_neg this]
  exact hro x hx2
theorem q_iald_snd (C : q_C p R s m args meth c M d D ct A) (G : q_G D ct A ad sv SL xs s h N H) (hS : va_S A s.heap H locs) {st st' : List Value} (hh : q_iald h N st = some st') (hd : decode (q_code M) pc = .ok (.iaload, 1))
    (kk : W p l e R s m args below meth c H locs cells slots Q (F0 m (pc + 1) ls (st'.map (q_cv ad sv)))) : W p l e R s m args below meth c H locs cells slots Q (F0 m pc ls (st.map (q_cv ad sv))) := by
  obtain ⟨hx, hb, hml, hown, hts, hK, -, -, -, -⟩ := C
  obtain ⟨hP, hD, hro, hX, hsv, hN⟩ := G
  unfold q_iald at hh
  split at hh
  · rename_i i a0 r
    obtain ⟨a, ea0⟩ : ∃ a : Nat, a = a0 := ⟨a0, rfl⟩
    subst ea0
    split at hh
    · rename_i ha
      have ha : a < N ∨ 1000 ≤ a := ha
      split at hh
      · rename_i n f he
        split at hh
        · cases hh
        · rename_i hin
          cases hh
          by_cases haN : a < N
          · have hw := q_W_get (ad := ad) (sv := sv) (ct := ct) (h := h) haN
            rw [he] at hw
            exact va_iald hx hb hK hP a 0 hw (q_tys_get (by omega)) hin hd kk
          · rw [hro a (by omega)] at he
            obtain ⟨rfl, rfl, rfl⟩ := q_ro_int he
            obtain ⟨h1, h2, h3⟩ := hX.2.2.2.2.2.2.1
            exact va_sld hx hb h1 h2 h3 hS hin hd kk
      · cases hh
    · cases hh
  · cases hh
theorem q_bald_snd (C : q_C p R s m args meth c M d D ct A) (G : q_G D ct A ad sv SL xs s h N H) (hS : va_S A s.heap H locs) {st st' : List Value} (hh : q_bald h N st = some st') (hd : decode (q_code M) pc = .ok (.baload, 1))
    (kk : W p l e R s m args below meth c H locs cells slots Q (F0 m (pc + 1) ls (st'.map (q_cv ad sv)))) : W p l e R s m args below meth c H locs cells slots Q (F0 m pc ls (st.map (q_cv ad sv))) := by
  obtain ⟨hx, hb, hml, hown, hts, hK, -, -, -, -⟩ := C
  obtain ⟨hP, hD, hro, hX, hsv, hN⟩ := G
  unfold q_bald at hh
  split at hh
  · rename_i i a0 r
    obtain ⟨a, ea0⟩ : ∃ a : Nat, a = a0 := ⟨a0, rfl⟩
    subst ea0
    split at hh
    · rename_i ha
      have ha : a < N ∨ 1000 ≤ a := ha
      split at hh
      · rename_i n f he
        split at hh
        · cases hh
        · rename_i hin
          cases hh
          by_cases haN : a < N
          · have hw := q_W_get (ad := ad) (sv := sv) (ct := ct) (h := h) haN
            rw [he] at hw
            exact va_bald hx hb hK hP a 1 hw (q_tys_get (by omega)) hin hd kk
          · rw [hro a (by omega)] at he
            obtain ⟨-, j, h1, h2, hn, hf⟩ := q_ro_byte (by decide) he
            subst hn
            subst hf
            subst h2
            have hT := (hX.1.1 j h1).2.2.2
            exact va_tb hx hb hT hS hin rfl hd kk
      · rename_i n f he
        split at hh
        · cases hh
        · rename_i hin
          cases hh
          by_cases haN : a < N
          · have hw := q_W_get (ad := ad) (sv := sv) (ct := ct) (h := h) haN
            rw [he] at hw
            exact va_zald hx hb hK hP a 3 hw (q_tys_get (by omega)) hin hd kk
          · rw [hro a (by omega)] at he
            obtain ⟨h0, -⟩ := q_ro_byte (by decide) he
            exact absurd h0 (by decide)
      · cases hh
    · cases hh
  · cases hh
theorem q_lald_snd (C : q_C p R s m args meth c M d D ct A) (G : q_G D ct A ad sv SL xs s h N H) (hS : va_S A s.heap H locs) {st st' : List Value} (hh : q_lald h N st = some st') (hd : decode (q_code M) pc = .ok (.laload, 1))
    (kk : W p l e R s m args below meth c H locs cells slots Q (F0 m (pc + 1) ls (st'.map (q_cv ad sv)))) : W p l e R s m args below meth c H locs cells slots Q (F0 m pc ls (st.map (q_cv ad sv))) := by
  obtain ⟨hx, hb, hml, hown, hts, hK, -, -, -, -⟩ := C
  obtain ⟨hP, hD, hro, hX, hsv, hN⟩ := G
  unfold q_lald at hh
  split at hh
  · rename_i i a0 r
    obtain ⟨a, ea0⟩ : ∃ a : Nat, a = a0 := ⟨a0, rfl⟩
    subst ea0
    split at hh
    · rename_i ha
      have ha : a < N ∨ 1000 ≤ a := ha
      split at hh
      · rename_i n f he
        split at hh
        · cases hh
        · rename_i hin
          cases hh
          by_cases haN : a < N
          · have hw := q_W_get (ad := ad) (sv := sv) (ct := ct) (h := h) haN
            rw [he] at hw
            exact va_lald hx hb hK hP a 2 hw (q_tys_get (by omega)) hin hd kk
          · rw [hro a (by omega)] at he
            obtain ⟨-, rfl, rfl, rfl⟩ := q_ro_long he
            exact va_tl hx hb hX.2.2.2.1 hS hin rfl hd kk
      · cases hh
    · cases hh
  · cases hh
theorem q_aald_snd (C : q_C p R s m args meth c M d D ct A) (G : q_G D ct A ad sv SL xs s h N H) {st st' : List Value} (hh : q_aald h N st = some st') (hd : decode (q_code M) pc = .ok (.aaload, 1))
    (kk : W p l e R s m args below meth c H locs cells slots Q (F0 m (pc + 1) ls (st'.map (q_cv ad sv)))) : W p l e R s m args below meth c H locs cells slots Q (F0 m pc ls (st.map (q_cv ad sv))) := by
  obtain ⟨hx, hb, hml, hown, hts, hK, -, -, -, -⟩ := C
  obtain ⟨hP, hD, hro, hX, hsv, hN⟩ := G
  unfold q_aald at hh
  split at hh
  · rename_i i a0 r
    obtain ⟨a, ea0⟩ : ∃ a : Nat, a = a0 := ⟨a0, rfl⟩
    subst ea0
    split at hh
    · rename_i haN
      have haN : a < N := haN
      split at hh
      · rename_i t n f he
        split at hh
        · cases hh
        · rename_i hin
          have hw := q_W_get (ad := ad) (sv := sv) (ct := ct) (h := h) haN
          rw [he] at hw
          have hin2 : vp_in i n := fun z => hin (z.elim Or.inl (fun y => Or.inr (Or.inl y)))
          have hlt : i.toNatClampNeg < n := Nat.not_le.mp fun q => hin2 (Or.inr q)
          have ht : t = 4 ∨ t = 5 ∨ t = 6 := by
            have h1 : ¬ t < 4 := fun z => hin (Or.inr (Or.inr (Or.inl z)))
            have h2 : ¬ 6 < t := fun z => hin (Or.inr (Or.inr (Or.inr z)))
            omega
          have href : (q_aty t).isReference = true := by rcases ht with rfl | rfl | rfl <;> rfl
          cases hf : f i.toNatClampNeg with
          | none => rw [hf] at hh; cases hh
          | some k =>
            rw [hf] at hh
            cases hh
            have hA := (hK.2 t (ct t, q_aty t) (q_tys_get (by omega))).1 n (fun j => va_rf ((f j).map ad))
            refine W.aald (v := .ref (ad k)) (ty := q_aty t) hx hb (hP a _ hw) hA href (fun q => by cases q) (by show ¬ (i < 0 ∨ (arrV _ _ _).slots.size ≤ _); rw [arrV_size]; exact hin2) ?_ rfl rfl hd kk
            show (arrV _ _ _).slots[_]? = _
            rw [arrV_read _ _ hlt]
            show some (va_rf ((f i.toNatClampNeg).map ad)) = _
            rw [hf]
            rfl
      · cases hh
    · cases hh
  · cases hh
theorem q_alen_snd (C : q_C p R s m args meth c M d D ct A) (G : q_G D ct A ad sv SL xs s h N H) (hS : va_S A s.heap H locs) {st st' : List Value} (hh : q_alen h N st = some st') (hd : decode (q_code M) pc = .ok (.arraylength, 1))
    (kk : W p l e R s m args below meth c H locs cells slots Q (F0 m (pc + 1) ls (st'.map (q_cv ad sv)))) : W p l e R s m args below meth c H locs cells slots Q (F0 m pc ls (st.map (q_cv ad sv))) := by
  obtain ⟨hx, hb, hml, hown, hts, hK, -, -, -, -⟩ := C
  obtain ⟨hP, hD, hro, hX, hsv, hN⟩ := G
  unfold q_alen at hh
  split at hh
  · rename_i a0 r
    obtain ⟨a, ea0⟩ : ∃ a : Nat, a = a0 := ⟨a0, rfl⟩
    subst ea0
    split at hh
    · rename_i ha
      have ha : a < N ∨ 1000 ≤ a := ha
      split at hh
      · rename_i t n z he
        split at hh
        · rename_i ht
          cases hh
          by_cases haN : a < N
          · have hw := q_W_get (ad := ad) (sv := sv) (ct := ct) (h := h) haN
            rw [he] at hw
            exact va_alen hx hb hK hP a t hw (q_tys_get ht) rfl hd kk
          · rw [hro a (by omega)] at he
            match z, he with
            | .inl f, he =>
              by_cases h0 : t = 0
              · subst h0
                obtain ⟨rfl, rfl, rfl⟩ := q_ro_int he
                obtain ⟨h1, h2, h3⟩ := hX.2.2.2.2.2.2.1
                exact va_slen hx hb h1 h2 h3 hS hd kk
              · obtain ⟨-, j, h1, h2, hn, hf⟩ := q_ro_byte h0 he
                subst hn
                subst hf
                subst h2
                have hT := (hX.1.1 j h1).2.2.2
                exact va_tlen hx hb hT hS rfl hd kk
            | .inr (.inl f), he =>
              obtain ⟨-, rfl, rfl, rfl⟩ := q_ro_long he
              exact va_tlen hx hb hX.2.2.2.1 hS rfl hd kk
            | .inr (.inr w), he =>
              unfold q_ro at he
              split at he
              · cases he
              · split at he
                · exact absurd he (fun z => q_rob_l z)
                · split at he
                  · cases he
                  · split at he
                    · cases he
                    · cases he
        · cases hh
      · cases hh
    · cases hh
  · cases hh
end QD
