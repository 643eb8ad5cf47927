theorem E_lk2 {pc : Nat} {st : List Value} {x : Int32} {d o0 o1 : Int} {t : Nat} (h0 : ¬ x = 0) (h1 : ¬ x = 1) (ht : q_tgt pc d = some t) : (q_lsw pc d #[(0, o0), (1, o1)] x).map (fun t => (t, st)) = some (t, st) := by
  have e : Op.lookupswitch.offset [(0, o0), (1, o1)] d x.toInt = d := by
    have n0 : ¬ x.toInt = 0 := fun z => h0 (Int32.toInt_inj.mp z)
    have n1 : ¬ x.toInt = 1 := fun z => h1 (Int32.toInt_inj.mp z)
    simp [Op.lookupswitch.offset, Ne.symm n0, Ne.symm n1]
  unfold q_lsw
  rw [if_pos (by rfl), e, ht]
  rfl
