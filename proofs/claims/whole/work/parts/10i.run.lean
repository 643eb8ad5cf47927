/-! THE LAW RUNS: from its first instruction to its end, with 1 -/
theorem bF_z {a i : Nat} (h : ¬ a = 3) (h2 : ¬ a = 192) : bF a i = 0 := congrFun (bF_0 h h2) i
theorem RE_0 : RE zF bF := by
  refine ⟨fun r hr => Or.inl ⟨if_pos ⟨rfl, hr⟩, (if_neg (fun z => absurd z.1 (by omega))).trans (if_pos ⟨rfl, hr⟩)⟩, rfl, ⟨⟨0, by omega, rfl, rfl⟩, fun i => ?_⟩, rfl, ⟨Or.inl rfl, bF_z (by omega) (by omega), 0, 0, 0, ⟨⟨by omega, by omega, by omega⟩, ⟨rfl, rfl, rfl⟩, ⟨bF_z (by omega) (by omega), bF_z (by omega) (by omega), bF_z (by omega) (by omega)⟩, fun x hx => absurd hx (by omega), fun x hx => absurd hx (by omega)⟩, ⟨fun x hx => absurd hx (by omega), fun x _ hx => absurd hx (by omega), fun x hx => absurd hx (by omega), ?_, ?_, ?_⟩, 0, 0, by omega, by omega, rfl, rfl, rfl, fun i hi => absurd hi (by omega)⟩, fun k hk => ⟨Or.inl rfl, bF_z (by omega) (by omega), fun z => absurd (show (0 : Int32) = 1 from z) (by decide)⟩, ⟨0, by omega, rfl, rfl, fun i hi => absurd hi (by omega)⟩, rfl, rfl⟩
  · rw [bF_z (by omega) (by omega), bF_z (by omega) (by omega)]
    exact Or.inl ⟨rfl, Int32.le_refl _⟩
  · dsimp only
    rw [bF_z (by omega) (by omega)]
  · dsimp only
    rw [bF_z (by omega) (by omega)]
    exact Int32.zero_and.symm
  · dsimp only
    rw [bF_z (by omega) (by omega)]
theorem run_law {SL : Nat} {xs : Nat → Int32} (h : SL < 2 ^ 30) : E 0 0 11 201 0 [some (.ref (1300 : Nat)), none, none, none] [] (q_ro SL xs) (fun r _ N S => r = some (.int 1) ∧ N = 199 ∧ S = 6101) :=
  n_start (l_law h (fun _ _ _ => ⟨rfl, rfl, rfl⟩) SL 0 (by omega) (by omega) zF bF zC RE_0)
