/-! METHODS: the model's tokens -/
/-- F, but the model's cursor, start, token, number -/
def mpF (F : q_FT) (cu st tok num : Int32) : q_FT := fun b j => if b = 187 ∧ j = 11 then cu else if b = 187 ∧ j = 12 then st else if b = 187 ∧ j = 13 then tok else if b = 187 ∧ j = 14 then num else F b j
theorem mpF_11 {F : q_FT} {cu st tok num : Int32} : mpF F cu st tok num 187 11 = cu := by simp [mpF]
theorem mpF_12 {F : q_FT} {cu st tok num : Int32} : mpF F cu st tok num 187 12 = st := by simp [mpF]
theorem mpF_13 {F : q_FT} {cu st tok num : Int32} : mpF F cu st tok num 187 13 = tok := by simp [mpF]
theorem mpF_14 {F : q_FT} {cu st tok num : Int32} : mpF F cu st tok num 187 14 = num := by simp [mpF]
theorem mpF_10 {F : q_FT} {cu st tok num : Int32} : mpF F cu st tok num 187 10 = F 187 10 := by simp [mpF]
theorem mpF_16 {F : q_FT} {cu st tok num : Int32} : mpF F cu st tok num 187 16 = F 187 16 := by simp [mpF]
theorem mpF_u {F : q_FT} {cu st tok num x : Int32} {k : Nat} : u2 (mpF F cu st tok num) 187 k x = mpF (u2 F 187 k x) (if k = 11 then x else cu) (if k = 12 then x else st) (if k = 13 then x else tok) (if k = 14 then x else num) := by
  funext b j
  by_cases h : b = 187
  · subst h
    by_cases h3 : j = k
    · subst h3
      by_cases h4 : j = 11
      · subst h4
        simp [mpF, u2]
      · by_cases h5 : j = 12
        · subst h5
          simp [mpF, u2]
        · by_cases h6 : j = 13
          · subst h6
            simp [mpF, u2]
          · by_cases h7 : j = 14
            · subst h7
              simp [mpF, u2]
            · simp [mpF, u2, h4, h5, h6, h7]
    · by_cases h4 : j = 11
      · subst h4
        simp [mpF, u2, h3, Ne.symm h3]
      · by_cases h5 : j = 12
        · subst h5
          simp [mpF, u2, h3, Ne.symm h3]
        · by_cases h6 : j = 13
          · subst h6
            simp [mpF, u2, h3, Ne.symm h3]
          · by_cases h7 : j = 14
            · subst h7
              simp [mpF, u2, h3, Ne.symm h3]
            · simp [mpF, u2, h3, h4, h5, h6, h7]
  · simp [mpF, u2, h]
section SX
variable {S d : Nat} {P : Option Value → q_H → Nat → Nat → Prop} {SL : Nat} {xs : Nat → Int32} {F B : q_FT} {C : q_CT}
theorem s_bAt {k n : Nat} (hn : F 187 10 = nI n) (h4 : n ≤ 400) (hk : k ≤ 400) : E 199 S d 118 0 [some (.ref (187 : Nat)), some (.int (nI k))] [] (hp SL xs F B C) P ↔ P (some (.int (if k < n then B 195 k else -1))) (hp SL xs F B C) 199 S := by
  have a2 : (nI k).toNatClampNeg = k := nI_clamp (by omega)
  have hq : nI k < F 187 10 → vp_in (nI k) 400 := fun z => by
    refine vp_in_nI ?_ (by omega)
    rw [hn, Int32.lt_iff_toInt_lt, nI_toInt (by omega), nI_toInt (by omega)] at z
    omega
  rw [s_byteAt hq, hn, a2]
  by_cases c : k < n
  · rw [if_pos c, if_pos (nI_lt c (by omega))]
  · rw [if_neg c, if_neg (Int32.not_lt.mpr (nI_le (by omega) (by omega)))]
end SX
