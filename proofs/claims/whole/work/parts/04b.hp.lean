/-! THE LAYOUT: 199 objects; F: int fields, B: int, byte, boolean arrays, C: long fields and arrays (by program, wip/whole/tools/mkhp.py) -/
def q_kdL : List Nat := [7, 3, 10, 10, 16, 10, 10, 10, 10, 10, 10, 10, 10, 6, 11, 2, 10, 10, 10, 10, 10, 5, 10, 10, 10, 10, 2, 10, 10, 10, 10, 10, 5, 10, 10, 10, 10, 0, 14, 5, 10, 10, 10, 10, 5, 10, 10, 10, 10, 5, 10, 10, 10, 10, 5, 10, 10, 10, 10, 5, 10, 10, 10, 10, 5, 10, 10, 10, 10, 5, 10, 10, 10, 10, 5, 10, 10, 10, 10, 5, 10, 10, 10, 10, 5, 10, 10, 10, 10, 5, 10, 10, 10, 10, 5, 10, 10, 10, 10, 5, 10, 10, 10, 10, 5, 10, 10, 10, 10, 5, 10, 10, 10, 10, 5, 10, 10, 10, 10, 5, 10, 10, 10, 10, 5, 10, 10, 10, 10, 5, 10, 10, 10, 10, 5, 10, 10, 10, 10, 5, 10, 10, 10, 10, 5, 10, 10, 10, 10, 5, 10, 10, 10, 10, 5, 10, 10, 10, 10, 15, 2, 10, 10, 10, 10, 10, 5, 10, 10, 10, 10, 2, 10, 10, 10, 10, 10, 5, 10, 10, 10, 10, 4, 12, 12, 1, 10, 8, 10, 10, 13, 10, 10, 10, 10, 10, 10, 10, 10]
def q_lnL : List Nat := [0, 0, 8, 8, 8, 40, 40, 40, 40, 40, 40, 40, 40, 0, 400, 0, 6, 6, 6, 6, 4, 0, 3, 3, 3, 4, 0, 6, 6, 6, 6, 4, 0, 3, 3, 3, 4, 0, 24, 0, 3, 3, 3, 4, 0, 3, 3, 3, 4, 0, 3, 3, 3, 4, 0, 3, 3, 3, 4, 0, 3, 3, 3, 4, 0, 3, 3, 3, 4, 0, 3, 3, 3, 4, 0, 3, 3, 3, 4, 0, 3, 3, 3, 4, 0, 3, 3, 3, 4, 0, 3, 3, 3, 4, 0, 3, 3, 3, 4, 0, 3, 3, 3, 4, 0, 3, 3, 3, 4, 0, 3, 3, 3, 4, 0, 3, 3, 3, 4, 0, 3, 3, 3, 4, 0, 3, 3, 3, 4, 0, 3, 3, 3, 4, 0, 3, 3, 3, 4, 0, 3, 3, 3, 4, 0, 3, 3, 3, 4, 0, 3, 3, 3, 4, 0, 3, 3, 3, 4, 2, 0, 6, 6, 6, 6, 4, 0, 3, 3, 3, 4, 0, 6, 6, 6, 6, 4, 0, 3, 3, 3, 4, 0, 480, 48, 0, 16, 0, 48, 96, 2, 384, 8, 8, 320, 400, 48, 2688, 16]
/-- what object a is: a class, or 10 an int array, 11 byte, 12 long, 13 boolean, 14 to 16 arrays of references -/
def q_kd (a : Nat) : Nat := q_kdL.getD a 99
def q_ln (a : Nat) : Nat := q_lnL.getD a 0
abbrev q_FT : Type := Nat → Nat → Int32
abbrev q_CT : Type := Nat → Nat → Int64
def q_fs (F : q_FT) (C : q_CT) (a ci : Nat) : List Value := match ci with
  | 0 => [.ref (38), .int (F a 1), .int (F a 2)]
  | 1 => [.ref (26), .ref (186), .int (F a 2)]
  | 2 => [.int (F a 0), .int (F a 1), .ref (a + 1), .ref (a + 2), .ref (a + 3), .ref (a + 4), .int (F a 6), .int (F a 7), .ref (a + 5), .ref (a + 6)]
  | 3 => [.ref (a + 1), .ref (a + 2), .ref (a + 3)]
  | 4 => [.ref (26), .ref (183), .ref (184), .int (F a 3), .int (F a 4), .int (F a 5)]
  | 5 => [.ref (a + 1), .ref (a + 2), .ref (a + 3), .ref (a + 4), .int (F a 4), .int (F a 5), .int (F a 6)]
  | 6 => [.ref (14), .int (F a 1), .ref (15), .int (F a 3), .int (F a 4), .int (F a 5), .int (F a 6), .int (F a 7), .int (F a 8)]
  | 7 => [.ref (1), .ref (13), .ref (26), .ref (37), .ref (159), .ref (182), .ref (185), .int (F a 7)]
  | _ => [.ref (188), .ref (189), .ref (190), .ref (191), .int (F a 4), .ref (192), .ref (193), .ref (194), .int (F a 8), .ref (195), .int (F a 10), .int (F a 11), .int (F a 12), .int (F a 13), .int (F a 14), .long (C a 15), .int (F a 16), .int (F a 17), .ref (196), .ref (197), .int (F a 20), .int (F a 21), .int (F a 22), .ref (198), .int (F a 24)]
def q_rf (n base step : Nat) : Nat → Option Nat := fun j => if j < n then some (base + step * j) else none
def hpc (F B : q_FT) (C : q_CT) (a k : Nat) : q_E := match k with
  | 10 => .inl (0, (q_ln a, .inl (B a)))
  | 11 => .inl (1, (q_ln a, .inl (B a)))
  | 12 => .inl (2, (q_ln a, .inr (.inl (C a))))
  | 13 => .inl (3, (q_ln a, .inl (B a)))
  | 14 => .inl (4, (24, .inr (.inr (.inr (.inr (q_rf 24 39 5))))))
  | 15 => .inl (5, (2, .inr (.inr (.inr (.inr (q_rf 2 160 11))))))
  | 16 => .inl (6, (8, .inr (.inr (.inr (.inr (q_rf 8 5 1))))))
  | k => .inr (k, q_fs F C a k)
def hp (SL : Nat) (xs : Nat → Int32) (F B : q_FT) (C : q_CT) : q_H := fun a => if 199 ≤ a then q_ro SL xs a else hpc F B C a (q_kd a)
def u2 {α : Type} (F : Nat → Nat → α) (a j : Nat) (x : α) : Nat → Nat → α := fun b k => if b = a ∧ k = j then x else F b k
def c2 {α : Type} (B : Nat → α) (a : Nat) (f : α) : Nat → α := fun b => if b = a then f else B b
theorem q_kd_lt {a k : Nat} (h : q_kd a = k) (hk : k ≠ 99) : a < 199 := by
  unfold q_kd at h
  rcases Nat.lt_or_ge a 199 with z | z
  · exact z
  · rw [List.getD_eq_getElem?_getD, List.getElem?_eq_none (show q_kdL.length ≤ a from Nat.le_trans (Nat.le_of_eq (by rfl)) z)] at h
    exact absurd h.symm hk
theorem hp_at {SL : Nat} {xs : Nat → Int32} {F B : q_FT} {C : q_CT} {a k : Nat} (h : q_kd a = k) (hk : k ≠ 99) : hp SL xs F B C a = hpc F B C a k := by
  unfold hp
  rw [if_neg (by have := q_kd_lt h hk; omega), h]
theorem hp_obj {SL : Nat} {xs : Nat → Int32} {F B : q_FT} {C : q_CT} {a k : Nat} (h : q_kd a = k) (hk : k < 9) : hp SL xs F B C a = .inr (k, q_fs F C a k) := by
  rw [hp_at h (by omega)]
  match k, hk with
  | 0, _ => rfl
  | 1, _ => rfl
  | 2, _ => rfl
  | 3, _ => rfl
  | 4, _ => rfl
  | 5, _ => rfl
  | 6, _ => rfl
  | 7, _ => rfl
  | 8, _ => rfl
  | n + 9, hk => omega
theorem hp_set {SL : Nat} {xs : Nat → Int32} {F B F' B' : q_FT} {C C' : q_CT} {a k : Nat} {e : q_E} (h : q_kd a = k) (hk : k ≠ 99) (he : hpc F' B' C' a k = e) (ho : ∀ b : Nat, b ≠ a → ∀ z, hpc F' B' C' b z = hpc F B C b z) : q_up (hp SL xs F B C) a e = hp SL xs F' B' C' := by
  funext b
  unfold q_up
  by_cases hb : b = a
  · subst hb
    rw [if_pos rfl, hp_at h hk, he]
  · rw [if_neg hb]
    unfold hp
    rw [ho b hb]
theorem hpc_F {F B : q_FT} {C : q_CT} {a j b z : Nat} {x : Int32} (hb : b ≠ a) : hpc (u2 F a j x) B C b z = hpc F B C b z := by
  have e : ∀ k, u2 F a j x b k = F b k := fun k => if_neg (fun q => hb q.1)
  unfold hpc
  split <;> first | rfl | (unfold q_fs; split <;> simp only [e])
theorem hpc_Cj {F B : q_FT} {C : q_CT} {a j b z : Nat} {x : Int64} (hb : b ≠ a) : hpc F B (u2 C a j x) b z = hpc F B C b z := by
  have e : ∀ k, u2 C a j x b k = C b k := fun k => if_neg (fun q => hb q.1)
  have e2 : u2 C a j x b = C b := funext e
  unfold hpc
  split <;> first | rfl | (rw [e2]) | (unfold q_fs; split <;> simp only [e])
theorem hpc_Bj {F B : q_FT} {C : q_CT} {a j b z : Nat} {x : Int32} (hb : b ≠ a) : hpc F (u2 B a j x) C b z = hpc F B C b z := by
  have e2 : u2 B a j x b = B b := funext fun k => if_neg (fun q => hb q.1)
  unfold hpc
  split <;> first | rfl | (rw [e2])
theorem hpc_Bc {F B : q_FT} {C : q_CT} {a b z : Nat} {f : Nat → Int32} (hb : b ≠ a) : hpc F (c2 B a f) C b z = hpc F B C b z := by
  have e2 : c2 B a f b = B b := if_neg hb
  unfold hpc
  split <;> first | rfl | (rw [e2])
theorem u2_upd {B : q_FT} {a j : Nat} {x : Int32} : u2 B a j x a = upd (B a) j x := by
  funext k
  unfold u2 upd
  by_cases h : k = j <;> simp [h]
theorem u2_updL {C : q_CT} {a j : Nat} {x : Int64} : u2 C a j x a = vp_updL (C a) j x := by
  funext k
  unfold u2 vp_updL
  by_cases h : k = j <;> simp [h]
theorem c2_self {B : q_FT} {a : Nat} {f : Nat → Int32} : c2 B a f a = f := if_pos rfl
theorem u2_eq {α : Type} (F : Nat → Nat → α) (a j : Nat) (x : α) (b k : Nat) : u2 F a j x b k = if b = a ∧ k = j then x else F b k := rfl
theorem c2_eq {α : Type} (B : Nat → α) (a : Nat) (f : α) (b : Nat) : c2 B a f b = if b = a then f else B b := rfl
theorem kd_0 : q_kd 0 = 7 := of_decide_eq_true rfl
theorem kd_1 : q_kd 1 = 3 := of_decide_eq_true rfl
theorem kd_2 : q_kd 2 = 10 := of_decide_eq_true rfl
theorem ln_2 : q_ln 2 = 8 := of_decide_eq_true rfl
theorem kd_3 : q_kd 3 = 10 := of_decide_eq_true rfl
theorem ln_3 : q_ln 3 = 8 := of_decide_eq_true rfl
theorem kd_4 : q_kd 4 = 16 := of_decide_eq_true rfl
theorem ln_4 : q_ln 4 = 8 := of_decide_eq_true rfl
theorem kd_5 : q_kd 5 = 10 := of_decide_eq_true rfl
theorem ln_5 : q_ln 5 = 40 := of_decide_eq_true rfl
theorem kd_6 : q_kd 6 = 10 := of_decide_eq_true rfl
theorem ln_6 : q_ln 6 = 40 := of_decide_eq_true rfl
theorem kd_7 : q_kd 7 = 10 := of_decide_eq_true rfl
theorem ln_7 : q_ln 7 = 40 := of_decide_eq_true rfl
theorem kd_8 : q_kd 8 = 10 := of_decide_eq_true rfl
theorem ln_8 : q_ln 8 = 40 := of_decide_eq_true rfl
theorem kd_9 : q_kd 9 = 10 := of_decide_eq_true rfl
theorem ln_9 : q_ln 9 = 40 := of_decide_eq_true rfl
theorem kd_10 : q_kd 10 = 10 := of_decide_eq_true rfl
theorem ln_10 : q_ln 10 = 40 := of_decide_eq_true rfl
theorem kd_11 : q_kd 11 = 10 := of_decide_eq_true rfl
theorem ln_11 : q_ln 11 = 40 := of_decide_eq_true rfl
theorem kd_12 : q_kd 12 = 10 := of_decide_eq_true rfl
theorem ln_12 : q_ln 12 = 40 := of_decide_eq_true rfl
theorem kd_13 : q_kd 13 = 6 := of_decide_eq_true rfl
theorem kd_14 : q_kd 14 = 11 := of_decide_eq_true rfl
theorem ln_14 : q_ln 14 = 400 := of_decide_eq_true rfl
theorem kd_15 : q_kd 15 = 2 := of_decide_eq_true rfl
theorem kd_16 : q_kd 16 = 10 := of_decide_eq_true rfl
theorem ln_16 : q_ln 16 = 6 := of_decide_eq_true rfl
theorem kd_17 : q_kd 17 = 10 := of_decide_eq_true rfl
theorem ln_17 : q_ln 17 = 6 := of_decide_eq_true rfl
theorem kd_18 : q_kd 18 = 10 := of_decide_eq_true rfl
theorem ln_18 : q_ln 18 = 6 := of_decide_eq_true rfl
theorem kd_19 : q_kd 19 = 10 := of_decide_eq_true rfl
theorem ln_19 : q_ln 19 = 6 := of_decide_eq_true rfl
theorem kd_20 : q_kd 20 = 10 := of_decide_eq_true rfl
theorem ln_20 : q_ln 20 = 4 := of_decide_eq_true rfl
theorem kd_21 : q_kd 21 = 5 := of_decide_eq_true rfl
theorem kd_22 : q_kd 22 = 10 := of_decide_eq_true rfl
theorem ln_22 : q_ln 22 = 3 := of_decide_eq_true rfl
theorem kd_23 : q_kd 23 = 10 := of_decide_eq_true rfl
theorem ln_23 : q_ln 23 = 3 := of_decide_eq_true rfl
theorem kd_24 : q_kd 24 = 10 := of_decide_eq_true rfl
theorem ln_24 : q_ln 24 = 3 := of_decide_eq_true rfl
theorem kd_25 : q_kd 25 = 10 := of_decide_eq_true rfl
theorem ln_25 : q_ln 25 = 4 := of_decide_eq_true rfl
theorem kd_26 : q_kd 26 = 2 := of_decide_eq_true rfl
theorem kd_27 : q_kd 27 = 10 := of_decide_eq_true rfl
theorem ln_27 : q_ln 27 = 6 := of_decide_eq_true rfl
theorem kd_28 : q_kd 28 = 10 := of_decide_eq_true rfl
theorem ln_28 : q_ln 28 = 6 := of_decide_eq_true rfl
theorem kd_29 : q_kd 29 = 10 := of_decide_eq_true rfl
theorem ln_29 : q_ln 29 = 6 := of_decide_eq_true rfl
theorem kd_30 : q_kd 30 = 10 := of_decide_eq_true rfl
theorem ln_30 : q_ln 30 = 6 := of_decide_eq_true rfl
theorem kd_31 : q_kd 31 = 10 := of_decide_eq_true rfl
theorem ln_31 : q_ln 31 = 4 := of_decide_eq_true rfl
theorem kd_32 : q_kd 32 = 5 := of_decide_eq_true rfl
theorem kd_33 : q_kd 33 = 10 := of_decide_eq_true rfl
theorem ln_33 : q_ln 33 = 3 := of_decide_eq_true rfl
theorem kd_34 : q_kd 34 = 10 := of_decide_eq_true rfl
theorem ln_34 : q_ln 34 = 3 := of_decide_eq_true rfl
theorem kd_35 : q_kd 35 = 10 := of_decide_eq_true rfl
theorem ln_35 : q_ln 35 = 3 := of_decide_eq_true rfl
theorem kd_36 : q_kd 36 = 10 := of_decide_eq_true rfl
theorem ln_36 : q_ln 36 = 4 := of_decide_eq_true rfl
theorem kd_37 : q_kd 37 = 0 := of_decide_eq_true rfl
theorem kd_38 : q_kd 38 = 14 := of_decide_eq_true rfl
theorem ln_38 : q_ln 38 = 24 := of_decide_eq_true rfl
theorem kd_39 : q_kd 39 = 5 := of_decide_eq_true rfl
theorem kd_40 : q_kd 40 = 10 := of_decide_eq_true rfl
theorem ln_40 : q_ln 40 = 3 := of_decide_eq_true rfl
theorem kd_41 : q_kd 41 = 10 := of_decide_eq_true rfl
theorem ln_41 : q_ln 41 = 3 := of_decide_eq_true rfl
theorem kd_42 : q_kd 42 = 10 := of_decide_eq_true rfl
theorem ln_42 : q_ln 42 = 3 := of_decide_eq_true rfl
theorem kd_43 : q_kd 43 = 10 := of_decide_eq_true rfl
theorem ln_43 : q_ln 43 = 4 := of_decide_eq_true rfl
theorem kd_44 : q_kd 44 = 5 := of_decide_eq_true rfl
theorem kd_45 : q_kd 45 = 10 := of_decide_eq_true rfl
theorem ln_45 : q_ln 45 = 3 := of_decide_eq_true rfl
theorem kd_46 : q_kd 46 = 10 := of_decide_eq_true rfl
theorem ln_46 : q_ln 46 = 3 := of_decide_eq_true rfl
theorem kd_47 : q_kd 47 = 10 := of_decide_eq_true rfl
theorem ln_47 : q_ln 47 = 3 := of_decide_eq_true rfl
theorem kd_48 : q_kd 48 = 10 := of_decide_eq_true rfl
theorem ln_48 : q_ln 48 = 4 := of_decide_eq_true rfl
theorem kd_49 : q_kd 49 = 5 := of_decide_eq_true rfl
theorem kd_50 : q_kd 50 = 10 := of_decide_eq_true rfl
theorem ln_50 : q_ln 50 = 3 := of_decide_eq_true rfl
theorem kd_51 : q_kd 51 = 10 := of_decide_eq_true rfl
theorem ln_51 : q_ln 51 = 3 := of_decide_eq_true rfl
theorem kd_52 : q_kd 52 = 10 := of_decide_eq_true rfl
theorem ln_52 : q_ln 52 = 3 := of_decide_eq_true rfl
theorem kd_53 : q_kd 53 = 10 := of_decide_eq_true rfl
theorem ln_53 : q_ln 53 = 4 := of_decide_eq_true rfl
theorem kd_54 : q_kd 54 = 5 := of_decide_eq_true rfl
theorem kd_55 : q_kd 55 = 10 := of_decide_eq_true rfl
theorem ln_55 : q_ln 55 = 3 := of_decide_eq_true rfl
theorem kd_56 : q_kd 56 = 10 := of_decide_eq_true rfl
theorem ln_56 : q_ln 56 = 3 := of_decide_eq_true rfl
theorem kd_57 : q_kd 57 = 10 := of_decide_eq_true rfl
theorem ln_57 : q_ln 57 = 3 := of_decide_eq_true rfl
theorem kd_58 : q_kd 58 = 10 := of_decide_eq_true rfl
theorem ln_58 : q_ln 58 = 4 := of_decide_eq_true rfl
theorem kd_59 : q_kd 59 = 5 := of_decide_eq_true rfl
theorem kd_60 : q_kd 60 = 10 := of_decide_eq_true rfl
theorem ln_60 : q_ln 60 = 3 := of_decide_eq_true rfl
theorem kd_61 : q_kd 61 = 10 := of_decide_eq_true rfl
theorem ln_61 : q_ln 61 = 3 := of_decide_eq_true rfl
theorem kd_62 : q_kd 62 = 10 := of_decide_eq_true rfl
theorem ln_62 : q_ln 62 = 3 := of_decide_eq_true rfl
theorem kd_63 : q_kd 63 = 10 := of_decide_eq_true rfl
theorem ln_63 : q_ln 63 = 4 := of_decide_eq_true rfl
theorem kd_64 : q_kd 64 = 5 := of_decide_eq_true rfl
theorem kd_65 : q_kd 65 = 10 := of_decide_eq_true rfl
theorem ln_65 : q_ln 65 = 3 := of_decide_eq_true rfl
theorem kd_66 : q_kd 66 = 10 := of_decide_eq_true rfl
theorem ln_66 : q_ln 66 = 3 := of_decide_eq_true rfl
theorem kd_67 : q_kd 67 = 10 := of_decide_eq_true rfl
theorem ln_67 : q_ln 67 = 3 := of_decide_eq_true rfl
theorem kd_68 : q_kd 68 = 10 := of_decide_eq_true rfl
theorem ln_68 : q_ln 68 = 4 := of_decide_eq_true rfl
theorem kd_69 : q_kd 69 = 5 := of_decide_eq_true rfl
theorem kd_70 : q_kd 70 = 10 := of_decide_eq_true rfl
theorem ln_70 : q_ln 70 = 3 := of_decide_eq_true rfl
theorem kd_71 : q_kd 71 = 10 := of_decide_eq_true rfl
theorem ln_71 : q_ln 71 = 3 := of_decide_eq_true rfl
theorem kd_72 : q_kd 72 = 10 := of_decide_eq_true rfl
theorem ln_72 : q_ln 72 = 3 := of_decide_eq_true rfl
theorem kd_73 : q_kd 73 = 10 := of_decide_eq_true rfl
theorem ln_73 : q_ln 73 = 4 := of_decide_eq_true rfl
theorem kd_74 : q_kd 74 = 5 := of_decide_eq_true rfl
theorem kd_75 : q_kd 75 = 10 := of_decide_eq_true rfl
theorem ln_75 : q_ln 75 = 3 := of_decide_eq_true rfl
theorem kd_76 : q_kd 76 = 10 := of_decide_eq_true rfl
theorem ln_76 : q_ln 76 = 3 := of_decide_eq_true rfl
theorem kd_77 : q_kd 77 = 10 := of_decide_eq_true rfl
theorem ln_77 : q_ln 77 = 3 := of_decide_eq_true rfl
theorem kd_78 : q_kd 78 = 10 := of_decide_eq_true rfl
theorem ln_78 : q_ln 78 = 4 := of_decide_eq_true rfl
theorem kd_79 : q_kd 79 = 5 := of_decide_eq_true rfl
theorem kd_80 : q_kd 80 = 10 := of_decide_eq_true rfl
theorem ln_80 : q_ln 80 = 3 := of_decide_eq_true rfl
theorem kd_81 : q_kd 81 = 10 := of_decide_eq_true rfl
theorem ln_81 : q_ln 81 = 3 := of_decide_eq_true rfl
theorem kd_82 : q_kd 82 = 10 := of_decide_eq_true rfl
theorem ln_82 : q_ln 82 = 3 := of_decide_eq_true rfl
theorem kd_83 : q_kd 83 = 10 := of_decide_eq_true rfl
theorem ln_83 : q_ln 83 = 4 := of_decide_eq_true rfl
theorem kd_84 : q_kd 84 = 5 := of_decide_eq_true rfl
theorem kd_85 : q_kd 85 = 10 := of_decide_eq_true rfl
theorem ln_85 : q_ln 85 = 3 := of_decide_eq_true rfl
theorem kd_86 : q_kd 86 = 10 := of_decide_eq_true rfl
theorem ln_86 : q_ln 86 = 3 := of_decide_eq_true rfl
theorem kd_87 : q_kd 87 = 10 := of_decide_eq_true rfl
theorem ln_87 : q_ln 87 = 3 := of_decide_eq_true rfl
theorem kd_88 : q_kd 88 = 10 := of_decide_eq_true rfl
theorem ln_88 : q_ln 88 = 4 := of_decide_eq_true rfl
theorem kd_89 : q_kd 89 = 5 := of_decide_eq_true rfl
theorem kd_90 : q_kd 90 = 10 := of_decide_eq_true rfl
theorem ln_90 : q_ln 90 = 3 := of_decide_eq_true rfl
theorem kd_91 : q_kd 91 = 10 := of_decide_eq_true rfl
theorem ln_91 : q_ln 91 = 3 := of_decide_eq_true rfl
theorem kd_92 : q_kd 92 = 10 := of_decide_eq_true rfl
theorem ln_92 : q_ln 92 = 3 := of_decide_eq_true rfl
theorem kd_93 : q_kd 93 = 10 := of_decide_eq_true rfl
theorem ln_93 : q_ln 93 = 4 := of_decide_eq_true rfl
theorem kd_94 : q_kd 94 = 5 := of_decide_eq_true rfl
theorem kd_95 : q_kd 95 = 10 := of_decide_eq_true rfl
theorem ln_95 : q_ln 95 = 3 := of_decide_eq_true rfl
theorem kd_96 : q_kd 96 = 10 := of_decide_eq_true rfl
theorem ln_96 : q_ln 96 = 3 := of_decide_eq_true rfl
theorem kd_97 : q_kd 97 = 10 := of_decide_eq_true rfl
theorem ln_97 : q_ln 97 = 3 := of_decide_eq_true rfl
theorem kd_98 : q_kd 98 = 10 := of_decide_eq_true rfl
theorem ln_98 : q_ln 98 = 4 := of_decide_eq_true rfl
theorem kd_99 : q_kd 99 = 5 := of_decide_eq_true rfl
theorem kd_100 : q_kd 100 = 10 := of_decide_eq_true rfl
theorem ln_100 : q_ln 100 = 3 := of_decide_eq_true rfl
theorem kd_101 : q_kd 101 = 10 := of_decide_eq_true rfl
theorem ln_101 : q_ln 101 = 3 := of_decide_eq_true rfl
theorem kd_102 : q_kd 102 = 10 := of_decide_eq_true rfl
theorem ln_102 : q_ln 102 = 3 := of_decide_eq_true rfl
theorem kd_103 : q_kd 103 = 10 := of_decide_eq_true rfl
theorem ln_103 : q_ln 103 = 4 := of_decide_eq_true rfl
theorem kd_104 : q_kd 104 = 5 := of_decide_eq_true rfl
theorem kd_105 : q_kd 105 = 10 := of_decide_eq_true rfl
theorem ln_105 : q_ln 105 = 3 := of_decide_eq_true rfl
theorem kd_106 : q_kd 106 = 10 := of_decide_eq_true rfl
theorem ln_106 : q_ln 106 = 3 := of_decide_eq_true rfl
theorem kd_107 : q_kd 107 = 10 := of_decide_eq_true rfl
theorem ln_107 : q_ln 107 = 3 := of_decide_eq_true rfl
theorem kd_108 : q_kd 108 = 10 := of_decide_eq_true rfl
theorem ln_108 : q_ln 108 = 4 := of_decide_eq_true rfl
theorem kd_109 : q_kd 109 = 5 := of_decide_eq_true rfl
theorem kd_110 : q_kd 110 = 10 := of_decide_eq_true rfl
theorem ln_110 : q_ln 110 = 3 := of_decide_eq_true rfl
theorem kd_111 : q_kd 111 = 10 := of_decide_eq_true rfl
theorem ln_111 : q_ln 111 = 3 := of_decide_eq_true rfl
theorem kd_112 : q_kd 112 = 10 := of_decide_eq_true rfl
theorem ln_112 : q_ln 112 = 3 := of_decide_eq_true rfl
theorem kd_113 : q_kd 113 = 10 := of_decide_eq_true rfl
theorem ln_113 : q_ln 113 = 4 := of_decide_eq_true rfl
theorem kd_114 : q_kd 114 = 5 := of_decide_eq_true rfl
theorem kd_115 : q_kd 115 = 10 := of_decide_eq_true rfl
theorem ln_115 : q_ln 115 = 3 := of_decide_eq_true rfl
theorem kd_116 : q_kd 116 = 10 := of_decide_eq_true rfl
theorem ln_116 : q_ln 116 = 3 := of_decide_eq_true rfl
theorem kd_117 : q_kd 117 = 10 := of_decide_eq_true rfl
theorem ln_117 : q_ln 117 = 3 := of_decide_eq_true rfl
theorem kd_118 : q_kd 118 = 10 := of_decide_eq_true rfl
theorem ln_118 : q_ln 118 = 4 := of_decide_eq_true rfl
theorem kd_119 : q_kd 119 = 5 := of_decide_eq_true rfl
theorem kd_120 : q_kd 120 = 10 := of_decide_eq_true rfl
theorem ln_120 : q_ln 120 = 3 := of_decide_eq_true rfl
theorem kd_121 : q_kd 121 = 10 := of_decide_eq_true rfl
theorem ln_121 : q_ln 121 = 3 := of_decide_eq_true rfl
theorem kd_122 : q_kd 122 = 10 := of_decide_eq_true rfl
theorem ln_122 : q_ln 122 = 3 := of_decide_eq_true rfl
theorem kd_123 : q_kd 123 = 10 := of_decide_eq_true rfl
theorem ln_123 : q_ln 123 = 4 := of_decide_eq_true rfl
theorem kd_124 : q_kd 124 = 5 := of_decide_eq_true rfl
theorem kd_125 : q_kd 125 = 10 := of_decide_eq_true rfl
theorem ln_125 : q_ln 125 = 3 := of_decide_eq_true rfl
theorem kd_126 : q_kd 126 = 10 := of_decide_eq_true rfl
theorem ln_126 : q_ln 126 = 3 := of_decide_eq_true rfl
theorem kd_127 : q_kd 127 = 10 := of_decide_eq_true rfl
theorem ln_127 : q_ln 127 = 3 := of_decide_eq_true rfl
theorem kd_128 : q_kd 128 = 10 := of_decide_eq_true rfl
theorem ln_128 : q_ln 128 = 4 := of_decide_eq_true rfl
theorem kd_129 : q_kd 129 = 5 := of_decide_eq_true rfl
theorem kd_130 : q_kd 130 = 10 := of_decide_eq_true rfl
theorem ln_130 : q_ln 130 = 3 := of_decide_eq_true rfl
theorem kd_131 : q_kd 131 = 10 := of_decide_eq_true rfl
theorem ln_131 : q_ln 131 = 3 := of_decide_eq_true rfl
theorem kd_132 : q_kd 132 = 10 := of_decide_eq_true rfl
theorem ln_132 : q_ln 132 = 3 := of_decide_eq_true rfl
theorem kd_133 : q_kd 133 = 10 := of_decide_eq_true rfl
theorem ln_133 : q_ln 133 = 4 := of_decide_eq_true rfl
theorem kd_134 : q_kd 134 = 5 := of_decide_eq_true rfl
theorem kd_135 : q_kd 135 = 10 := of_decide_eq_true rfl
theorem ln_135 : q_ln 135 = 3 := of_decide_eq_true rfl
theorem kd_136 : q_kd 136 = 10 := of_decide_eq_true rfl
theorem ln_136 : q_ln 136 = 3 := of_decide_eq_true rfl
theorem kd_137 : q_kd 137 = 10 := of_decide_eq_true rfl
theorem ln_137 : q_ln 137 = 3 := of_decide_eq_true rfl
theorem kd_138 : q_kd 138 = 10 := of_decide_eq_true rfl
theorem ln_138 : q_ln 138 = 4 := of_decide_eq_true rfl
theorem kd_139 : q_kd 139 = 5 := of_decide_eq_true rfl
theorem kd_140 : q_kd 140 = 10 := of_decide_eq_true rfl
theorem ln_140 : q_ln 140 = 3 := of_decide_eq_true rfl
theorem kd_141 : q_kd 141 = 10 := of_decide_eq_true rfl
theorem ln_141 : q_ln 141 = 3 := of_decide_eq_true rfl
theorem kd_142 : q_kd 142 = 10 := of_decide_eq_true rfl
theorem ln_142 : q_ln 142 = 3 := of_decide_eq_true rfl
theorem kd_143 : q_kd 143 = 10 := of_decide_eq_true rfl
theorem ln_143 : q_ln 143 = 4 := of_decide_eq_true rfl
theorem kd_144 : q_kd 144 = 5 := of_decide_eq_true rfl
theorem kd_145 : q_kd 145 = 10 := of_decide_eq_true rfl
theorem ln_145 : q_ln 145 = 3 := of_decide_eq_true rfl
theorem kd_146 : q_kd 146 = 10 := of_decide_eq_true rfl
theorem ln_146 : q_ln 146 = 3 := of_decide_eq_true rfl
theorem kd_147 : q_kd 147 = 10 := of_decide_eq_true rfl
theorem ln_147 : q_ln 147 = 3 := of_decide_eq_true rfl
theorem kd_148 : q_kd 148 = 10 := of_decide_eq_true rfl
theorem ln_148 : q_ln 148 = 4 := of_decide_eq_true rfl
theorem kd_149 : q_kd 149 = 5 := of_decide_eq_true rfl
theorem kd_150 : q_kd 150 = 10 := of_decide_eq_true rfl
theorem ln_150 : q_ln 150 = 3 := of_decide_eq_true rfl
theorem kd_151 : q_kd 151 = 10 := of_decide_eq_true rfl
theorem ln_151 : q_ln 151 = 3 := of_decide_eq_true rfl
theorem kd_152 : q_kd 152 = 10 := of_decide_eq_true rfl
theorem ln_152 : q_ln 152 = 3 := of_decide_eq_true rfl
theorem kd_153 : q_kd 153 = 10 := of_decide_eq_true rfl
theorem ln_153 : q_ln 153 = 4 := of_decide_eq_true rfl
theorem kd_154 : q_kd 154 = 5 := of_decide_eq_true rfl
theorem kd_155 : q_kd 155 = 10 := of_decide_eq_true rfl
theorem ln_155 : q_ln 155 = 3 := of_decide_eq_true rfl
theorem kd_156 : q_kd 156 = 10 := of_decide_eq_true rfl
theorem ln_156 : q_ln 156 = 3 := of_decide_eq_true rfl
theorem kd_157 : q_kd 157 = 10 := of_decide_eq_true rfl
theorem ln_157 : q_ln 157 = 3 := of_decide_eq_true rfl
theorem kd_158 : q_kd 158 = 10 := of_decide_eq_true rfl
theorem ln_158 : q_ln 158 = 4 := of_decide_eq_true rfl
theorem kd_159 : q_kd 159 = 15 := of_decide_eq_true rfl
theorem ln_159 : q_ln 159 = 2 := of_decide_eq_true rfl
theorem kd_160 : q_kd 160 = 2 := of_decide_eq_true rfl
theorem kd_161 : q_kd 161 = 10 := of_decide_eq_true rfl
theorem ln_161 : q_ln 161 = 6 := of_decide_eq_true rfl
theorem kd_162 : q_kd 162 = 10 := of_decide_eq_true rfl
theorem ln_162 : q_ln 162 = 6 := of_decide_eq_true rfl
theorem kd_163 : q_kd 163 = 10 := of_decide_eq_true rfl
theorem ln_163 : q_ln 163 = 6 := of_decide_eq_true rfl
theorem kd_164 : q_kd 164 = 10 := of_decide_eq_true rfl
theorem ln_164 : q_ln 164 = 6 := of_decide_eq_true rfl
theorem kd_165 : q_kd 165 = 10 := of_decide_eq_true rfl
theorem ln_165 : q_ln 165 = 4 := of_decide_eq_true rfl
theorem kd_166 : q_kd 166 = 5 := of_decide_eq_true rfl
theorem kd_167 : q_kd 167 = 10 := of_decide_eq_true rfl
theorem ln_167 : q_ln 167 = 3 := of_decide_eq_true rfl
theorem kd_168 : q_kd 168 = 10 := of_decide_eq_true rfl
theorem ln_168 : q_ln 168 = 3 := of_decide_eq_true rfl
theorem kd_169 : q_kd 169 = 10 := of_decide_eq_true rfl
theorem ln_169 : q_ln 169 = 3 := of_decide_eq_true rfl
theorem kd_170 : q_kd 170 = 10 := of_decide_eq_true rfl
theorem ln_170 : q_ln 170 = 4 := of_decide_eq_true rfl
theorem kd_171 : q_kd 171 = 2 := of_decide_eq_true rfl
theorem kd_172 : q_kd 172 = 10 := of_decide_eq_true rfl
theorem ln_172 : q_ln 172 = 6 := of_decide_eq_true rfl
theorem kd_173 : q_kd 173 = 10 := of_decide_eq_true rfl
theorem ln_173 : q_ln 173 = 6 := of_decide_eq_true rfl
theorem kd_174 : q_kd 174 = 10 := of_decide_eq_true rfl
theorem ln_174 : q_ln 174 = 6 := of_decide_eq_true rfl
theorem kd_175 : q_kd 175 = 10 := of_decide_eq_true rfl
theorem ln_175 : q_ln 175 = 6 := of_decide_eq_true rfl
theorem kd_176 : q_kd 176 = 10 := of_decide_eq_true rfl
theorem ln_176 : q_ln 176 = 4 := of_decide_eq_true rfl
theorem kd_177 : q_kd 177 = 5 := of_decide_eq_true rfl
theorem kd_178 : q_kd 178 = 10 := of_decide_eq_true rfl
theorem ln_178 : q_ln 178 = 3 := of_decide_eq_true rfl
theorem kd_179 : q_kd 179 = 10 := of_decide_eq_true rfl
theorem ln_179 : q_ln 179 = 3 := of_decide_eq_true rfl
theorem kd_180 : q_kd 180 = 10 := of_decide_eq_true rfl
theorem ln_180 : q_ln 180 = 3 := of_decide_eq_true rfl
theorem kd_181 : q_kd 181 = 10 := of_decide_eq_true rfl
theorem ln_181 : q_ln 181 = 4 := of_decide_eq_true rfl
theorem kd_182 : q_kd 182 = 4 := of_decide_eq_true rfl
theorem kd_183 : q_kd 183 = 12 := of_decide_eq_true rfl
theorem ln_183 : q_ln 183 = 480 := of_decide_eq_true rfl
theorem kd_184 : q_kd 184 = 12 := of_decide_eq_true rfl
theorem ln_184 : q_ln 184 = 48 := of_decide_eq_true rfl
theorem kd_185 : q_kd 185 = 1 := of_decide_eq_true rfl
theorem kd_186 : q_kd 186 = 10 := of_decide_eq_true rfl
theorem ln_186 : q_ln 186 = 16 := of_decide_eq_true rfl
theorem kd_187 : q_kd 187 = 8 := of_decide_eq_true rfl
theorem kd_188 : q_kd 188 = 10 := of_decide_eq_true rfl
theorem ln_188 : q_ln 188 = 48 := of_decide_eq_true rfl
theorem kd_189 : q_kd 189 = 10 := of_decide_eq_true rfl
theorem ln_189 : q_ln 189 = 96 := of_decide_eq_true rfl
theorem kd_190 : q_kd 190 = 13 := of_decide_eq_true rfl
theorem ln_190 : q_ln 190 = 2 := of_decide_eq_true rfl
theorem kd_191 : q_kd 191 = 10 := of_decide_eq_true rfl
theorem ln_191 : q_ln 191 = 384 := of_decide_eq_true rfl
theorem kd_192 : q_kd 192 = 10 := of_decide_eq_true rfl
theorem ln_192 : q_ln 192 = 8 := of_decide_eq_true rfl
theorem kd_193 : q_kd 193 = 10 := of_decide_eq_true rfl
theorem ln_193 : q_ln 193 = 8 := of_decide_eq_true rfl
theorem kd_194 : q_kd 194 = 10 := of_decide_eq_true rfl
theorem ln_194 : q_ln 194 = 320 := of_decide_eq_true rfl
theorem kd_195 : q_kd 195 = 10 := of_decide_eq_true rfl
theorem ln_195 : q_ln 195 = 400 := of_decide_eq_true rfl
theorem kd_196 : q_kd 196 = 10 := of_decide_eq_true rfl
theorem ln_196 : q_ln 196 = 48 := of_decide_eq_true rfl
theorem kd_197 : q_kd 197 = 10 := of_decide_eq_true rfl
theorem ln_197 : q_ln 197 = 2688 := of_decide_eq_true rfl
theorem kd_198 : q_kd 198 = 10 := of_decide_eq_true rfl
theorem ln_198 : q_ln 198 = 16 := of_decide_eq_true rfl
