/-! FACTS by method, field, call, constant (by program, wip/whole/tools/mkinst.py) -/
theorem qd_0 {pc : Nat} {x : Except DecodeError (Instr × Nat)} (h : decode cX0_init pc = x) : decode (q_code 0) pc = x := h
theorem qo_0 : q_own 0 = 0 := rfl
theorem qr_0 : q_ret 0 = none := rfl
theorem qn_0 : q_na 0 = 1 := rfl
theorem ql_0 : q_ml 0 = 2 := rfl
theorem qd_1 {pc : Nat} {x : Except DecodeError (Instr × Nat)} (h : decode cX0_keep pc = x) : decode (q_code 1) pc = x := h
theorem qo_1 : q_own 1 = 0 := rfl
theorem qr_1 : q_ret 1 = none := rfl
theorem qn_1 : q_na 1 = 2 := rfl
theorem ql_1 : q_ml 1 = 2 := rfl
theorem qd_2 {pc : Nat} {x : Except DecodeError (Instr × Nat)} (h : decode cX0_takeBack pc = x) : decode (q_code 2) pc = x := h
theorem qo_2 : q_own 2 = 0 := rfl
theorem qr_2 : q_ret 2 = none := rfl
theorem qn_2 : q_na 2 = 2 := rfl
theorem ql_2 : q_ml 2 = 2 := rfl
theorem qd_3 {pc : Nat} {x : Except DecodeError (Instr × Nat)} (h : decode cX0_forget pc = x) : decode (q_code 3) pc = x := h
theorem qo_3 : q_own 3 = 0 := rfl
theorem qr_3 : q_ret 3 = none := rfl
theorem qn_3 : q_na 3 = 1 := rfl
theorem ql_3 : q_ml 3 = 1 := rfl
theorem qd_4 {pc : Nat} {x : Except DecodeError (Instr × Nat)} (h : decode cX1_init pc = x) : decode (q_code 4) pc = x := h
theorem qo_4 : q_own 4 = 1 := rfl
theorem qr_4 : q_ret 4 = none := rfl
theorem qn_4 : q_na 4 = 2 := rfl
theorem ql_4 : q_ml 4 = 2 := rfl
theorem qd_5 {pc : Nat} {x : Except DecodeError (Instr × Nat)} (h : decode cX1_askSize pc = x) : decode (q_code 5) pc = x := h
theorem qo_5 : q_own 5 = 1 := rfl
theorem qr_5 : q_ret 5 = (some .int) := rfl
theorem qn_5 : q_na 5 = 2 := rfl
theorem ql_5 : q_ml 5 = 2 := rfl
theorem qd_6 {pc : Nat} {x : Except DecodeError (Instr × Nat)} (h : decode cX1_askMark pc = x) : decode (q_code 6) pc = x := h
theorem qo_6 : q_own 6 = 1 := rfl
theorem qr_6 : q_ret 6 = (some .int) := rfl
theorem qn_6 : q_na 6 = 2 := rfl
theorem ql_6 : q_ml 6 = 2 := rfl
theorem qd_7 {pc : Nat} {x : Except DecodeError (Instr × Nat)} (h : decode cX1_body10 pc = x) : decode (q_code 7) pc = x := h
theorem qo_7 : q_own 7 = 1 := rfl
theorem qr_7 : q_ret 7 = (some .int) := rfl
theorem qn_7 : q_na 7 = 2 := rfl
theorem ql_7 : q_ml 7 = 2 := rfl
theorem qd_8 {pc : Nat} {x : Except DecodeError (Instr × Nat)} (h : decode cX1_body11 pc = x) : decode (q_code 8) pc = x := h
theorem qo_8 : q_own 8 = 1 := rfl
theorem qr_8 : q_ret 8 = (some .int) := rfl
theorem qn_8 : q_na 8 = 2 := rfl
theorem ql_8 : q_ml 8 = 3 := rfl
theorem qd_9 {pc : Nat} {x : Except DecodeError (Instr × Nat)} (h : decode cX1_body12 pc = x) : decode (q_code 9) pc = x := h
theorem qo_9 : q_own 9 = 1 := rfl
theorem qr_9 : q_ret 9 = (some .int) := rfl
theorem qn_9 : q_na 9 = 2 := rfl
theorem ql_9 : q_ml 9 = 2 := rfl
theorem qd_10 {pc : Nat} {x : Except DecodeError (Instr × Nat)} (h : decode cX1_body13 pc = x) : decode (q_code 10) pc = x := h
theorem qo_10 : q_own 10 = 1 := rfl
theorem qr_10 : q_ret 10 = (some .int) := rfl
theorem qn_10 : q_na 10 = 2 := rfl
theorem ql_10 : q_ml 10 = 2 := rfl
theorem qd_11 {pc : Nat} {x : Except DecodeError (Instr × Nat)} (h : decode cX1_body14 pc = x) : decode (q_code 11) pc = x := h
theorem qo_11 : q_own 11 = 1 := rfl
theorem qr_11 : q_ret 11 = (some .int) := rfl
theorem qn_11 : q_na 11 = 2 := rfl
theorem ql_11 : q_ml 11 = 2 := rfl
theorem qd_12 {pc : Nat} {x : Except DecodeError (Instr × Nat)} (h : decode cX1_body20 pc = x) : decode (q_code 12) pc = x := h
theorem qo_12 : q_own 12 = 1 := rfl
theorem qr_12 : q_ret 12 = (some .int) := rfl
theorem qn_12 : q_na 12 = 2 := rfl
theorem ql_12 : q_ml 12 = 2 := rfl
theorem qd_13 {pc : Nat} {x : Except DecodeError (Instr × Nat)} (h : decode cX1_body21 pc = x) : decode (q_code 13) pc = x := h
theorem qo_13 : q_own 13 = 1 := rfl
theorem qr_13 : q_ret 13 = (some .int) := rfl
theorem qn_13 : q_na 13 = 2 := rfl
theorem ql_13 : q_ml 13 = 2 := rfl
theorem qd_14 {pc : Nat} {x : Except DecodeError (Instr × Nat)} (h : decode cX1_body22 pc = x) : decode (q_code 14) pc = x := h
theorem qo_14 : q_own 14 = 1 := rfl
theorem qr_14 : q_ret 14 = (some .int) := rfl
theorem qn_14 : q_na 14 = 2 := rfl
theorem ql_14 : q_ml 14 = 2 := rfl
theorem qd_15 {pc : Nat} {x : Except DecodeError (Instr × Nat)} (h : decode cX1_body23 pc = x) : decode (q_code 15) pc = x := h
theorem qo_15 : q_own 15 = 1 := rfl
theorem qr_15 : q_ret 15 = (some .int) := rfl
theorem qn_15 : q_na 15 = 2 := rfl
theorem ql_15 : q_ml 15 = 3 := rfl
theorem qd_16 {pc : Nat} {x : Except DecodeError (Instr × Nat)} (h : decode cX1_body24 pc = x) : decode (q_code 16) pc = x := h
theorem qo_16 : q_own 16 = 1 := rfl
theorem qr_16 : q_ret 16 = (some .int) := rfl
theorem qn_16 : q_na 16 = 2 := rfl
theorem ql_16 : q_ml 16 = 2 := rfl
theorem qd_17 {pc : Nat} {x : Except DecodeError (Instr × Nat)} (h : decode cX1_leave pc = x) : decode (q_code 17) pc = x := h
theorem qo_17 : q_own 17 = 1 := rfl
theorem qr_17 : q_ret 17 = none := rfl
theorem qn_17 : q_na 17 = 2 := rfl
theorem ql_17 : q_ml 17 = 2 := rfl
theorem qd_18 {pc : Nat} {x : Except DecodeError (Instr × Nat)} (h : decode cX2_init pc = x) : decode (q_code 18) pc = x := h
theorem qo_18 : q_own 18 = 2 := rfl
theorem qr_18 : q_ret 18 = none := rfl
theorem qn_18 : q_na 18 = 1 := rfl
theorem ql_18 : q_ml 18 = 1 := rfl
theorem qd_19 {pc : Nat} {x : Except DecodeError (Instr × Nat)} (h : decode cX2_become pc = x) : decode (q_code 19) pc = x := h
theorem qo_19 : q_own 19 = 2 := rfl
theorem qr_19 : q_ret 19 = none := rfl
theorem qn_19 : q_na 19 = 2 := rfl
theorem ql_19 : q_ml 19 = 2 := rfl
theorem qd_20 {pc : Nat} {x : Except DecodeError (Instr × Nat)} (h : decode cX2_isCrossing pc = x) : decode (q_code 20) pc = x := h
theorem qo_20 : q_own 20 = 2 := rfl
theorem qr_20 : q_ret 20 = (some .boolean) := rfl
theorem qn_20 : q_na 20 = 2 := rfl
theorem ql_20 : q_ml 20 = 2 := rfl
theorem qd_21 {pc : Nat} {x : Except DecodeError (Instr × Nat)} (h : decode cX2_isCarrier pc = x) : decode (q_code 21) pc = x := h
theorem qo_21 : q_own 21 = 2 := rfl
theorem qr_21 : q_ret 21 = (some .boolean) := rfl
theorem qn_21 : q_na 21 = 2 := rfl
theorem ql_21 : q_ml 21 = 2 := rfl
theorem qd_22 {pc : Nat} {x : Except DecodeError (Instr × Nat)} (h : decode cX2_isLoad pc = x) : decode (q_code 22) pc = x := h
theorem qo_22 : q_own 22 = 2 := rfl
theorem qr_22 : q_ret 22 = (some .boolean) := rfl
theorem qn_22 : q_na 22 = 2 := rfl
theorem ql_22 : q_ml 22 = 2 := rfl
theorem qd_23 {pc : Nat} {x : Except DecodeError (Instr × Nat)} (h : decode cX2_isSort pc = x) : decode (q_code 23) pc = x := h
theorem qo_23 : q_own 23 = 2 := rfl
theorem qr_23 : q_ret 23 = (some .boolean) := rfl
theorem qn_23 : q_na 23 = 3 := rfl
theorem ql_23 : q_ml 23 = 3 := rfl
theorem qd_24 {pc : Nat} {x : Except DecodeError (Instr × Nat)} (h : decode cX2_bitsOf pc = x) : decode (q_code 24) pc = x := h
theorem qo_24 : q_own 24 = 2 := rfl
theorem qr_24 : q_ret 24 = (some .int) := rfl
theorem qn_24 : q_na 24 = 2 := rfl
theorem ql_24 : q_ml 24 = 4 := rfl
theorem qd_25 {pc : Nat} {x : Except DecodeError (Instr × Nat)} (h : decode cX2_isLaden pc = x) : decode (q_code 25) pc = x := h
theorem qo_25 : q_own 25 = 2 := rfl
theorem qr_25 : q_ret 25 = (some .boolean) := rfl
theorem qn_25 : q_na 25 = 2 := rfl
theorem ql_25 : q_ml 25 = 2 := rfl
theorem qd_26 {pc : Nat} {x : Except DecodeError (Instr × Nat)} (h : decode cX2_otherEnd pc = x) : decode (q_code 26) pc = x := h
theorem qo_26 : q_own 26 = 2 := rfl
theorem qr_26 : q_ret 26 = (some .int) := rfl
theorem qn_26 : q_na 26 = 3 := rfl
theorem ql_26 : q_ml 26 = 3 := rfl
theorem qd_27 {pc : Nat} {x : Except DecodeError (Instr × Nat)} (h : decode cX2_nextLaden pc = x) : decode (q_code 27) pc = x := h
theorem qo_27 : q_own 27 = 2 := rfl
theorem qr_27 : q_ret 27 = (some .int) := rfl
theorem qn_27 : q_na 27 = 2 := rfl
theorem ql_27 : q_ml 27 = 2 := rfl
theorem qd_28 {pc : Nat} {x : Except DecodeError (Instr × Nat)} (h : decode cX2_may pc = x) : decode (q_code 28) pc = x := h
theorem qo_28 : q_own 28 = 2 := rfl
theorem qr_28 : q_ret 28 = (some .boolean) := rfl
theorem qn_28 : q_na 28 = 3 := rfl
theorem ql_28 : q_ml 28 = 3 := rfl
theorem qd_29 {pc : Nat} {x : Except DecodeError (Instr × Nat)} (h : decode cX2_mayGoOver pc = x) : decode (q_code 29) pc = x := h
theorem qo_29 : q_own 29 = 2 := rfl
theorem qr_29 : q_ret 29 = (some .int) := rfl
theorem qn_29 : q_na 29 = 2 := rfl
theorem ql_29 : q_ml 29 = 4 := rfl
theorem qd_30 {pc : Nat} {x : Except DecodeError (Instr × Nat)} (h : decode cX2_goOver pc = x) : decode (q_code 30) pc = x := h
theorem qo_30 : q_own 30 = 2 := rfl
theorem qr_30 : q_ret 30 = none := rfl
theorem qn_30 : q_na 30 = 3 := rfl
theorem ql_30 : q_ml 30 = 3 := rfl
theorem qd_31 {pc : Nat} {x : Except DecodeError (Instr × Nat)} (h : decode cX2_whoHas pc = x) : decode (q_code 31) pc = x := h
theorem qo_31 : q_own 31 = 2 := rfl
theorem qr_31 : q_ret 31 = (some .int) := rfl
theorem qn_31 : q_na 31 = 2 := rfl
theorem ql_31 : q_ml 31 = 3 := rfl
theorem qd_32 {pc : Nat} {x : Except DecodeError (Instr × Nat)} (h : decode cX2_canBring pc = x) : decode (q_code 32) pc = x := h
theorem qo_32 : q_own 32 = 2 := rfl
theorem qr_32 : q_ret 32 = (some .boolean) := rfl
theorem qn_32 : q_na 32 = 3 := rfl
theorem ql_32 : q_ml 32 = 3 := rfl
theorem qd_33 {pc : Nat} {x : Except DecodeError (Instr × Nat)} (h : decode cX3_init pc = x) : decode (q_code 33) pc = x := h
theorem qo_33 : q_own 33 = 3 := rfl
theorem qr_33 : q_ret 33 = none := rfl
theorem qn_33 : q_na 33 = 1 := rfl
theorem ql_33 : q_ml 33 = 2 := rfl
theorem qd_34 {pc : Nat} {x : Except DecodeError (Instr × Nat)} (h : decode cX3_isMissing pc = x) : decode (q_code 34) pc = x := h
theorem qo_34 : q_own 34 = 3 := rfl
theorem qr_34 : q_ret 34 = (some .boolean) := rfl
theorem qn_34 : q_na 34 = 2 := rfl
theorem ql_34 : q_ml 34 = 2 := rfl
theorem qd_35 {pc : Nat} {x : Except DecodeError (Instr × Nat)} (h : decode cX3_make pc = x) : decode (q_code 35) pc = x := h
theorem qo_35 : q_own 35 = 3 := rfl
theorem qr_35 : q_ret 35 = none := rfl
theorem qn_35 : q_na 35 = 4 := rfl
theorem ql_35 : q_ml 35 = 5 := rfl
theorem qd_36 {pc : Nat} {x : Except DecodeError (Instr × Nat)} (h : decode cX3_cutToLane pc = x) : decode (q_code 36) pc = x := h
theorem qo_36 : q_own 36 = 3 := rfl
theorem qr_36 : q_ret 36 = (some .int) := rfl
theorem qn_36 : q_na 36 = 3 := rfl
theorem ql_36 : q_ml 36 = 3 := rfl
theorem qd_37 {pc : Nat} {x : Except DecodeError (Instr × Nat)} (h : decode cX3_holds pc = x) : decode (q_code 37) pc = x := h
theorem qo_37 : q_own 37 = 3 := rfl
theorem qr_37 : q_ret 37 = (some .boolean) := rfl
theorem qn_37 : q_na 37 = 4 := rfl
theorem ql_37 : q_ml 37 = 4 := rfl
theorem qd_38 {pc : Nat} {x : Except DecodeError (Instr × Nat)} (h : decode cX3_countThere pc = x) : decode (q_code 38) pc = x := h
theorem qo_38 : q_own 38 = 3 := rfl
theorem qr_38 : q_ret 38 = (some .int) := rfl
theorem qn_38 : q_na 38 = 1 := rfl
theorem ql_38 : q_ml 38 = 3 := rfl
theorem qd_39 {pc : Nat} {x : Except DecodeError (Instr × Nat)} (h : decode cX4_init pc = x) : decode (q_code 39) pc = x := h
theorem qo_39 : q_own 39 = 4 := rfl
theorem qr_39 : q_ret 39 = none := rfl
theorem qn_39 : q_na 39 = 2 := rfl
theorem ql_39 : q_ml 39 = 2 := rfl
theorem qd_40 {pc : Nat} {x : Except DecodeError (Instr × Nat)} (h : decode cX4_stepsToBring pc = x) : decode (q_code 40) pc = x := h
theorem qo_40 : q_own 40 = 4 := rfl
theorem qr_40 : q_ret 40 = (some .int) := rfl
theorem qn_40 : q_na 40 = 3 := rfl
theorem ql_40 : q_ml 40 = 5 := rfl
theorem qd_41 {pc : Nat} {x : Except DecodeError (Instr × Nat)} (h : decode cX4_stepsToTown pc = x) : decode (q_code 41) pc = x := h
theorem qo_41 : q_own 41 = 4 := rfl
theorem qr_41 : q_ret 41 = (some .int) := rfl
theorem qn_41 : q_na 41 = 3 := rfl
theorem ql_41 : q_ml 41 = 4 := rfl
theorem qd_42 {pc : Nat} {x : Except DecodeError (Instr × Nat)} (h : decode cX4_stepsToRight pc = x) : decode (q_code 42) pc = x := h
theorem qo_42 : q_own 42 = 4 := rfl
theorem qr_42 : q_ret 42 = (some .int) := rfl
theorem qn_42 : q_na 42 = 3 := rfl
theorem ql_42 : q_ml 42 = 4 := rfl
theorem qd_43 {pc : Nat} {x : Except DecodeError (Instr × Nat)} (h : decode cX4_begin pc = x) : decode (q_code 43) pc = x := h
theorem qo_43 : q_own 43 = 4 := rfl
theorem qr_43 : q_ret 43 = none := rfl
theorem qn_43 : q_na 43 = 3 := rfl
theorem ql_43 : q_ml 43 = 4 := rfl
theorem qd_44 {pc : Nat} {x : Except DecodeError (Instr × Nat)} (h : decode cX4_start pc = x) : decode (q_code 44) pc = x := h
theorem qo_44 : q_own 44 = 4 := rfl
theorem qr_44 : q_ret 44 = none := rfl
theorem qn_44 : q_na 44 = 3 := rfl
theorem ql_44 : q_ml 44 = 3 := rfl
theorem qd_45 {pc : Nat} {x : Except DecodeError (Instr × Nat)} (h : decode cX4_stepsTo pc = x) : decode (q_code 45) pc = x := h
theorem qo_45 : q_own 45 = 4 := rfl
theorem qr_45 : q_ret 45 = (some .int) := rfl
theorem qn_45 : q_na 45 = 3 := rfl
theorem ql_45 : q_ml 45 = 9 := rfl
theorem qd_46 {pc : Nat} {x : Except DecodeError (Instr × Nat)} (h : decode cX4_takeAndLay pc = x) : decode (q_code 46) pc = x := h
theorem qo_46 : q_own 46 = 4 := rfl
theorem qr_46 : q_ret 46 = none := rfl
theorem qn_46 : q_na 46 = 3 := rfl
theorem ql_46 : q_ml 46 = 7 := rfl
theorem qd_47 {pc : Nat} {x : Except DecodeError (Instr × Nat)} (h : decode cX4_goOn pc = x) : decode (q_code 47) pc = x := h
theorem qo_47 : q_own 47 = 4 := rfl
theorem qr_47 : q_ret 47 = none := rfl
theorem qn_47 : q_na 47 = 4 := rfl
theorem ql_47 : q_ml 47 = 13 := rfl
theorem qd_48 {pc : Nat} {x : Except DecodeError (Instr × Nat)} (h : decode cX4_setsBehind pc = x) : decode (q_code 48) pc = x := h
theorem qo_48 : q_own 48 = 4 := rfl
theorem qr_48 : q_ret 48 = (some .long) := rfl
theorem qn_48 : q_na 48 = 4 := rfl
theorem ql_48 : q_ml 48 = 5 := rfl
theorem qd_49 {pc : Nat} {x : Except DecodeError (Instr × Nat)} (h : decode cX5_init pc = x) : decode (q_code 49) pc = x := h
theorem qo_49 : q_own 49 = 5 := rfl
theorem qr_49 : q_ret 49 = none := rfl
theorem qn_49 : q_na 49 = 1 := rfl
theorem ql_49 : q_ml 49 = 1 := rfl
theorem qd_50 {pc : Nat} {x : Except DecodeError (Instr × Nat)} (h : decode cX5_become pc = x) : decode (q_code 50) pc = x := h
theorem qo_50 : q_own 50 = 5 := rfl
theorem qr_50 : q_ret 50 = none := rfl
theorem qn_50 : q_na 50 = 2 := rfl
theorem ql_50 : q_ml 50 = 2 := rfl
theorem qd_51 {pc : Nat} {x : Except DecodeError (Instr × Nat)} (h : decode cX6_init pc = x) : decode (q_code 51) pc = x := h
theorem qo_51 : q_own 51 = 6 := rfl
theorem qr_51 : q_ret 51 = none := rfl
theorem qn_51 : q_na 51 = 1 := rfl
theorem ql_51 : q_ml 51 = 1 := rfl
theorem qd_52 {pc : Nat} {x : Except DecodeError (Instr × Nat)} (h : decode cX6_add pc = x) : decode (q_code 52) pc = x := h
theorem qo_52 : q_own 52 = 6 := rfl
theorem qr_52 : q_ret 52 = none := rfl
theorem qn_52 : q_na 52 = 2 := rfl
theorem ql_52 : q_ml 52 = 2 := rfl
theorem qd_53 {pc : Nat} {x : Except DecodeError (Instr × Nat)} (h : decode cX6_read pc = x) : decode (q_code 53) pc = x := h
theorem qo_53 : q_own 53 = 6 := rfl
theorem qr_53 : q_ret 53 = (some .boolean) := rfl
theorem qn_53 : q_na 53 = 1 := rfl
theorem ql_53 : q_ml 53 = 2 := rfl
theorem qd_54 {pc : Nat} {x : Except DecodeError (Instr × Nat)} (h : decode cX6_clearDraft pc = x) : decode (q_code 54) pc = x := h
theorem qo_54 : q_own 54 = 6 := rfl
theorem qr_54 : q_ret 54 = none := rfl
theorem qn_54 : q_na 54 = 1 := rfl
theorem ql_54 : q_ml 54 = 1 := rfl
theorem qd_55 {pc : Nat} {x : Except DecodeError (Instr × Nat)} (h : decode cX6_readCrossing pc = x) : decode (q_code 55) pc = x := h
theorem qo_55 : q_own 55 = 6 := rfl
theorem qr_55 : q_ret 55 = (some .boolean) := rfl
theorem qn_55 : q_na 55 = 1 := rfl
theorem ql_55 : q_ml 55 = 2 := rfl
theorem qd_56 {pc : Nat} {x : Except DecodeError (Instr × Nat)} (h : decode cX6_readCarrier pc = x) : decode (q_code 56) pc = x := h
theorem qo_56 : q_own 56 = 6 := rfl
theorem qr_56 : q_ret 56 = (some .boolean) := rfl
theorem qn_56 : q_na 56 = 1 := rfl
theorem ql_56 : q_ml 56 = 2 := rfl
theorem qd_57 {pc : Nat} {x : Except DecodeError (Instr × Nat)} (h : decode cX6_readLoad pc = x) : decode (q_code 57) pc = x := h
theorem qo_57 : q_own 57 = 6 := rfl
theorem qr_57 : q_ret 57 = (some .boolean) := rfl
theorem qn_57 : q_na 57 = 1 := rfl
theorem ql_57 : q_ml 57 = 2 := rfl
theorem qd_58 {pc : Nat} {x : Except DecodeError (Instr × Nat)} (h : decode cX6_readNumber pc = x) : decode (q_code 58) pc = x := h
theorem qo_58 : q_own 58 = 6 := rfl
theorem qr_58 : q_ret 58 = (some .boolean) := rfl
theorem qn_58 : q_na 58 = 3 := rfl
theorem ql_58 : q_ml 58 = 3 := rfl
theorem qd_59 {pc : Nat} {x : Except DecodeError (Instr × Nat)} (h : decode cX6_readEnd pc = x) : decode (q_code 59) pc = x := h
theorem qo_59 : q_own 59 = 6 := rfl
theorem qr_59 : q_ret 59 = (some .boolean) := rfl
theorem qn_59 : q_na 59 = 1 := rfl
theorem ql_59 : q_ml 59 = 1 := rfl
theorem qd_60 {pc : Nat} {x : Except DecodeError (Instr × Nat)} (h : decode cX6_failWith pc = x) : decode (q_code 60) pc = x := h
theorem qo_60 : q_own 60 = 6 := rfl
theorem qr_60 : q_ret 60 = (some .boolean) := rfl
theorem qn_60 : q_na 60 = 2 := rfl
theorem ql_60 : q_ml 60 = 2 := rfl
theorem qd_61 {pc : Nat} {x : Except DecodeError (Instr × Nat)} (h : decode cX6_sortNamed pc = x) : decode (q_code 61) pc = x := h
theorem qo_61 : q_own 61 = 6 := rfl
theorem qr_61 : q_ret 61 = (some .int) := rfl
theorem qn_61 : q_na 61 = 1 := rfl
theorem ql_61 : q_ml 61 = 1 := rfl
theorem qd_62 {pc : Nat} {x : Except DecodeError (Instr × Nat)} (h : decode cX6_isWord pc = x) : decode (q_code 62) pc = x := h
theorem qo_62 : q_own 62 = 6 := rfl
theorem qr_62 : q_ret 62 = (some .boolean) := rfl
theorem qn_62 : q_na 62 = 2 := rfl
theorem ql_62 : q_ml 62 = 3 := rfl
theorem qd_63 {pc : Nat} {x : Except DecodeError (Instr × Nat)} (h : decode cX6_advance pc = x) : decode (q_code 63) pc = x := h
theorem qo_63 : q_own 63 = 6 := rfl
theorem qr_63 : q_ret 63 = none := rfl
theorem qn_63 : q_na 63 = 1 := rfl
theorem ql_63 : q_ml 63 = 1 := rfl
theorem qd_64 {pc : Nat} {x : Except DecodeError (Instr × Nat)} (h : decode cX6_advanceName pc = x) : decode (q_code 64) pc = x := h
theorem qo_64 : q_own 64 = 6 := rfl
theorem qr_64 : q_ret 64 = none := rfl
theorem qn_64 : q_na 64 = 1 := rfl
theorem ql_64 : q_ml 64 = 1 := rfl
theorem qd_65 {pc : Nat} {x : Except DecodeError (Instr × Nat)} (h : decode cX6_advanceNumber pc = x) : decode (q_code 65) pc = x := h
theorem qo_65 : q_own 65 = 6 := rfl
theorem qr_65 : q_ret 65 = none := rfl
theorem qn_65 : q_na 65 = 1 := rfl
theorem ql_65 : q_ml 65 = 1 := rfl
theorem qd_66 {pc : Nat} {x : Except DecodeError (Instr × Nat)} (h : decode cX6_isLetter pc = x) : decode (q_code 66) pc = x := h
theorem qo_66 : q_own 66 = 6 := rfl
theorem qr_66 : q_ret 66 = (some .boolean) := rfl
theorem qn_66 : q_na 66 = 1 := rfl
theorem ql_66 : q_ml 66 = 1 := rfl
theorem qd_67 {pc : Nat} {x : Except DecodeError (Instr × Nat)} (h : decode cX6_isFigure pc = x) : decode (q_code 67) pc = x := h
theorem qo_67 : q_own 67 = 6 := rfl
theorem qr_67 : q_ret 67 = (some .boolean) := rfl
theorem qn_67 : q_na 67 = 1 := rfl
theorem ql_67 : q_ml 67 = 1 := rfl
theorem qd_68 {pc : Nat} {x : Except DecodeError (Instr × Nat)} (h : decode cX7_init pc = x) : decode (q_code 68) pc = x := h
theorem qo_68 : q_own 68 = 7 := rfl
theorem qr_68 : q_ret 68 = none := rfl
theorem qn_68 : q_na 68 = 1 := rfl
theorem ql_68 : q_ml 68 = 2 := rfl
theorem qd_69 {pc : Nat} {x : Except DecodeError (Instr × Nat)} (h : decode cX7_row pc = x) : decode (q_code 69) pc = x := h
theorem qo_69 : q_own 69 = 7 := rfl
theorem qr_69 : q_ret 69 = (some .int) := rfl
theorem qn_69 : q_na 69 = 4 := rfl
theorem ql_69 : q_ml 69 = 4 := rfl
theorem qd_70 {pc : Nat} {x : Except DecodeError (Instr × Nat)} (h : decode cX7_set pc = x) : decode (q_code 70) pc = x := h
theorem qo_70 : q_own 70 = 7 := rfl
theorem qr_70 : q_ret 70 = (some .int) := rfl
theorem qn_70 : q_na 70 = 4 := rfl
theorem ql_70 : q_ml 70 = 4 := rfl
theorem qd_71 {pc : Nat} {x : Except DecodeError (Instr × Nat)} (h : decode cX7_copy pc = x) : decode (q_code 71) pc = x := h
theorem qo_71 : q_own 71 = 7 := rfl
theorem qr_71 : q_ret 71 = (some .int) := rfl
theorem qn_71 : q_na 71 = 6 := rfl
theorem ql_71 : q_ml 71 = 6 := rfl
theorem qd_72 {pc : Nat} {x : Except DecodeError (Instr × Nat)} (h : decode cX7_drop pc = x) : decode (q_code 72) pc = x := h
theorem qo_72 : q_own 72 = 7 := rfl
theorem qr_72 : q_ret 72 = (some .int) := rfl
theorem qn_72 : q_na 72 = 2 := rfl
theorem ql_72 : q_ml 72 = 3 := rfl
theorem qd_73 {pc : Nat} {x : Except DecodeError (Instr × Nat)} (h : decode cX7_feed pc = x) : decode (q_code 73) pc = x := h
theorem qo_73 : q_own 73 = 7 := rfl
theorem qr_73 : q_ret 73 = (some .int) := rfl
theorem qn_73 : q_na 73 = 3 := rfl
theorem ql_73 : q_ml 73 = 5 := rfl
theorem qd_74 {pc : Nat} {x : Except DecodeError (Instr × Nat)} (h : decode cX7_land pc = x) : decode (q_code 74) pc = x := h
theorem qo_74 : q_own 74 = 7 := rfl
theorem qr_74 : q_ret 74 = (some .int) := rfl
theorem qn_74 : q_na 74 = 1 := rfl
theorem ql_74 : q_ml 74 = 2 := rfl
theorem qd_75 {pc : Nat} {x : Except DecodeError (Instr × Nat)} (h : decode cX7_fault pc = x) : decode (q_code 75) pc = x := h
theorem qo_75 : q_own 75 = 7 := rfl
theorem qr_75 : q_ret 75 = (some .int) := rfl
theorem qn_75 : q_na 75 = 1 := rfl
theorem ql_75 : q_ml 75 = 1 := rfl
theorem qd_76 {pc : Nat} {x : Except DecodeError (Instr × Nat)} (h : decode cX7_go pc = x) : decode (q_code 76) pc = x := h
theorem qo_76 : q_own 76 = 7 := rfl
theorem qr_76 : q_ret 76 = (some .int) := rfl
theorem qn_76 : q_na 76 = 3 := rfl
theorem ql_76 : q_ml 76 = 3 := rfl
theorem qd_77 {pc : Nat} {x : Except DecodeError (Instr × Nat)} (h : decode cX7_take pc = x) : decode (q_code 77) pc = x := h
theorem qo_77 : q_own 77 = 7 := rfl
theorem qr_77 : q_ret 77 = (some .int) := rfl
theorem qn_77 : q_na 77 = 3 := rfl
theorem ql_77 : q_ml 77 = 3 := rfl
theorem qd_78 {pc : Nat} {x : Except DecodeError (Instr × Nat)} (h : decode cX7_lay pc = x) : decode (q_code 78) pc = x := h
theorem qo_78 : q_own 78 = 7 := rfl
theorem qr_78 : q_ret 78 = (some .int) := rfl
theorem qn_78 : q_na 78 = 2 := rfl
theorem ql_78 : q_ml 78 = 3 := rfl
theorem qd_79 {pc : Nat} {x : Except DecodeError (Instr × Nat)} (h : decode cX7_hand pc = x) : decode (q_code 79) pc = x := h
theorem qo_79 : q_own 79 = 7 := rfl
theorem qr_79 : q_ret 79 = (some .int) := rfl
theorem qn_79 : q_na 79 = 3 := rfl
theorem ql_79 : q_ml 79 = 4 := rfl
theorem qd_80 {pc : Nat} {x : Except DecodeError (Instr × Nat)} (h : decode cX7_feast pc = x) : decode (q_code 80) pc = x := h
theorem qo_80 : q_own 80 = 7 := rfl
theorem qr_80 : q_ret 80 = (some .int) := rfl
theorem qn_80 : q_na 80 = 1 := rfl
theorem ql_80 : q_ml 80 = 3 := rfl
theorem qd_81 {pc : Nat} {x : Except DecodeError (Instr × Nat)} (h : decode cX7_put pc = x) : decode (q_code 81) pc = x := h
theorem qo_81 : q_own 81 = 7 := rfl
theorem qr_81 : q_ret 81 = (some .int) := rfl
theorem qn_81 : q_na 81 = 3 := rfl
theorem ql_81 : q_ml 81 = 4 := rfl
theorem qd_82 {pc : Nat} {x : Except DecodeError (Instr × Nat)} (h : decode cX7_undo pc = x) : decode (q_code 82) pc = x := h
theorem qo_82 : q_own 82 = 7 := rfl
theorem qr_82 : q_ret 82 = (some .int) := rfl
theorem qn_82 : q_na 82 = 1 := rfl
theorem ql_82 : q_ml 82 = 1 := rfl
theorem qd_83 {pc : Nat} {x : Except DecodeError (Instr × Nat)} (h : decode cX7_carrier pc = x) : decode (q_code 83) pc = x := h
theorem qo_83 : q_own 83 = 7 := rfl
theorem qr_83 : q_ret 83 = (some .int) := rfl
theorem qn_83 : q_na 83 = 3 := rfl
theorem ql_83 : q_ml 83 = 3 := rfl
theorem qd_84 {pc : Nat} {x : Except DecodeError (Instr × Nat)} (h : decode cX7_load pc = x) : decode (q_code 84) pc = x := h
theorem qo_84 : q_own 84 = 7 := rfl
theorem qr_84 : q_ret 84 = (some .int) := rfl
theorem qn_84 : q_na 84 = 3 := rfl
theorem ql_84 : q_ml 84 = 3 := rfl
theorem qd_85 {pc : Nat} {x : Except DecodeError (Instr × Nat)} (h : decode cX7_fewest pc = x) : decode (q_code 85) pc = x := h
theorem qo_85 : q_own 85 = 7 := rfl
theorem qr_85 : q_ret 85 = (some .int) := rfl
theorem qn_85 : q_na 85 = 3 := rfl
theorem ql_85 : q_ml 85 = 3 := rfl
theorem qd_86 {pc : Nat} {x : Except DecodeError (Instr × Nat)} (h : decode cX7_whom pc = x) : decode (q_code 86) pc = x := h
theorem qo_86 : q_own 86 = 7 := rfl
theorem qr_86 : q_ret 86 = (some .int) := rfl
theorem qn_86 : q_na 86 = 2 := rfl
theorem ql_86 : q_ml 86 = 6 := rfl
theorem qd_87 {pc : Nat} {x : Except DecodeError (Instr × Nat)} (h : decode cX7_off pc = x) : decode (q_code 87) pc = x := h
theorem qo_87 : q_own 87 = 7 := rfl
theorem qr_87 : q_ret 87 = (some .int) := rfl
theorem qn_87 : q_na 87 = 3 := rfl
theorem ql_87 : q_ml 87 = 3 := rfl
theorem qd_88 {pc : Nat} {x : Except DecodeError (Instr × Nat)} (h : decode cX7_reach pc = x) : decode (q_code 88) pc = x := h
theorem qo_88 : q_own 88 = 7 := rfl
theorem qr_88 : q_ret 88 = (some .int) := rfl
theorem qn_88 : q_na 88 = 2 := rfl
theorem ql_88 : q_ml 88 = 4 := rfl
theorem qd_89 {pc : Nat} {x : Except DecodeError (Instr × Nat)} (h : decode cX7_right pc = x) : decode (q_code 89) pc = x := h
theorem qo_89 : q_own 89 = 7 := rfl
theorem qr_89 : q_ret 89 = (some .int) := rfl
theorem qn_89 : q_na 89 = 3 := rfl
theorem ql_89 : q_ml 89 = 3 := rfl
theorem qd_90 {pc : Nat} {x : Except DecodeError (Instr × Nat)} (h : decode cX7_walk pc = x) : decode (q_code 90) pc = x := h
theorem qo_90 : q_own 90 = 7 := rfl
theorem qr_90 : q_ret 90 = (some .int) := rfl
theorem qn_90 : q_na 90 = 4 := rfl
theorem ql_90 : q_ml 90 = 5 := rfl
theorem qd_91 {pc : Nat} {x : Except DecodeError (Instr × Nat)} (h : decode cX7_image pc = x) : decode (q_code 91) pc = x := h
theorem qo_91 : q_own 91 = 7 := rfl
theorem qr_91 : q_ret 91 = (some .int) := rfl
theorem qn_91 : q_na 91 = 2 := rfl
theorem ql_91 : q_ml 91 = 2 := rfl
theorem qd_92 {pc : Nat} {x : Except DecodeError (Instr × Nat)} (h : decode cX7_restore pc = x) : decode (q_code 92) pc = x := h
theorem qo_92 : q_own 92 = 7 := rfl
theorem qr_92 : q_ret 92 = (some .int) := rfl
theorem qn_92 : q_na 92 = 2 := rfl
theorem ql_92 : q_ml 92 = 2 := rfl
theorem qd_93 {pc : Nat} {x : Except DecodeError (Instr × Nat)} (h : decode cX7_kind pc = x) : decode (q_code 93) pc = x := h
theorem qo_93 : q_own 93 = 7 := rfl
theorem qr_93 : q_ret 93 = (some .int) := rfl
theorem qn_93 : q_na 93 = 2 := rfl
theorem ql_93 : q_ml 93 = 2 := rfl
theorem qd_94 {pc : Nat} {x : Except DecodeError (Instr × Nat)} (h : decode cX7_as pc = x) : decode (q_code 94) pc = x := h
theorem qo_94 : q_own 94 = 7 := rfl
theorem qr_94 : q_ret 94 = (some .int) := rfl
theorem qn_94 : q_na 94 = 3 := rfl
theorem ql_94 : q_ml 94 = 3 := rfl
theorem qd_95 {pc : Nat} {x : Except DecodeError (Instr × Nat)} (h : decode cX7_ask pc = x) : decode (q_code 95) pc = x := h
theorem qo_95 : q_own 95 = 7 := rfl
theorem qr_95 : q_ret 95 = (some .int) := rfl
theorem qn_95 : q_na 95 = 3 := rfl
theorem ql_95 : q_ml 95 = 3 := rfl
theorem qd_96 {pc : Nat} {x : Except DecodeError (Instr × Nat)} (h : decode cX7_trace pc = x) : decode (q_code 96) pc = x := h
theorem qo_96 : q_own 96 = 7 := rfl
theorem qr_96 : q_ret 96 = (some .int) := rfl
theorem qn_96 : q_na 96 = 2 := rfl
theorem ql_96 : q_ml 96 = 2 := rfl
theorem qd_97 {pc : Nat} {x : Except DecodeError (Instr × Nat)} (h : decode cX7_count pc = x) : decode (q_code 97) pc = x := h
theorem qo_97 : q_own 97 = 7 := rfl
theorem qr_97 : q_ret 97 = (some .int) := rfl
theorem qn_97 : q_na 97 = 2 := rfl
theorem ql_97 : q_ml 97 = 2 := rfl
theorem qd_98 {pc : Nat} {x : Except DecodeError (Instr × Nat)} (h : decode cX7_status pc = x) : decode (q_code 98) pc = x := h
theorem qo_98 : q_own 98 = 7 := rfl
theorem qr_98 : q_ret 98 = (some .int) := rfl
theorem qn_98 : q_na 98 = 1 := rfl
theorem ql_98 : q_ml 98 = 1 := rfl
theorem qd_99 {pc : Nat} {x : Except DecodeError (Instr × Nat)} (h : decode cX7_isIn pc = x) : decode (q_code 99) pc = x := h
theorem qo_99 : q_own 99 = 7 := rfl
theorem qr_99 : q_ret 99 = (some .boolean) := rfl
theorem qn_99 : q_na 99 = 2 := rfl
theorem ql_99 : q_ml 99 = 2 := rfl
theorem qd_100 {pc : Nat} {x : Except DecodeError (Instr × Nat)} (h : decode cX7_found pc = x) : decode (q_code 100) pc = x := h
theorem qo_100 : q_own 100 = 7 := rfl
theorem qr_100 : q_ret 100 = (some .int) := rfl
theorem qn_100 : q_na 100 = 2 := rfl
theorem ql_100 : q_ml 100 = 2 := rfl
theorem qd_101 {pc : Nat} {x : Except DecodeError (Instr × Nat)} (h : decode cX7_well pc = x) : decode (q_code 101) pc = x := h
theorem qo_101 : q_own 101 = 7 := rfl
theorem qr_101 : q_ret 101 = (some .int) := rfl
theorem qn_101 : q_na 101 = 2 := rfl
theorem ql_101 : q_ml 101 = 2 := rfl
theorem qd_102 {pc : Nat} {x : Except DecodeError (Instr × Nat)} (h : decode cX7_isKindOf pc = x) : decode (q_code 102) pc = x := h
theorem qo_102 : q_own 102 = 7 := rfl
theorem qr_102 : q_ret 102 = (some .boolean) := rfl
theorem qn_102 : q_na 102 = 2 := rfl
theorem ql_102 : q_ml 102 = 2 := rfl
theorem qd_103 {pc : Nat} {x : Except DecodeError (Instr × Nat)} (h : decode cX7_nearestAbove pc = x) : decode (q_code 103) pc = x := h
theorem qo_103 : q_own 103 = 7 := rfl
theorem qr_103 : q_ret 103 = (some .int) := rfl
theorem qn_103 : q_na 103 = 1 := rfl
theorem ql_103 : q_ml 103 = 1 := rfl
theorem qd_104 {pc : Nat} {x : Except DecodeError (Instr × Nat)} (h : decode cX7_walked pc = x) : decode (q_code 104) pc = x := h
theorem qo_104 : q_own 104 = 7 := rfl
theorem qr_104 : q_ret 104 = (some .int) := rfl
theorem qn_104 : q_na 104 = 4 := rfl
theorem ql_104 : q_ml 104 = 11 := rfl
theorem qd_105 {pc : Nat} {x : Except DecodeError (Instr × Nat)} (h : decode cX7_wrongAt pc = x) : decode (q_code 105) pc = x := h
theorem qo_105 : q_own 105 = 7 := rfl
theorem qr_105 : q_ret 105 = (some .int) := rfl
theorem qn_105 : q_na 105 = 2 := rfl
theorem ql_105 : q_ml 105 = 2 := rfl
theorem qd_106 {pc : Nat} {x : Except DecodeError (Instr × Nat)} (h : decode cX8_init pc = x) : decode (q_code 106) pc = x := h
theorem qo_106 : q_own 106 = 8 := rfl
theorem qr_106 : q_ret 106 = none := rfl
theorem qn_106 : q_na 106 = 1 := rfl
theorem ql_106 : q_ml 106 = 2 := rfl
theorem qd_107 {pc : Nat} {x : Except DecodeError (Instr × Nat)} (h : decode cX8_in pc = x) : decode (q_code 107) pc = x := h
theorem qo_107 : q_own 107 = 8 := rfl
theorem qr_107 : q_ret 107 = (some .boolean) := rfl
theorem qn_107 : q_na 107 = 3 := rfl
theorem ql_107 : q_ml 107 = 3 := rfl
theorem qd_108 {pc : Nat} {x : Except DecodeError (Instr × Nat)} (h : decode cX8_has pc = x) : decode (q_code 108) pc = x := h
theorem qo_108 : q_own 108 = 8 := rfl
theorem qr_108 : q_ret 108 = (some .boolean) := rfl
theorem qn_108 : q_na 108 = 2 := rfl
theorem ql_108 : q_ml 108 = 2 := rfl
theorem qd_109 {pc : Nat} {x : Except DecodeError (Instr × Nat)} (h : decode cX8_found pc = x) : decode (q_code 109) pc = x := h
theorem qo_109 : q_own 109 = 8 := rfl
theorem qr_109 : q_ret 109 = (some .int) := rfl
theorem qn_109 : q_na 109 = 2 := rfl
theorem ql_109 : q_ml 109 = 2 := rfl
theorem qd_110 {pc : Nat} {x : Except DecodeError (Instr × Nat)} (h : decode cX8_well pc = x) : decode (q_code 110) pc = x := h
theorem qo_110 : q_own 110 = 8 := rfl
theorem qr_110 : q_ret 110 = (some .int) := rfl
theorem qn_110 : q_na 110 = 2 := rfl
theorem ql_110 : q_ml 110 = 2 := rfl
theorem qd_111 {pc : Nat} {x : Except DecodeError (Instr × Nat)} (h : decode cX8_isRow pc = x) : decode (q_code 111) pc = x := h
theorem qo_111 : q_own 111 = 8 := rfl
theorem qr_111 : q_ret 111 = (some .boolean) := rfl
theorem qn_111 : q_na 111 = 1 := rfl
theorem ql_111 : q_ml 111 = 1 := rfl
theorem qd_112 {pc : Nat} {x : Except DecodeError (Instr × Nat)} (h : decode cX8_row pc = x) : decode (q_code 112) pc = x := h
theorem qo_112 : q_own 112 = 8 := rfl
theorem qr_112 : q_ret 112 = (some .int) := rfl
theorem qn_112 : q_na 112 = 4 := rfl
theorem ql_112 : q_ml 112 = 5 := rfl
theorem qd_113 {pc : Nat} {x : Except DecodeError (Instr × Nat)} (h : decode cX8_set pc = x) : decode (q_code 113) pc = x := h
theorem qo_113 : q_own 113 = 8 := rfl
theorem qr_113 : q_ret 113 = (some .int) := rfl
theorem qn_113 : q_na 113 = 4 := rfl
theorem ql_113 : q_ml 113 = 5 := rfl
theorem qd_114 {pc : Nat} {x : Except DecodeError (Instr × Nat)} (h : decode cX8_isSpan pc = x) : decode (q_code 114) pc = x := h
theorem qo_114 : q_own 114 = 8 := rfl
theorem qr_114 : q_ret 114 = (some .boolean) := rfl
theorem qn_114 : q_na 114 = 4 := rfl
theorem ql_114 : q_ml 114 = 4 := rfl
theorem qd_115 {pc : Nat} {x : Except DecodeError (Instr × Nat)} (h : decode cX8_copy pc = x) : decode (q_code 115) pc = x := h
theorem qo_115 : q_own 115 = 8 := rfl
theorem qr_115 : q_ret 115 = (some .int) := rfl
theorem qn_115 : q_na 115 = 6 := rfl
theorem ql_115 : q_ml 115 = 8 := rfl
theorem qd_116 {pc : Nat} {x : Except DecodeError (Instr × Nat)} (h : decode cX8_drop pc = x) : decode (q_code 116) pc = x := h
theorem qo_116 : q_own 116 = 8 := rfl
theorem qr_116 : q_ret 116 = (some .int) := rfl
theorem qn_116 : q_na 116 = 2 := rfl
theorem ql_116 : q_ml 116 = 2 := rfl
theorem qd_117 {pc : Nat} {x : Except DecodeError (Instr × Nat)} (h : decode cX8_feed pc = x) : decode (q_code 117) pc = x := h
theorem qo_117 : q_own 117 = 8 := rfl
theorem qr_117 : q_ret 117 = (some .int) := rfl
theorem qn_117 : q_na 117 = 3 := rfl
theorem ql_117 : q_ml 117 = 5 := rfl
theorem qd_118 {pc : Nat} {x : Except DecodeError (Instr × Nat)} (h : decode cX8_byteAt pc = x) : decode (q_code 118) pc = x := h
theorem qo_118 : q_own 118 = 8 := rfl
theorem qr_118 : q_ret 118 = (some .int) := rfl
theorem qn_118 : q_na 118 = 2 := rfl
theorem ql_118 : q_ml 118 = 2 := rfl
theorem qd_119 {pc : Nat} {x : Except DecodeError (Instr × Nat)} (h : decode cX8_next pc = x) : decode (q_code 119) pc = x := h
theorem qo_119 : q_own 119 = 8 := rfl
theorem qr_119 : q_ret 119 = none := rfl
theorem qn_119 : q_na 119 = 1 := rfl
theorem ql_119 : q_ml 119 = 2 := rfl
theorem qd_120 {pc : Nat} {x : Except DecodeError (Instr × Nat)} (h : decode cX8_isName pc = x) : decode (q_code 120) pc = x := h
theorem qo_120 : q_own 120 = 8 := rfl
theorem qr_120 : q_ret 120 = (some .boolean) := rfl
theorem qn_120 : q_na 120 = 2 := rfl
theorem ql_120 : q_ml 120 = 3 := rfl
theorem qd_121 {pc : Nat} {x : Except DecodeError (Instr × Nat)} (h : decode cX8_must pc = x) : decode (q_code 121) pc = x := h
theorem qo_121 : q_own 121 = 8 := rfl
theorem qr_121 : q_ret 121 = none := rfl
theorem qn_121 : q_na 121 = 3 := rfl
theorem ql_121 : q_ml 121 = 3 := rfl
theorem qd_122 {pc : Nat} {x : Except DecodeError (Instr × Nat)} (h : decode cX8_goesOn pc = x) : decode (q_code 122) pc = x := h
theorem qo_122 : q_own 122 = 8 := rfl
theorem qr_122 : q_ret 122 = none := rfl
theorem qn_122 : q_na 122 = 1 := rfl
theorem ql_122 : q_ml 122 = 1 := rfl
theorem qd_123 {pc : Nat} {x : Except DecodeError (Instr × Nat)} (h : decode cX8_readNumber pc = x) : decode (q_code 123) pc = x := h
theorem qo_123 : q_own 123 = 8 := rfl
theorem qr_123 : q_ret 123 = (some .int) := rfl
theorem qn_123 : q_na 123 = 4 := rfl
theorem ql_123 : q_ml 123 = 5 := rfl
theorem qd_124 {pc : Nat} {x : Except DecodeError (Instr × Nat)} (h : decode cX8_readStop pc = x) : decode (q_code 124) pc = x := h
theorem qo_124 : q_own 124 = 8 := rfl
theorem qr_124 : q_ret 124 = none := rfl
theorem qn_124 : q_na 124 = 1 := rfl
theorem ql_124 : q_ml 124 = 1 := rfl
theorem qd_125 {pc : Nat} {x : Except DecodeError (Instr × Nat)} (h : decode cX8_sortNow pc = x) : decode (q_code 125) pc = x := h
theorem qo_125 : q_own 125 = 8 := rfl
theorem qr_125 : q_ret 125 = (some .int) := rfl
theorem qn_125 : q_na 125 = 1 := rfl
theorem ql_125 : q_ml 125 = 1 := rfl
theorem qd_126 {pc : Nat} {x : Except DecodeError (Instr × Nat)} (h : decode cX8_readCrossing pc = x) : decode (q_code 126) pc = x := h
theorem qo_126 : q_own 126 = 8 := rfl
theorem qr_126 : q_ret 126 = none := rfl
theorem qn_126 : q_na 126 = 1 := rfl
theorem ql_126 : q_ml 126 = 6 := rfl
theorem qd_127 {pc : Nat} {x : Except DecodeError (Instr × Nat)} (h : decode cX8_readCarrier pc = x) : decode (q_code 127) pc = x := h
theorem qo_127 : q_own 127 = 8 := rfl
theorem qr_127 : q_ret 127 = none := rfl
theorem qn_127 : q_na 127 = 1 := rfl
theorem ql_127 : q_ml 127 = 3 := rfl
theorem qd_128 {pc : Nat} {x : Except DecodeError (Instr × Nat)} (h : decode cX8_readLoad pc = x) : decode (q_code 128) pc = x := h
theorem qo_128 : q_own 128 = 8 := rfl
theorem qr_128 : q_ret 128 = none := rfl
theorem qn_128 : q_na 128 = 1 := rfl
theorem ql_128 : q_ml 128 = 3 := rfl
theorem qd_129 {pc : Nat} {x : Except DecodeError (Instr × Nat)} (h : decode cX8_land pc = x) : decode (q_code 129) pc = x := h
theorem qo_129 : q_own 129 = 8 := rfl
theorem qr_129 : q_ret 129 = (some .int) := rfl
theorem qn_129 : q_na 129 = 1 := rfl
theorem ql_129 : q_ml 129 = 3 := rfl
theorem qd_130 {pc : Nat} {x : Except DecodeError (Instr × Nat)} (h : decode cX8_fault pc = x) : decode (q_code 130) pc = x := h
theorem qo_130 : q_own 130 = 8 := rfl
theorem qr_130 : q_ret 130 = (some .int) := rfl
theorem qn_130 : q_na 130 = 1 := rfl
theorem ql_130 : q_ml 130 = 1 := rfl
theorem qd_131 {pc : Nat} {x : Except DecodeError (Instr × Nat)} (h : decode cX8_isLand pc = x) : decode (q_code 131) pc = x := h
theorem qo_131 : q_own 131 = 8 := rfl
theorem qr_131 : q_ret 131 = (some .boolean) := rfl
theorem qn_131 : q_na 131 = 1 := rfl
theorem ql_131 : q_ml 131 = 1 := rfl
theorem qd_132 {pc : Nat} {x : Except DecodeError (Instr × Nat)} (h : decode cX8_isCrossing pc = x) : decode (q_code 132) pc = x := h
theorem qo_132 : q_own 132 = 8 := rfl
theorem qr_132 : q_ret 132 = (some .boolean) := rfl
theorem qn_132 : q_na 132 = 2 := rfl
theorem ql_132 : q_ml 132 = 2 := rfl
theorem qd_133 {pc : Nat} {x : Except DecodeError (Instr × Nat)} (h : decode cX8_isCarrier pc = x) : decode (q_code 133) pc = x := h
theorem qo_133 : q_own 133 = 8 := rfl
theorem qr_133 : q_ret 133 = (some .boolean) := rfl
theorem qn_133 : q_na 133 = 2 := rfl
theorem ql_133 : q_ml 133 = 2 := rfl
theorem qd_134 {pc : Nat} {x : Except DecodeError (Instr × Nat)} (h : decode cX8_isLoad pc = x) : decode (q_code 134) pc = x := h
theorem qo_134 : q_own 134 = 8 := rfl
theorem qr_134 : q_ret 134 = (some .boolean) := rfl
theorem qn_134 : q_na 134 = 2 := rfl
theorem ql_134 : q_ml 134 = 2 := rfl
theorem qd_135 {pc : Nat} {x : Except DecodeError (Instr × Nat)} (h : decode cX8_of pc = x) : decode (q_code 135) pc = x := h
theorem qo_135 : q_own 135 = 8 := rfl
theorem qr_135 : q_ret 135 = (some .int) := rfl
theorem qn_135 : q_na 135 = 3 := rfl
theorem ql_135 : q_ml 135 = 3 := rfl
theorem qd_136 {pc : Nat} {x : Except DecodeError (Instr × Nat)} (h : decode cX8_allOf pc = x) : decode (q_code 136) pc = x := h
theorem qo_136 : q_own 136 = 8 := rfl
theorem qr_136 : q_ret 136 = (some .int) := rfl
theorem qn_136 : q_na 136 = 2 := rfl
theorem ql_136 : q_ml 136 = 4 := rfl
theorem qd_137 {pc : Nat} {x : Except DecodeError (Instr × Nat)} (h : decode cX8_over pc = x) : decode (q_code 137) pc = x := h
theorem qo_137 : q_own 137 = 8 := rfl
theorem qr_137 : q_ret 137 = (some .int) := rfl
theorem qn_137 : q_na 137 = 3 := rfl
theorem ql_137 : q_ml 137 = 5 := rfl
theorem qd_138 {pc : Nat} {x : Except DecodeError (Instr × Nat)} (h : decode cX8_nextOf pc = x) : decode (q_code 138) pc = x := h
theorem qo_138 : q_own 138 = 8 := rfl
theorem qr_138 : q_ret 138 = (some .int) := rfl
theorem qn_138 : q_na 138 = 2 := rfl
theorem ql_138 : q_ml 138 = 2 := rfl
theorem qd_139 {pc : Nat} {x : Except DecodeError (Instr × Nat)} (h : decode cX8_lets pc = x) : decode (q_code 139) pc = x := h
theorem qo_139 : q_own 139 = 8 := rfl
theorem qr_139 : q_ret 139 = (some .boolean) := rfl
theorem qn_139 : q_na 139 = 4 := rfl
theorem ql_139 : q_ml 139 = 4 := rfl
theorem qd_140 {pc : Nat} {x : Except DecodeError (Instr × Nat)} (h : decode cX8_mayGo pc = x) : decode (q_code 140) pc = x := h
theorem qo_140 : q_own 140 = 8 := rfl
theorem qr_140 : q_ret 140 = (some .boolean) := rfl
theorem qn_140 : q_na 140 = 3 := rfl
theorem ql_140 : q_ml 140 = 3 := rfl
theorem qd_141 {pc : Nat} {x : Except DecodeError (Instr × Nat)} (h : decode cX8_remembers pc = x) : decode (q_code 141) pc = x := h
theorem qo_141 : q_own 141 = 8 := rfl
theorem qr_141 : q_ret 141 = none := rfl
theorem qn_141 : q_na 141 = 1 := rfl
theorem ql_141 : q_ml 141 = 2 := rfl
theorem qd_142 {pc : Nat} {x : Except DecodeError (Instr × Nat)} (h : decode cX8_go pc = x) : decode (q_code 142) pc = x := h
theorem qo_142 : q_own 142 = 8 := rfl
theorem qr_142 : q_ret 142 = (some .int) := rfl
theorem qn_142 : q_na 142 = 3 := rfl
theorem ql_142 : q_ml 142 = 3 := rfl
theorem qd_143 {pc : Nat} {x : Except DecodeError (Instr × Nat)} (h : decode cX8_take pc = x) : decode (q_code 143) pc = x := h
theorem qo_143 : q_own 143 = 8 := rfl
theorem qr_143 : q_ret 143 = (some .int) := rfl
theorem qn_143 : q_na 143 = 3 := rfl
theorem ql_143 : q_ml 143 = 3 := rfl
theorem qd_144 {pc : Nat} {x : Except DecodeError (Instr × Nat)} (h : decode cX8_lay pc = x) : decode (q_code 144) pc = x := h
theorem qo_144 : q_own 144 = 8 := rfl
theorem qr_144 : q_ret 144 = (some .int) := rfl
theorem qn_144 : q_na 144 = 2 := rfl
theorem ql_144 : q_ml 144 = 3 := rfl
theorem qd_145 {pc : Nat} {x : Except DecodeError (Instr × Nat)} (h : decode cX8_hand pc = x) : decode (q_code 145) pc = x := h
theorem qo_145 : q_own 145 = 8 := rfl
theorem qr_145 : q_ret 145 = (some .int) := rfl
theorem qn_145 : q_na 145 = 3 := rfl
theorem ql_145 : q_ml 145 = 4 := rfl
theorem qd_146 {pc : Nat} {x : Except DecodeError (Instr × Nat)} (h : decode cX8_feast pc = x) : decode (q_code 146) pc = x := h
theorem qo_146 : q_own 146 = 8 := rfl
theorem qr_146 : q_ret 146 = (some .int) := rfl
theorem qn_146 : q_na 146 = 1 := rfl
theorem ql_146 : q_ml 146 = 3 := rfl
theorem qd_147 {pc : Nat} {x : Except DecodeError (Instr × Nat)} (h : decode cX8_put pc = x) : decode (q_code 147) pc = x := h
theorem qo_147 : q_own 147 = 8 := rfl
theorem qr_147 : q_ret 147 = (some .int) := rfl
theorem qn_147 : q_na 147 = 3 := rfl
theorem ql_147 : q_ml 147 = 4 := rfl
theorem qd_148 {pc : Nat} {x : Except DecodeError (Instr × Nat)} (h : decode cX8_undo pc = x) : decode (q_code 148) pc = x := h
theorem qo_148 : q_own 148 = 8 := rfl
theorem qr_148 : q_ret 148 = (some .int) := rfl
theorem qn_148 : q_na 148 = 1 := rfl
theorem ql_148 : q_ml 148 = 2 := rfl
theorem qd_149 {pc : Nat} {x : Except DecodeError (Instr × Nat)} (h : decode cX8_mayBits pc = x) : decode (q_code 149) pc = x := h
theorem qo_149 : q_own 149 = 8 := rfl
theorem qr_149 : q_ret 149 = (some .int) := rfl
theorem qn_149 : q_na 149 = 2 := rfl
theorem ql_149 : q_ml 149 = 4 := rfl
theorem qd_150 {pc : Nat} {x : Except DecodeError (Instr × Nat)} (h : decode cX8_carrier pc = x) : decode (q_code 150) pc = x := h
theorem qo_150 : q_own 150 = 8 := rfl
theorem qr_150 : q_ret 150 = (some .int) := rfl
theorem qn_150 : q_na 150 = 3 := rfl
theorem ql_150 : q_ml 150 = 3 := rfl
theorem qd_151 {pc : Nat} {x : Except DecodeError (Instr × Nat)} (h : decode cX8_whoHas pc = x) : decode (q_code 151) pc = x := h
theorem qo_151 : q_own 151 = 8 := rfl
theorem qr_151 : q_ret 151 = (some .int) := rfl
theorem qn_151 : q_na 151 = 2 := rfl
theorem ql_151 : q_ml 151 = 4 := rfl
theorem qd_152 {pc : Nat} {x : Except DecodeError (Instr × Nat)} (h : decode cX8_load pc = x) : decode (q_code 152) pc = x := h
theorem qo_152 : q_own 152 = 8 := rfl
theorem qr_152 : q_ret 152 = (some .int) := rfl
theorem qn_152 : q_na 152 = 3 := rfl
theorem ql_152 : q_ml 152 = 3 := rfl
theorem qd_153 {pc : Nat} {x : Except DecodeError (Instr × Nat)} (h : decode cX8_state pc = x) : decode (q_code 153) pc = x := h
theorem qo_153 : q_own 153 = 8 := rfl
theorem qr_153 : q_ret 153 = (some .int) := rfl
theorem qn_153 : q_na 153 = 3 := rfl
theorem ql_153 : q_ml 153 = 3 := rfl
theorem qd_154 {pc : Nat} {x : Except DecodeError (Instr × Nat)} (h : decode cX8_comes pc = x) : decode (q_code 154) pc = x := h
theorem qo_154 : q_own 154 = 8 := rfl
theorem qr_154 : q_ret 154 = none := rfl
theorem qn_154 : q_na 154 = 3 := rfl
theorem ql_154 : q_ml 154 = 3 := rfl
theorem qd_155 {pc : Nat} {x : Except DecodeError (Instr × Nat)} (h : decode cX8_letsBy pc = x) : decode (q_code 155) pc = x := h
theorem qo_155 : q_own 155 = 8 := rfl
theorem qr_155 : q_ret 155 = (some .boolean) := rfl
theorem qn_155 : q_na 155 = 5 := rfl
theorem ql_155 : q_ml 155 = 5 := rfl
theorem qd_156 {pc : Nat} {x : Except DecodeError (Instr × Nat)} (h : decode cX8_spreads pc = x) : decode (q_code 156) pc = x := h
theorem qo_156 : q_own 156 = 8 := rfl
theorem qr_156 : q_ret 156 = none := rfl
theorem qn_156 : q_na 156 = 4 := rfl
theorem ql_156 : q_ml 156 = 11 := rfl
theorem qd_157 {pc : Nat} {x : Except DecodeError (Instr × Nat)} (h : decode cX8_findPrices pc = x) : decode (q_code 157) pc = x := h
theorem qo_157 : q_own 157 = 8 := rfl
theorem qr_157 : q_ret 157 = none := rfl
theorem qn_157 : q_na 157 = 4 := rfl
theorem ql_157 : q_ml 157 = 6 := rfl
theorem qd_158 {pc : Nat} {x : Except DecodeError (Instr × Nat)} (h : decode cX8_lesser pc = x) : decode (q_code 158) pc = x := h
theorem qo_158 : q_own 158 = 8 := rfl
theorem qr_158 : q_ret 158 = (some .int) := rfl
theorem qn_158 : q_na 158 = 2 := rfl
theorem ql_158 : q_ml 158 = 2 := rfl
theorem qd_159 {pc : Nat} {x : Except DecodeError (Instr × Nat)} (h : decode cX8_fewestOf pc = x) : decode (q_code 159) pc = x := h
theorem qo_159 : q_own 159 = 8 := rfl
theorem qr_159 : q_ret 159 = (some .int) := rfl
theorem qn_159 : q_na 159 = 3 := rfl
theorem ql_159 : q_ml 159 = 6 := rfl
theorem qd_160 {pc : Nat} {x : Except DecodeError (Instr × Nat)} (h : decode cX8_mayHave pc = x) : decode (q_code 160) pc = x := h
theorem qo_160 : q_own 160 = 8 := rfl
theorem qr_160 : q_ret 160 = (some .boolean) := rfl
theorem qn_160 : q_na 160 = 3 := rfl
theorem ql_160 : q_ml 160 = 4 := rfl
theorem qd_161 {pc : Nat} {x : Except DecodeError (Instr × Nat)} (h : decode cX8_fewest pc = x) : decode (q_code 161) pc = x := h
theorem qo_161 : q_own 161 = 8 := rfl
theorem qr_161 : q_ret 161 = (some .int) := rfl
theorem qn_161 : q_na 161 = 3 := rfl
theorem ql_161 : q_ml 161 = 3 := rfl
theorem qd_162 {pc : Nat} {x : Except DecodeError (Instr × Nat)} (h : decode cX8_whom pc = x) : decode (q_code 162) pc = x := h
theorem qo_162 : q_own 162 = 8 := rfl
theorem qr_162 : q_ret 162 = (some .int) := rfl
theorem qn_162 : q_na 162 = 2 := rfl
theorem ql_162 : q_ml 162 = 7 := rfl
theorem qd_163 {pc : Nat} {x : Except DecodeError (Instr × Nat)} (h : decode cX8_leastAt pc = x) : decode (q_code 163) pc = x := h
theorem qo_163 : q_own 163 = 8 := rfl
theorem qr_163 : q_ret 163 = (some .int) := rfl
theorem qn_163 : q_na 163 = 2 := rfl
theorem ql_163 : q_ml 163 = 4 := rfl
theorem qd_164 {pc : Nat} {x : Except DecodeError (Instr × Nat)} (h : decode cX8_off pc = x) : decode (q_code 164) pc = x := h
theorem qo_164 : q_own 164 = 8 := rfl
theorem qr_164 : q_ret 164 = (some .int) := rfl
theorem qn_164 : q_na 164 = 3 := rfl
theorem ql_164 : q_ml 164 = 3 := rfl
theorem qd_165 {pc : Nat} {x : Except DecodeError (Instr × Nat)} (h : decode cX8_reach pc = x) : decode (q_code 165) pc = x := h
theorem qo_165 : q_own 165 = 8 := rfl
theorem qr_165 : q_ret 165 = (some .int) := rfl
theorem qn_165 : q_na 165 = 2 := rfl
theorem ql_165 : q_ml 165 = 4 := rfl
theorem qd_166 {pc : Nat} {x : Except DecodeError (Instr × Nat)} (h : decode cX8_right pc = x) : decode (q_code 166) pc = x := h
theorem qo_166 : q_own 166 = 8 := rfl
theorem qr_166 : q_ret 166 = (some .int) := rfl
theorem qn_166 : q_na 166 = 3 := rfl
theorem ql_166 : q_ml 166 = 3 := rfl
theorem qd_167 {pc : Nat} {x : Except DecodeError (Instr × Nat)} (h : decode cX8_wrongOf pc = x) : decode (q_code 167) pc = x := h
theorem qo_167 : q_own 167 = 8 := rfl
theorem qr_167 : q_ret 167 = (some .int) := rfl
theorem qn_167 : q_na 167 = 3 := rfl
theorem ql_167 : q_ml 167 = 9 := rfl
theorem qd_168 {pc : Nat} {x : Except DecodeError (Instr × Nat)} (h : decode cX8_areSteps pc = x) : decode (q_code 168) pc = x := h
theorem qo_168 : q_own 168 = 8 := rfl
theorem qr_168 : q_ret 168 = (some .boolean) := rfl
theorem qn_168 : q_na 168 = 3 := rfl
theorem ql_168 : q_ml 168 = 5 := rfl
theorem qd_169 {pc : Nat} {x : Except DecodeError (Instr × Nat)} (h : decode cX8_fitsOf pc = x) : decode (q_code 169) pc = x := h
theorem qo_169 : q_own 169 = 8 := rfl
theorem qr_169 : q_ret 169 = (some .int) := rfl
theorem qn_169 : q_na 169 = 1 := rfl
theorem ql_169 : q_ml 169 = 4 := rfl
theorem qd_170 {pc : Nat} {x : Except DecodeError (Instr × Nat)} (h : decode cX8_walk pc = x) : decode (q_code 170) pc = x := h
theorem qo_170 : q_own 170 = 8 := rfl
theorem qr_170 : q_ret 170 = (some .int) := rfl
theorem qn_170 : q_na 170 = 4 := rfl
theorem ql_170 : q_ml 170 = 7 := rfl
theorem qd_171 {pc : Nat} {x : Except DecodeError (Instr × Nat)} (h : decode cX8_image pc = x) : decode (q_code 171) pc = x := h
theorem qo_171 : q_own 171 = 8 := rfl
theorem qr_171 : q_ret 171 = (some .int) := rfl
theorem qn_171 : q_na 171 = 2 := rfl
theorem ql_171 : q_ml 171 = 3 := rfl
theorem qd_172 {pc : Nat} {x : Except DecodeError (Instr × Nat)} (h : decode cX8_restore pc = x) : decode (q_code 172) pc = x := h
theorem qo_172 : q_own 172 = 8 := rfl
theorem qr_172 : q_ret 172 = (some .int) := rfl
theorem qn_172 : q_na 172 = 2 := rfl
theorem ql_172 : q_ml 172 = 3 := rfl
theorem qd_173 {pc : Nat} {x : Except DecodeError (Instr × Nat)} (h : decode cX8_kind pc = x) : decode (q_code 173) pc = x := h
theorem qo_173 : q_own 173 = 8 := rfl
theorem qr_173 : q_ret 173 = (some .int) := rfl
theorem qn_173 : q_na 173 = 2 := rfl
theorem ql_173 : q_ml 173 = 2 := rfl
theorem qd_174 {pc : Nat} {x : Except DecodeError (Instr × Nat)} (h : decode cX8_isA pc = x) : decode (q_code 174) pc = x := h
theorem qo_174 : q_own 174 = 8 := rfl
theorem qr_174 : q_ret 174 = (some .boolean) := rfl
theorem qn_174 : q_na 174 = 2 := rfl
theorem ql_174 : q_ml 174 = 2 := rfl
theorem qd_175 {pc : Nat} {x : Except DecodeError (Instr × Nat)} (h : decode cX8_as pc = x) : decode (q_code 175) pc = x := h
theorem qo_175 : q_own 175 = 8 := rfl
theorem qr_175 : q_ret 175 = (some .int) := rfl
theorem qn_175 : q_na 175 = 3 := rfl
theorem ql_175 : q_ml 175 = 3 := rfl
theorem qd_176 {pc : Nat} {x : Except DecodeError (Instr × Nat)} (h : decode cX8_begins pc = x) : decode (q_code 176) pc = x := h
theorem qo_176 : q_own 176 = 8 := rfl
theorem qr_176 : q_ret 176 = none := rfl
theorem qn_176 : q_na 176 = 2 := rfl
theorem ql_176 : q_ml 176 = 2 := rfl
theorem qd_177 {pc : Nat} {x : Except DecodeError (Instr × Nat)} (h : decode cX8_lentSize pc = x) : decode (q_code 177) pc = x := h
theorem qo_177 : q_own 177 = 8 := rfl
theorem qr_177 : q_ret 177 = (some .int) := rfl
theorem qn_177 : q_na 177 = 2 := rfl
theorem ql_177 : q_ml 177 = 2 := rfl
theorem qd_178 {pc : Nat} {x : Except DecodeError (Instr × Nat)} (h : decode cX8_lentMark pc = x) : decode (q_code 178) pc = x := h
theorem qo_178 : q_own 178 = 8 := rfl
theorem qr_178 : q_ret 178 = (some .int) := rfl
theorem qn_178 : q_na 178 = 2 := rfl
theorem ql_178 : q_ml 178 = 2 := rfl
theorem qd_179 {pc : Nat} {x : Except DecodeError (Instr × Nat)} (h : decode cX8_bridgesMark pc = x) : decode (q_code 179) pc = x := h
theorem qo_179 : q_own 179 = 8 := rfl
theorem qr_179 : q_ret 179 = (some .int) := rfl
theorem qn_179 : q_na 179 = 2 := rfl
theorem ql_179 : q_ml 179 = 2 := rfl
theorem qd_180 {pc : Nat} {x : Except DecodeError (Instr × Nat)} (h : decode cX8_markOfBridges pc = x) : decode (q_code 180) pc = x := h
theorem qo_180 : q_own 180 = 8 := rfl
theorem qr_180 : q_ret 180 = (some .int) := rfl
theorem qn_180 : q_na 180 = 2 := rfl
theorem ql_180 : q_ml 180 = 2 := rfl
theorem qd_181 {pc : Nat} {x : Except DecodeError (Instr × Nat)} (h : decode cX8_bridgesSize pc = x) : decode (q_code 181) pc = x := h
theorem qo_181 : q_own 181 = 8 := rfl
theorem qr_181 : q_ret 181 = (some .int) := rfl
theorem qn_181 : q_na 181 = 2 := rfl
theorem ql_181 : q_ml 181 = 3 := rfl
theorem qd_182 {pc : Nat} {x : Except DecodeError (Instr × Nat)} (h : decode cX8_fordsSize pc = x) : decode (q_code 182) pc = x := h
theorem qo_182 : q_own 182 = 8 := rfl
theorem qr_182 : q_ret 182 = (some .int) := rfl
theorem qn_182 : q_na 182 = 2 := rfl
theorem ql_182 : q_ml 182 = 2 := rfl
theorem qd_183 {pc : Nat} {x : Except DecodeError (Instr × Nat)} (h : decode cX8_sizeOfFords pc = x) : decode (q_code 183) pc = x := h
theorem qo_183 : q_own 183 = 8 := rfl
theorem qr_183 : q_ret 183 = (some .int) := rfl
theorem qn_183 : q_na 183 = 2 := rfl
theorem ql_183 : q_ml 183 = 2 := rfl
theorem qd_184 {pc : Nat} {x : Except DecodeError (Instr × Nat)} (h : decode cX8_fordsMark pc = x) : decode (q_code 184) pc = x := h
theorem qo_184 : q_own 184 = 8 := rfl
theorem qr_184 : q_ret 184 = (some .int) := rfl
theorem qn_184 : q_na 184 = 2 := rfl
theorem ql_184 : q_ml 184 = 3 := rfl
theorem qd_185 {pc : Nat} {x : Except DecodeError (Instr × Nat)} (h : decode cX8_sizeOf pc = x) : decode (q_code 185) pc = x := h
theorem qo_185 : q_own 185 = 8 := rfl
theorem qr_185 : q_ret 185 = (some .int) := rfl
theorem qn_185 : q_na 185 = 2 := rfl
theorem ql_185 : q_ml 185 = 2 := rfl
theorem qd_186 {pc : Nat} {x : Except DecodeError (Instr × Nat)} (h : decode cX8_markOf pc = x) : decode (q_code 186) pc = x := h
theorem qo_186 : q_own 186 = 8 := rfl
theorem qr_186 : q_ret 186 = (some .int) := rfl
theorem qn_186 : q_na 186 = 2 := rfl
theorem ql_186 : q_ml 186 = 2 := rfl
theorem qd_187 {pc : Nat} {x : Except DecodeError (Instr × Nat)} (h : decode cX8_ask pc = x) : decode (q_code 187) pc = x := h
theorem qo_187 : q_own 187 = 8 := rfl
theorem qr_187 : q_ret 187 = (some .int) := rfl
theorem qn_187 : q_na 187 = 3 := rfl
theorem ql_187 : q_ml 187 = 3 := rfl
theorem qd_188 {pc : Nat} {x : Except DecodeError (Instr × Nat)} (h : decode cX8_trace pc = x) : decode (q_code 188) pc = x := h
theorem qo_188 : q_own 188 = 8 := rfl
theorem qr_188 : q_ret 188 = (some .int) := rfl
theorem qn_188 : q_na 188 = 2 := rfl
theorem ql_188 : q_ml 188 = 2 := rfl
theorem qd_189 {pc : Nat} {x : Except DecodeError (Instr × Nat)} (h : decode cX8_count pc = x) : decode (q_code 189) pc = x := h
theorem qo_189 : q_own 189 = 8 := rfl
theorem qr_189 : q_ret 189 = (some .int) := rfl
theorem qn_189 : q_na 189 = 2 := rfl
theorem ql_189 : q_ml 189 = 4 := rfl
theorem qd_190 {pc : Nat} {x : Except DecodeError (Instr × Nat)} (h : decode cX8_status pc = x) : decode (q_code 190) pc = x := h
theorem qo_190 : q_own 190 = 8 := rfl
theorem qr_190 : q_ret 190 = (some .int) := rfl
theorem qn_190 : q_na 190 = 1 := rfl
theorem ql_190 : q_ml 190 = 1 := rfl
theorem qd_191 {pc : Nat} {x : Except DecodeError (Instr × Nat)} (h : decode cJ6_bitCount_0f7a4 pc = x) : decode (q_code 191) pc = x := h
theorem qo_191 : q_own 191 = 9 := rfl
theorem qr_191 : q_ret 191 = (some .int) := rfl
theorem qn_191 : q_na 191 = 1 := rfl
theorem ql_191 : q_ml 191 = 1 := rfl
theorem qd_192 {pc : Nat} {x : Except DecodeError (Instr × Nat)} (h : decode cJ9_max_7cf53 pc = x) : decode (q_code 192) pc = x := h
theorem qo_192 : q_own 192 = 10 := rfl
theorem qr_192 : q_ret 192 = (some .int) := rfl
theorem qn_192 : q_na 192 = 2 := rfl
theorem ql_192 : q_ml 192 = 2 := rfl
theorem qd_193 {pc : Nat} {x : Except DecodeError (Instr × Nat)} (h : decode cJ9_min_7cf53 pc = x) : decode (q_code 193) pc = x := h
theorem qo_193 : q_own 193 = 10 := rfl
theorem qr_193 : q_ret 193 = (some .int) := rfl
theorem qn_193 : q_na 193 = 2 := rfl
theorem ql_193 : q_ml 193 = 2 := rfl
theorem qd_194 {pc : Nat} {x : Except DecodeError (Instr × Nat)} (h : decode cJ0_length_8abf5 pc = x) : decode (q_code 194) pc = x := h
theorem qo_194 : q_own 194 = 11 := rfl
theorem qr_194 : q_ret 194 = (some .int) := rfl
theorem qn_194 : q_na 194 = 1 := rfl
theorem ql_194 : q_ml 194 = 1 := rfl
theorem qd_195 {pc : Nat} {x : Except DecodeError (Instr × Nat)} (h : decode cJ0_charAt_5068e pc = x) : decode (q_code 195) pc = x := h
theorem qo_195 : q_own 195 = 11 := rfl
theorem qr_195 : q_ret 195 = (some .char) := rfl
theorem qn_195 : q_na 195 = 2 := rfl
theorem ql_195 : q_ml 195 = 2 := rfl
theorem qd_196 {pc : Nat} {x : Except DecodeError (Instr × Nat)} (h : decode cJ0_coder_7d493 pc = x) : decode (q_code 196) pc = x := h
theorem qo_196 : q_own 196 = 11 := rfl
theorem qr_196 : q_ret 196 = (some .byte) := rfl
theorem qn_196 : q_na 196 = 1 := rfl
theorem ql_196 : q_ml 196 = 1 := rfl
theorem qd_197 {pc : Nat} {x : Except DecodeError (Instr × Nat)} (h : decode cJ0_isLatin1_aae02 pc = x) : decode (q_code 197) pc = x := h
theorem qo_197 : q_own 197 = 11 := rfl
theorem qr_197 : q_ret 197 = (some .boolean) := rfl
theorem qn_197 : q_na 197 = 1 := rfl
theorem ql_197 : q_ml 197 = 1 := rfl
theorem qd_198 {pc : Nat} {x : Except DecodeError (Instr × Nat)} (h : decode cJ0_checkIndex_df160 pc = x) : decode (q_code 198) pc = x := h
theorem qo_198 : q_own 198 = 11 := rfl
theorem qr_198 : q_ret 198 = none := rfl
theorem qn_198 : q_na 198 = 2 := rfl
theorem ql_198 : q_ml 198 = 2 := rfl
theorem qd_199 {pc : Nat} {x : Except DecodeError (Instr × Nat)} (h : decode cJ1_charAt_3b067 pc = x) : decode (q_code 199) pc = x := h
theorem qo_199 : q_own 199 = 12 := rfl
theorem qr_199 : q_ret 199 = (some .char) := rfl
theorem qn_199 : q_na 199 = 2 := rfl
theorem ql_199 : q_ml 199 = 2 := rfl
theorem qd_200 {pc : Nat} {x : Except DecodeError (Instr × Nat)} (h : decode cJ3_checkIndex_8e157 pc = x) : decode (q_code 200) pc = x := h
theorem qo_200 : q_own 200 = 13 := rfl
theorem qr_200 : q_ret 200 = (some .int) := rfl
theorem qn_200 : q_na 200 = 3 := rfl
theorem ql_200 : q_ml 200 = 3 := rfl
theorem qd_201 {pc : Nat} {x : Except DecodeError (Instr × Nat)} (h : decode cL_law pc = x) : decode (q_code 201) pc = x := h
theorem qo_201 : q_own 201 = 14 := rfl
theorem qr_201 : q_ret 201 = (some .boolean) := rfl
theorem qn_201 : q_na 201 = 1 := rfl
theorem ql_201 : q_ml 201 = 4 := rfl
theorem fl_0_11 : q_fld 0 11 = some (0, 0) := rfl
theorem fl_0_18 : q_fld 0 18 = some (0, 2) := rfl
theorem fl_0_26 : q_fld 0 26 = some (0, 1) := rfl
theorem fl_1_9 : q_fld 1 9 = some (1, 1) := rfl
theorem fl_1_15 : q_fld 1 15 = some (1, 0) := rfl
theorem fl_1_19 : q_fld 1 19 = some (2, 2) := rfl
theorem fl_1_59 : q_fld 1 59 = some (2, 5) := rfl
theorem fl_1_62 : q_fld 1 62 = some (2, 3) := rfl
theorem fl_1_65 : q_fld 1 65 = some (1, 2) := rfl
theorem fl_2_9 : q_fld 2 9 = some (2, 2) := rfl
theorem fl_2_15 : q_fld 2 15 = some (2, 3) := rfl
theorem fl_2_18 : q_fld 2 18 = some (2, 4) := rfl
theorem fl_2_21 : q_fld 2 21 = some (2, 5) := rfl
theorem fl_2_24 : q_fld 2 24 = some (2, 8) := rfl
theorem fl_2_30 : q_fld 2 30 = some (2, 9) := rfl
theorem fl_2_34 : q_fld 2 34 = some (2, 0) := rfl
theorem fl_2_38 : q_fld 2 38 = some (2, 1) := rfl
theorem fl_2_48 : q_fld 2 48 = some (2, 6) := rfl
theorem fl_2_51 : q_fld 2 51 = some (2, 7) := rfl
theorem fl_2_66 : q_fld 2 66 = some (5, 1) := rfl
theorem fl_2_70 : q_fld 2 70 = some (5, 2) := rfl
theorem fl_2_73 : q_fld 2 73 = some (5, 5) := rfl
theorem fl_2_76 : q_fld 2 76 = some (5, 4) := rfl
theorem fl_2_79 : q_fld 2 79 = some (5, 0) := rfl
theorem fl_2_96 : q_fld 2 96 = some (5, 6) := rfl
theorem fl_3_9 : q_fld 3 9 = some (3, 0) := rfl
theorem fl_3_15 : q_fld 3 15 = some (3, 1) := rfl
theorem fl_3_20 : q_fld 3 20 = some (3, 2) := rfl
theorem fl_4_11 : q_fld 4 11 = some (4, 1) := rfl
theorem fl_4_15 : q_fld 4 15 = some (4, 2) := rfl
theorem fl_4_18 : q_fld 4 18 = some (4, 0) := rfl
theorem fl_4_22 : q_fld 4 22 = some (2, 8) := rfl
theorem fl_4_28 : q_fld 4 28 = some (2, 9) := rfl
theorem fl_4_32 : q_fld 4 32 = some (5, 3) := rfl
theorem fl_4_37 : q_fld 4 37 = some (5, 4) := rfl
theorem fl_4_66 : q_fld 4 66 = some (5, 0) := rfl
theorem fl_4_69 : q_fld 4 69 = some (4, 3) := rfl
theorem fl_4_72 : q_fld 4 72 = some (4, 4) := rfl
theorem fl_4_75 : q_fld 4 75 = some (4, 5) := rfl
theorem fl_4_85 : q_fld 4 85 = some (2, 1) := rfl
theorem fl_4_96 : q_fld 4 96 = some (2, 5) := rfl
theorem fl_4_104 : q_fld 4 104 = some (2, 2) := rfl
theorem fl_5_9 : q_fld 5 9 = some (5, 0) := rfl
theorem fl_5_15 : q_fld 5 15 = some (5, 1) := rfl
theorem fl_5_18 : q_fld 5 18 = some (5, 2) := rfl
theorem fl_5_21 : q_fld 5 21 = some (5, 3) := rfl
theorem fl_5_30 : q_fld 5 30 = some (5, 4) := rfl
theorem fl_5_34 : q_fld 5 34 = some (5, 5) := rfl
theorem fl_5_37 : q_fld 5 37 = some (5, 6) := rfl
theorem fl_6_9 : q_fld 6 9 = some (6, 0) := rfl
theorem fl_6_18 : q_fld 6 18 = some (6, 2) := rfl
theorem fl_6_22 : q_fld 6 22 = some (6, 1) := rfl
theorem fl_6_26 : q_fld 6 26 = some (6, 6) := rfl
theorem fl_6_49 : q_fld 6 49 = some (2, 9) := rfl
theorem fl_6_53 : q_fld 6 53 = some (2, 1) := rfl
theorem fl_6_56 : q_fld 6 56 = some (5, 4) := rfl
theorem fl_6_71 : q_fld 6 71 = some (6, 3) := rfl
theorem fl_6_74 : q_fld 6 74 = some (2, 0) := rfl
theorem fl_6_78 : q_fld 6 78 = some (2, 6) := rfl
theorem fl_6_81 : q_fld 6 81 = some (2, 7) := rfl
theorem fl_6_84 : q_fld 6 84 = some (2, 2) := rfl
theorem fl_6_96 : q_fld 6 96 = some (2, 3) := rfl
theorem fl_6_99 : q_fld 6 99 = some (6, 4) := rfl
theorem fl_6_102 : q_fld 6 102 = some (2, 4) := rfl
theorem fl_6_105 : q_fld 6 105 = some (2, 5) := rfl
theorem fl_6_111 : q_fld 6 111 = some (5, 0) := rfl
theorem fl_6_114 : q_fld 6 114 = some (5, 2) := rfl
theorem fl_6_121 : q_fld 6 121 = some (5, 1) := rfl
theorem fl_6_125 : q_fld 6 125 = some (5, 3) := rfl
theorem fl_6_128 : q_fld 6 128 = some (2, 8) := rfl
theorem fl_6_131 : q_fld 6 131 = some (6, 7) := rfl
theorem fl_6_134 : q_fld 6 134 = some (6, 5) := rfl
theorem fl_6_137 : q_fld 6 137 = some (6, 8) := rfl
theorem fl_7_10 : q_fld 7 10 = some (7, 0) := rfl
theorem fl_7_19 : q_fld 7 19 = some (7, 1) := rfl
theorem fl_7_26 : q_fld 7 26 = some (7, 2) := rfl
theorem fl_7_33 : q_fld 7 33 = some (7, 3) := rfl
theorem fl_7_37 : q_fld 7 37 = some (7, 4) := rfl
theorem fl_7_46 : q_fld 7 46 = some (7, 5) := rfl
theorem fl_7_53 : q_fld 7 53 = some (7, 6) := rfl
theorem fl_7_77 : q_fld 7 77 = some (3, 1) := rfl
theorem fl_7_81 : q_fld 7 81 = some (3, 2) := rfl
theorem fl_7_89 : q_fld 7 89 = some (3, 0) := rfl
theorem fl_7_102 : q_fld 7 102 = some (6, 1) := rfl
theorem fl_7_116 : q_fld 7 116 = some (6, 8) := rfl
theorem fl_7_119 : q_fld 7 119 = some (6, 2) := rfl
theorem fl_7_128 : q_fld 7 128 = some (2, 1) := rfl
theorem fl_7_131 : q_fld 7 131 = some (6, 7) := rfl
theorem fl_7_144 : q_fld 7 144 = some (2, 9) := rfl
theorem fl_7_156 : q_fld 7 156 = some (5, 0) := rfl
theorem fl_7_167 : q_fld 7 167 = some (5, 3) := rfl
theorem fl_7_170 : q_fld 7 170 = some (5, 1) := rfl
theorem fl_7_174 : q_fld 7 174 = some (2, 0) := rfl
theorem fl_7_181 : q_fld 7 181 = some (2, 6) := rfl
theorem fl_7_184 : q_fld 7 184 = some (5, 2) := rfl
theorem fl_7_187 : q_fld 7 187 = some (5, 5) := rfl
theorem fl_7_190 : q_fld 7 190 = some (5, 4) := rfl
theorem fl_7_193 : q_fld 7 193 = some (0, 1) := rfl
theorem fl_7_202 : q_fld 7 202 = some (2, 8) := rfl
theorem fl_7_227 : q_fld 7 227 = some (2, 2) := rfl
theorem fl_7_233 : q_fld 7 233 = some (1, 2) := rfl
theorem fl_7_242 : q_fld 7 242 = some (1, 1) := rfl
theorem fl_7_249 : q_fld 7 249 = some (2, 7) := rfl
theorem fl_7_252 : q_fld 7 252 = some (5, 6) := rfl
theorem fl_7_255 : q_fld 7 255 = some (7, 7) := rfl
theorem fl_8_7 : q_fld 8 7 = some (8, 0) := rfl
theorem fl_8_13 : q_fld 8 13 = some (8, 1) := rfl
theorem fl_8_16 : q_fld 8 16 = some (8, 2) := rfl
theorem fl_8_20 : q_fld 8 20 = some (8, 3) := rfl
theorem fl_8_23 : q_fld 8 23 = some (8, 5) := rfl
theorem fl_8_26 : q_fld 8 26 = some (8, 6) := rfl
theorem fl_8_29 : q_fld 8 29 = some (8, 7) := rfl
theorem fl_8_32 : q_fld 8 32 = some (8, 9) := rfl
theorem fl_8_35 : q_fld 8 35 = some (8, 18) := rfl
theorem fl_8_38 : q_fld 8 38 = some (8, 19) := rfl
theorem fl_8_41 : q_fld 8 41 = some (8, 23) := rfl
theorem fl_8_45 : q_fld 8 45 = some (8, 8) := rfl
theorem fl_8_69 : q_fld 8 69 = some (8, 10) := rfl
theorem fl_8_75 : q_fld 8 75 = some (8, 11) := rfl
theorem fl_8_81 : q_fld 8 81 = some (8, 12) := rfl
theorem fl_8_84 : q_fld 8 84 = some (8, 13) := rfl
theorem fl_8_87 : q_fld 8 87 = some (8, 15) := rfl
theorem fl_8_91 : q_fld 8 91 = some (8, 14) := rfl
theorem fl_8_94 : q_fld 8 94 = some (8, 16) := rfl
theorem fl_8_147 : q_fld 8 147 = some (8, 17) := rfl
theorem fl_8_151 : q_fld 8 151 = some (8, 4) := rfl
theorem fl_8_201 : q_fld 8 201 = some (8, 20) := rfl
theorem fl_8_236 : q_fld 8 236 = some (8, 21) := rfl
theorem fl_8_239 : q_fld 8 239 = some (8, 22) := rfl
theorem fl_8_254 : q_fld 8 254 = some (8, 24) := rfl
theorem fl_11_9 : q_fld 11 9 = some (11, 0) := rfl
theorem fl_11_15 : q_fld 11 15 = some (11, 1) := rfl
theorem iv_0_3 : q_inv 0 3 = some (5, 0) := rfl
theorem iv_0_17 : q_inv 0 17 = some (4, 49) := rfl
theorem iv_0_22 : q_inv 0 22 = some (0, 50) := rfl
theorem iv_0_29 : q_inv 0 29 = some (1, 193) := rfl
theorem iv_1_3 : q_inv 1 3 = some (5, 0) := rfl
theorem iv_1_24 : q_inv 1 24 = some (0, 8) := rfl
theorem iv_1_28 : q_inv 1 28 = some (0, 9) := rfl
theorem iv_1_31 : q_inv 1 31 = some (0, 11) := rfl
theorem iv_1_34 : q_inv 1 34 = some (0, 10) := rfl
theorem iv_1_37 : q_inv 1 37 = some (0, 7) := rfl
theorem iv_1_40 : q_inv 1 40 = some (0, 13) := rfl
theorem iv_1_43 : q_inv 1 43 = some (0, 14) := rfl
theorem iv_1_46 : q_inv 1 46 = some (0, 16) := rfl
theorem iv_1_49 : q_inv 1 49 = some (0, 15) := rfl
theorem iv_1_52 : q_inv 1 52 = some (0, 12) := rfl
theorem iv_1_55 : q_inv 1 55 = some (0, 17) := rfl
theorem iv_2_3 : q_inv 2 3 = some (5, 0) := rfl
theorem iv_2_29 : q_inv 2 29 = some (4, 49) := rfl
theorem iv_2_42 : q_inv 2 42 = some (6, 0) := rfl
theorem iv_2_54 : q_inv 2 54 = some (0, 50) := rfl
theorem iv_2_58 : q_inv 2 58 = some (3, 99) := rfl
theorem iv_2_62 : q_inv 2 62 = some (0, 20) := rfl
theorem iv_2_82 : q_inv 2 82 = some (0, 26) := rfl
theorem iv_2_86 : q_inv 2 86 = some (0, 25) := rfl
theorem iv_2_89 : q_inv 2 89 = some (0, 27) := rfl
theorem iv_2_93 : q_inv 2 93 = some (0, 28) := rfl
theorem iv_2_99 : q_inv 2 99 = some (0, 31) := rfl
theorem iv_3_3 : q_inv 3 3 = some (5, 0) := rfl
theorem iv_3_23 : q_inv 3 23 = some (0, 34) := rfl
theorem iv_4_5 : q_inv 4 5 = some (5, 0) := rfl
theorem iv_4_41 : q_inv 4 41 = some (0, 43) := rfl
theorem iv_4_46 : q_inv 4 46 = some (0, 44) := rfl
theorem iv_4_51 : q_inv 4 51 = some (0, 45) := rfl
theorem iv_4_55 : q_inv 4 55 = some (0, 25) := rfl
theorem iv_4_59 : q_inv 4 59 = some (0, 24) := rfl
theorem iv_4_63 : q_inv 4 63 = some (0, 27) := rfl
theorem iv_4_78 : q_inv 4 78 = some (0, 46) := rfl
theorem iv_4_81 : q_inv 4 81 = some (0, 47) := rfl
theorem iv_4_88 : q_inv 4 88 = some (0, 26) := rfl
theorem iv_4_92 : q_inv 4 92 = some (0, 48) := rfl
theorem iv_4_99 : q_inv 4 99 = some (1, 192) := rfl
theorem iv_5_3 : q_inv 5 3 = some (5, 0) := rfl
theorem iv_5_24 : q_inv 5 24 = some (6, 0) := rfl
theorem iv_6_3 : q_inv 6 3 = some (5, 0) := rfl
theorem iv_6_17 : q_inv 6 17 = some (4, 18) := rfl
theorem iv_6_29 : q_inv 6 29 = some (0, 54) := rfl
theorem iv_6_32 : q_inv 6 32 = some (0, 63) := rfl
theorem iv_6_37 : q_inv 6 37 = some (0, 62) := rfl
theorem iv_6_41 : q_inv 6 41 = some (0, 60) := rfl
theorem iv_6_45 : q_inv 6 45 = some (0, 55) := rfl
theorem iv_6_63 : q_inv 6 63 = some (0, 56) := rfl
theorem iv_6_68 : q_inv 6 68 = some (0, 57) := rfl
theorem iv_6_88 : q_inv 6 88 = some (0, 61) := rfl
theorem iv_6_92 : q_inv 6 92 = some (0, 58) := rfl
theorem iv_6_108 : q_inv 6 108 = some (0, 59) := rfl
theorem iv_6_117 : q_inv 6 117 = some (0, 24) := rfl
theorem iv_6_150 : q_inv 6 150 = some (0, 194) := rfl
theorem iv_6_154 : q_inv 6 154 = some (0, 195) := rfl
theorem iv_6_158 : q_inv 6 158 = some (1, 66) := rfl
theorem iv_6_162 : q_inv 6 162 = some (0, 64) := rfl
theorem iv_6_165 : q_inv 6 165 = some (1, 67) := rfl
theorem iv_6_168 : q_inv 6 168 = some (0, 65) := rfl
theorem iv_7_1 : q_inv 7 1 = some (5, 0) := rfl
theorem iv_7_9 : q_inv 7 9 = some (2, 33) := rfl
theorem iv_7_18 : q_inv 7 18 = some (4, 51) := rfl
theorem iv_7_25 : q_inv 7 25 = some (4, 18) := rfl
theorem iv_7_32 : q_inv 7 32 = some (2, 0) := rfl
theorem iv_7_43 : q_inv 7 43 = some (2, 39) := rfl
theorem iv_7_52 : q_inv 7 52 = some (2, 4) := rfl
theorem iv_7_57 : q_inv 7 57 = some (1, 99) := rfl
theorem iv_7_62 : q_inv 7 62 = some (0, 100) := rfl
theorem iv_7_66 : q_inv 7 66 = some (0, 35) := rfl
theorem iv_7_70 : q_inv 7 70 = some (0, 101) := rfl
theorem iv_7_73 : q_inv 7 73 = some (0, 34) := rfl
theorem iv_7_85 : q_inv 7 85 = some (0, 36) := rfl
theorem iv_7_92 : q_inv 7 92 = some (0, 37) := rfl
theorem iv_7_96 : q_inv 7 96 = some (6, 0) := rfl
theorem iv_7_107 : q_inv 7 107 = some (0, 52) := rfl
theorem iv_7_111 : q_inv 7 111 = some (0, 53) := rfl
theorem iv_7_122 : q_inv 7 122 = some (0, 19) := rfl
theorem iv_7_125 : q_inv 7 125 = some (0, 3) := rfl
theorem iv_7_134 : q_inv 7 134 = some (0, 21) := rfl
theorem iv_7_137 : q_inv 7 137 = some (0, 20) := rfl
theorem iv_7_140 : q_inv 7 140 = some (0, 28) := rfl
theorem iv_7_148 : q_inv 7 148 = some (0, 1) := rfl
theorem iv_7_152 : q_inv 7 152 = some (0, 30) := rfl
theorem iv_7_161 : q_inv 7 161 = some (0, 22) := rfl
theorem iv_7_164 : q_inv 7 164 = some (0, 25) := rfl
theorem iv_7_178 : q_inv 7 178 = some (0, 24) := rfl
theorem iv_7_196 : q_inv 7 196 = some (0, 2) := rfl
theorem iv_7_199 : q_inv 7 199 = some (0, 29) := rfl
theorem iv_7_205 : q_inv 7 205 = some (0, 31) := rfl
theorem iv_7_208 : q_inv 7 208 = some (0, 32) := rfl
theorem iv_7_211 : q_inv 7 211 = some (0, 40) := rfl
theorem iv_7_214 : q_inv 7 214 = some (0, 41) := rfl
theorem iv_7_217 : q_inv 7 217 = some (0, 23) := rfl
theorem iv_7_220 : q_inv 7 220 = some (0, 42) := rfl
theorem iv_7_223 : q_inv 7 223 = some (0, 104) := rfl
theorem iv_7_230 : q_inv 7 230 = some (1, 102) := rfl
theorem iv_7_236 : q_inv 7 236 = some (0, 5) := rfl
theorem iv_7_239 : q_inv 7 239 = some (0, 6) := rfl
theorem iv_7_245 : q_inv 7 245 = some (0, 38) := rfl
theorem iv_7_259 : q_inv 7 259 = some (1, 103) := rfl
theorem iv_7_262 : q_inv 7 262 = some (1, 105) := rfl
theorem iv_7_265 : q_inv 7 265 = some (1, 191) := rfl
theorem iv_8_1 : q_inv 8 1 = some (5, 0) := rfl
theorem iv_8_50 : q_inv 8 50 = some (1, 107) := rfl
theorem iv_8_54 : q_inv 8 54 = some (1, 111) := rfl
theorem iv_8_59 : q_inv 8 59 = some (0, 109) := rfl
theorem iv_8_63 : q_inv 8 63 = some (0, 110) := rfl
theorem iv_8_66 : q_inv 8 66 = some (0, 114) := rfl
theorem iv_8_78 : q_inv 8 78 = some (0, 118) := rfl
theorem iv_8_97 : q_inv 8 97 = some (0, 119) := rfl
theorem iv_8_100 : q_inv 8 100 = some (0, 121) := rfl
theorem iv_8_104 : q_inv 8 104 = some (0, 122) := rfl
theorem iv_8_109 : q_inv 8 109 = some (0, 120) := rfl
theorem iv_8_123 : q_inv 8 123 = some (0, 125) := rfl
theorem iv_8_127 : q_inv 8 127 = some (0, 123) := rfl
theorem iv_8_131 : q_inv 8 131 = some (0, 124) := rfl
theorem iv_8_134 : q_inv 8 134 = some (0, 126) := rfl
theorem iv_8_139 : q_inv 8 139 = some (0, 127) := rfl
theorem iv_8_144 : q_inv 8 144 = some (0, 128) := rfl
theorem iv_8_154 : q_inv 8 154 = some (0, 135) := rfl
theorem iv_8_158 : q_inv 8 158 = some (1, 108) := rfl
theorem iv_8_162 : q_inv 8 162 = some (0, 136) := rfl
theorem iv_8_165 : q_inv 8 165 = some (0, 137) := rfl
theorem iv_8_168 : q_inv 8 168 = some (0, 138) := rfl
theorem iv_8_171 : q_inv 8 171 = some (0, 139) := rfl
theorem iv_8_175 : q_inv 8 175 = some (0, 133) := rfl
theorem iv_8_178 : q_inv 8 178 = some (0, 132) := rfl
theorem iv_8_181 : q_inv 8 181 = some (0, 140) := rfl
theorem iv_8_185 : q_inv 8 185 = some (0, 141) := rfl
theorem iv_8_188 : q_inv 8 188 = some (0, 134) := rfl
theorem iv_8_191 : q_inv 8 191 = some (0, 131) := rfl
theorem iv_8_195 : q_inv 8 195 = some (0, 149) := rfl
theorem iv_8_198 : q_inv 8 198 = some (0, 151) := rfl
theorem iv_8_205 : q_inv 8 205 = some (0, 155) := rfl
theorem iv_8_209 : q_inv 8 209 = some (1, 153) := rfl
theorem iv_8_212 : q_inv 8 212 = some (0, 154) := rfl
theorem iv_8_216 : q_inv 8 216 = some (0, 156) := rfl
theorem iv_8_220 : q_inv 8 220 = some (0, 157) := rfl
theorem iv_8_224 : q_inv 8 224 = some (1, 158) := rfl
theorem iv_8_227 : q_inv 8 227 = some (0, 160) := rfl
theorem iv_8_230 : q_inv 8 230 = some (0, 159) := rfl
theorem iv_8_233 : q_inv 8 233 = some (0, 163) := rfl
theorem iv_8_242 : q_inv 8 242 = some (0, 168) := rfl
theorem iv_8_245 : q_inv 8 245 = some (0, 167) := rfl
theorem iv_8_248 : q_inv 8 248 = some (0, 169) := rfl
theorem iv_8_251 : q_inv 8 251 = some (1, 174) := rfl
theorem iv_8_257 : q_inv 8 257 = some (0, 176) := rfl
theorem iv_8_261 : q_inv 8 261 = some (0, 178) := rfl
theorem iv_8_264 : q_inv 8 264 = some (0, 179) := rfl
theorem iv_8_267 : q_inv 8 267 = some (0, 177) := rfl
theorem iv_8_270 : q_inv 8 270 = some (0, 180) := rfl
theorem iv_8_273 : q_inv 8 273 = some (0, 182) := rfl
theorem iv_8_276 : q_inv 8 276 = some (0, 183) := rfl
theorem iv_8_279 : q_inv 8 279 = some (0, 181) := rfl
theorem iv_8_282 : q_inv 8 282 = some (0, 184) := rfl
theorem iv_8_285 : q_inv 8 285 = some (0, 185) := rfl
theorem iv_8_288 : q_inv 8 288 = some (0, 186) := rfl
theorem iv_11_335 : q_inv 11 335 = some (0, 196) := rfl
theorem iv_11_492 : q_inv 11 492 = some (0, 197) := rfl
theorem iv_11_495 : q_inv 11 495 = some (1, 199) := rfl
theorem iv_11_1059 : q_inv 11 1059 = some (1, 200) := rfl
theorem iv_12_9 : q_inv 12 9 = some (1, 198) := rfl
theorem iv_14_9 : q_inv 14 9 = some (2, 68) := rfl
theorem iv_14_12 : q_inv 14 12 = some (2, 106) := rfl
theorem iv_14_13 : q_inv 14 13 = some (0, 69) := rfl
theorem iv_14_17 : q_inv 14 17 = some (0, 112) := rfl
theorem iv_14_18 : q_inv 14 18 = some (0, 70) := rfl
theorem iv_14_21 : q_inv 14 21 = some (0, 113) := rfl
theorem iv_14_22 : q_inv 14 22 = some (0, 71) := rfl
theorem iv_14_26 : q_inv 14 26 = some (0, 115) := rfl
theorem iv_14_27 : q_inv 14 27 = some (0, 72) := rfl
theorem iv_14_31 : q_inv 14 31 = some (0, 116) := rfl
theorem iv_14_34 : q_inv 14 34 = some (0, 73) := rfl
theorem iv_14_38 : q_inv 14 38 = some (0, 117) := rfl
theorem iv_14_39 : q_inv 14 39 = some (0, 74) := rfl
theorem iv_14_43 : q_inv 14 43 = some (0, 129) := rfl
theorem iv_14_44 : q_inv 14 44 = some (0, 75) := rfl
theorem iv_14_47 : q_inv 14 47 = some (0, 130) := rfl
theorem iv_14_48 : q_inv 14 48 = some (0, 76) := rfl
theorem iv_14_52 : q_inv 14 52 = some (0, 142) := rfl
theorem iv_14_53 : q_inv 14 53 = some (0, 77) := rfl
theorem iv_14_56 : q_inv 14 56 = some (0, 143) := rfl
theorem iv_14_57 : q_inv 14 57 = some (0, 78) := rfl
theorem iv_14_60 : q_inv 14 60 = some (0, 144) := rfl
theorem iv_14_61 : q_inv 14 61 = some (0, 79) := rfl
theorem iv_14_64 : q_inv 14 64 = some (0, 145) := rfl
theorem iv_14_65 : q_inv 14 65 = some (0, 80) := rfl
theorem iv_14_68 : q_inv 14 68 = some (0, 146) := rfl
theorem iv_14_69 : q_inv 14 69 = some (0, 81) := rfl
theorem iv_14_72 : q_inv 14 72 = some (0, 147) := rfl
theorem iv_14_73 : q_inv 14 73 = some (0, 82) := rfl
theorem iv_14_76 : q_inv 14 76 = some (0, 148) := rfl
theorem iv_14_77 : q_inv 14 77 = some (0, 83) := rfl
theorem iv_14_80 : q_inv 14 80 = some (0, 150) := rfl
theorem iv_14_81 : q_inv 14 81 = some (0, 84) := rfl
theorem iv_14_84 : q_inv 14 84 = some (0, 152) := rfl
theorem iv_14_85 : q_inv 14 85 = some (0, 85) := rfl
theorem iv_14_88 : q_inv 14 88 = some (0, 161) := rfl
theorem iv_14_89 : q_inv 14 89 = some (0, 86) := rfl
theorem iv_14_92 : q_inv 14 92 = some (0, 162) := rfl
theorem iv_14_93 : q_inv 14 93 = some (0, 87) := rfl
theorem iv_14_96 : q_inv 14 96 = some (0, 164) := rfl
theorem iv_14_97 : q_inv 14 97 = some (0, 88) := rfl
theorem iv_14_100 : q_inv 14 100 = some (0, 165) := rfl
theorem iv_14_101 : q_inv 14 101 = some (0, 89) := rfl
theorem iv_14_104 : q_inv 14 104 = some (0, 166) := rfl
theorem iv_14_105 : q_inv 14 105 = some (0, 90) := rfl
theorem iv_14_108 : q_inv 14 108 = some (0, 170) := rfl
theorem iv_14_109 : q_inv 14 109 = some (0, 91) := rfl
theorem iv_14_112 : q_inv 14 112 = some (0, 171) := rfl
theorem iv_14_113 : q_inv 14 113 = some (0, 92) := rfl
theorem iv_14_116 : q_inv 14 116 = some (0, 172) := rfl
theorem iv_14_117 : q_inv 14 117 = some (0, 93) := rfl
theorem iv_14_120 : q_inv 14 120 = some (0, 173) := rfl
theorem iv_14_121 : q_inv 14 121 = some (0, 94) := rfl
theorem iv_14_124 : q_inv 14 124 = some (0, 175) := rfl
theorem iv_14_125 : q_inv 14 125 = some (0, 95) := rfl
theorem iv_14_128 : q_inv 14 128 = some (0, 187) := rfl
theorem iv_14_129 : q_inv 14 129 = some (0, 96) := rfl
theorem iv_14_132 : q_inv 14 132 = some (0, 188) := rfl
theorem iv_14_133 : q_inv 14 133 = some (0, 97) := rfl
theorem iv_14_136 : q_inv 14 136 = some (0, 189) := rfl
theorem iv_14_137 : q_inv 14 137 = some (0, 98) := rfl
theorem iv_14_140 : q_inv 14 140 = some (0, 190) := rfl
theorem cn_2_69 : q_con 2 69 = some (-1000000) := rfl
theorem cn_4_45 : q_con 4 45 = some (-1000000) := rfl
theorem cn_6_124 : q_con 6 124 = some (-1000000) := rfl
theorem cn_7_61 : q_con 7 61 = some (-1000001) := rfl
theorem cn_7_106 : q_con 7 106 = some (-1000003) := rfl
theorem cn_7_115 : q_con 7 115 = some (-1000100) := rfl
theorem cn_7_143 : q_con 7 143 = some (-1000002) := rfl
theorem cn_7_173 : q_con 7 173 = some (-1000000) := rfl
theorem cn_7_258 : q_con 7 258 = some (-1000010) := rfl
theorem cn_8_44 : q_con 8 44 = some (-1000000) := rfl
theorem cn_8_49 : q_con 8 49 = some (-1000010) := rfl
theorem cn_8_58 : q_con 8 58 = some (-1000001) := rfl
theorem cn_8_72 : q_con 8 72 = some (-1000003) := rfl
theorem cn_8_150 : q_con 8 150 = some (-1000100) := rfl
theorem cn_8_184 : q_con 8 184 = some (-1000002) := rfl
theorem cn_9_265 : q_con 9 265 = some (1431655765) := rfl
theorem cn_9_266 : q_con 9 266 = some (858993459) := rfl
theorem cn_9_267 : q_con 9 267 = some (252645135) := rfl
theorem lc_4_49 : q_lco 4 49 = some (-1) := rfl
theorem lc_8_73 : q_lco 8 73 = some (255) := rfl
theorem lc_8_107 : q_lco 8 107 = some (108243533981541) := rfl
theorem lc_8_113 : q_lco 8 113 = some (1734440037) := rfl
theorem lc_8_115 : q_lco 8 115 = some (1718579812) := rfl
theorem lc_8_117 : q_lco 8 117 = some (482854661739) := rfl
theorem lc_8_119 : q_lco 8 119 = some (439788663417) := rfl
theorem lc_8_121 : q_lco 8 121 = some (7165912498748092007) := rfl
theorem lc_8_137 : q_lco 8 137 = some (27973166868030834) := rfl
theorem lc_8_142 : q_lco 8 142 = some (1819238756) := rfl
theorem lc_14_32 : q_lco 14 32 = some (4294967295) := rfl
theorem pl_0_1 (F : q_FT) (C : q_CT) (a : Nat) : 1 < (q_fs F C a 0).length := by simp [q_fs]
theorem ps_0_1 (F : q_FT) (C : q_CT) (a : Nat) (x : Int32) : q_fs (u2 F a 1 x) C a 0 = (q_fs F C a 0).set 1 (.int x) := by simp [q_fs, u2]
theorem pl_0_2 (F : q_FT) (C : q_CT) (a : Nat) : 2 < (q_fs F C a 0).length := by simp [q_fs]
theorem ps_0_2 (F : q_FT) (C : q_CT) (a : Nat) (x : Int32) : q_fs (u2 F a 2 x) C a 0 = (q_fs F C a 0).set 2 (.int x) := by simp [q_fs, u2]
theorem pl_1_2 (F : q_FT) (C : q_CT) (a : Nat) : 2 < (q_fs F C a 1).length := by simp [q_fs]
theorem ps_1_2 (F : q_FT) (C : q_CT) (a : Nat) (x : Int32) : q_fs (u2 F a 2 x) C a 1 = (q_fs F C a 1).set 2 (.int x) := by simp [q_fs, u2]
theorem pl_2_0 (F : q_FT) (C : q_CT) (a : Nat) : 0 < (q_fs F C a 2).length := by simp [q_fs]
theorem ps_2_0 (F : q_FT) (C : q_CT) (a : Nat) (x : Int32) : q_fs (u2 F a 0 x) C a 2 = (q_fs F C a 2).set 0 (.int x) := by simp [q_fs, u2]
theorem pl_2_1 (F : q_FT) (C : q_CT) (a : Nat) : 1 < (q_fs F C a 2).length := by simp [q_fs]
theorem ps_2_1 (F : q_FT) (C : q_CT) (a : Nat) (x : Int32) : q_fs (u2 F a 1 x) C a 2 = (q_fs F C a 2).set 1 (.int x) := by simp [q_fs, u2]
theorem pl_2_6 (F : q_FT) (C : q_CT) (a : Nat) : 6 < (q_fs F C a 2).length := by simp [q_fs]
theorem ps_2_6 (F : q_FT) (C : q_CT) (a : Nat) (x : Int32) : q_fs (u2 F a 6 x) C a 2 = (q_fs F C a 2).set 6 (.int x) := by simp [q_fs, u2]
theorem pl_2_7 (F : q_FT) (C : q_CT) (a : Nat) : 7 < (q_fs F C a 2).length := by simp [q_fs]
theorem ps_2_7 (F : q_FT) (C : q_CT) (a : Nat) (x : Int32) : q_fs (u2 F a 7 x) C a 2 = (q_fs F C a 2).set 7 (.int x) := by simp [q_fs, u2]
theorem pl_4_3 (F : q_FT) (C : q_CT) (a : Nat) : 3 < (q_fs F C a 4).length := by simp [q_fs]
theorem ps_4_3 (F : q_FT) (C : q_CT) (a : Nat) (x : Int32) : q_fs (u2 F a 3 x) C a 4 = (q_fs F C a 4).set 3 (.int x) := by simp [q_fs, u2]
theorem pl_4_4 (F : q_FT) (C : q_CT) (a : Nat) : 4 < (q_fs F C a 4).length := by simp [q_fs]
theorem ps_4_4 (F : q_FT) (C : q_CT) (a : Nat) (x : Int32) : q_fs (u2 F a 4 x) C a 4 = (q_fs F C a 4).set 4 (.int x) := by simp [q_fs, u2]
theorem pl_4_5 (F : q_FT) (C : q_CT) (a : Nat) : 5 < (q_fs F C a 4).length := by simp [q_fs]
theorem ps_4_5 (F : q_FT) (C : q_CT) (a : Nat) (x : Int32) : q_fs (u2 F a 5 x) C a 4 = (q_fs F C a 4).set 5 (.int x) := by simp [q_fs, u2]
theorem pl_5_4 (F : q_FT) (C : q_CT) (a : Nat) : 4 < (q_fs F C a 5).length := by simp [q_fs]
theorem ps_5_4 (F : q_FT) (C : q_CT) (a : Nat) (x : Int32) : q_fs (u2 F a 4 x) C a 5 = (q_fs F C a 5).set 4 (.int x) := by simp [q_fs, u2]
theorem pl_5_5 (F : q_FT) (C : q_CT) (a : Nat) : 5 < (q_fs F C a 5).length := by simp [q_fs]
theorem ps_5_5 (F : q_FT) (C : q_CT) (a : Nat) (x : Int32) : q_fs (u2 F a 5 x) C a 5 = (q_fs F C a 5).set 5 (.int x) := by simp [q_fs, u2]
theorem pl_5_6 (F : q_FT) (C : q_CT) (a : Nat) : 6 < (q_fs F C a 5).length := by simp [q_fs]
theorem ps_5_6 (F : q_FT) (C : q_CT) (a : Nat) (x : Int32) : q_fs (u2 F a 6 x) C a 5 = (q_fs F C a 5).set 6 (.int x) := by simp [q_fs, u2]
theorem pl_6_1 (F : q_FT) (C : q_CT) (a : Nat) : 1 < (q_fs F C a 6).length := by simp [q_fs]
theorem ps_6_1 (F : q_FT) (C : q_CT) (a : Nat) (x : Int32) : q_fs (u2 F a 1 x) C a 6 = (q_fs F C a 6).set 1 (.int x) := by simp [q_fs, u2]
theorem pl_6_3 (F : q_FT) (C : q_CT) (a : Nat) : 3 < (q_fs F C a 6).length := by simp [q_fs]
theorem ps_6_3 (F : q_FT) (C : q_CT) (a : Nat) (x : Int32) : q_fs (u2 F a 3 x) C a 6 = (q_fs F C a 6).set 3 (.int x) := by simp [q_fs, u2]
theorem pl_6_4 (F : q_FT) (C : q_CT) (a : Nat) : 4 < (q_fs F C a 6).length := by simp [q_fs]
theorem ps_6_4 (F : q_FT) (C : q_CT) (a : Nat) (x : Int32) : q_fs (u2 F a 4 x) C a 6 = (q_fs F C a 6).set 4 (.int x) := by simp [q_fs, u2]
theorem pl_6_5 (F : q_FT) (C : q_CT) (a : Nat) : 5 < (q_fs F C a 6).length := by simp [q_fs]
theorem ps_6_5 (F : q_FT) (C : q_CT) (a : Nat) (x : Int32) : q_fs (u2 F a 5 x) C a 6 = (q_fs F C a 6).set 5 (.int x) := by simp [q_fs, u2]
theorem pl_6_6 (F : q_FT) (C : q_CT) (a : Nat) : 6 < (q_fs F C a 6).length := by simp [q_fs]
theorem ps_6_6 (F : q_FT) (C : q_CT) (a : Nat) (x : Int32) : q_fs (u2 F a 6 x) C a 6 = (q_fs F C a 6).set 6 (.int x) := by simp [q_fs, u2]
theorem pl_6_7 (F : q_FT) (C : q_CT) (a : Nat) : 7 < (q_fs F C a 6).length := by simp [q_fs]
theorem ps_6_7 (F : q_FT) (C : q_CT) (a : Nat) (x : Int32) : q_fs (u2 F a 7 x) C a 6 = (q_fs F C a 6).set 7 (.int x) := by simp [q_fs, u2]
theorem pl_6_8 (F : q_FT) (C : q_CT) (a : Nat) : 8 < (q_fs F C a 6).length := by simp [q_fs]
theorem ps_6_8 (F : q_FT) (C : q_CT) (a : Nat) (x : Int32) : q_fs (u2 F a 8 x) C a 6 = (q_fs F C a 6).set 8 (.int x) := by simp [q_fs, u2]
theorem pl_7_7 (F : q_FT) (C : q_CT) (a : Nat) : 7 < (q_fs F C a 7).length := by simp [q_fs]
theorem ps_7_7 (F : q_FT) (C : q_CT) (a : Nat) (x : Int32) : q_fs (u2 F a 7 x) C a 7 = (q_fs F C a 7).set 7 (.int x) := by simp [q_fs, u2]
theorem pl_8_4 (F : q_FT) (C : q_CT) (a : Nat) : 4 < (q_fs F C a 8).length := by simp [q_fs]
theorem ps_8_4 (F : q_FT) (C : q_CT) (a : Nat) (x : Int32) : q_fs (u2 F a 4 x) C a 8 = (q_fs F C a 8).set 4 (.int x) := by simp [q_fs, u2]
theorem pl_8_8 (F : q_FT) (C : q_CT) (a : Nat) : 8 < (q_fs F C a 8).length := by simp [q_fs]
theorem ps_8_8 (F : q_FT) (C : q_CT) (a : Nat) (x : Int32) : q_fs (u2 F a 8 x) C a 8 = (q_fs F C a 8).set 8 (.int x) := by simp [q_fs, u2]
theorem pl_8_10 (F : q_FT) (C : q_CT) (a : Nat) : 10 < (q_fs F C a 8).length := by simp [q_fs]
theorem ps_8_10 (F : q_FT) (C : q_CT) (a : Nat) (x : Int32) : q_fs (u2 F a 10 x) C a 8 = (q_fs F C a 8).set 10 (.int x) := by simp [q_fs, u2]
theorem pl_8_11 (F : q_FT) (C : q_CT) (a : Nat) : 11 < (q_fs F C a 8).length := by simp [q_fs]
theorem ps_8_11 (F : q_FT) (C : q_CT) (a : Nat) (x : Int32) : q_fs (u2 F a 11 x) C a 8 = (q_fs F C a 8).set 11 (.int x) := by simp [q_fs, u2]
theorem pl_8_12 (F : q_FT) (C : q_CT) (a : Nat) : 12 < (q_fs F C a 8).length := by simp [q_fs]
theorem ps_8_12 (F : q_FT) (C : q_CT) (a : Nat) (x : Int32) : q_fs (u2 F a 12 x) C a 8 = (q_fs F C a 8).set 12 (.int x) := by simp [q_fs, u2]
theorem pl_8_13 (F : q_FT) (C : q_CT) (a : Nat) : 13 < (q_fs F C a 8).length := by simp [q_fs]
theorem ps_8_13 (F : q_FT) (C : q_CT) (a : Nat) (x : Int32) : q_fs (u2 F a 13 x) C a 8 = (q_fs F C a 8).set 13 (.int x) := by simp [q_fs, u2]
theorem pl_8_14 (F : q_FT) (C : q_CT) (a : Nat) : 14 < (q_fs F C a 8).length := by simp [q_fs]
theorem ps_8_14 (F : q_FT) (C : q_CT) (a : Nat) (x : Int32) : q_fs (u2 F a 14 x) C a 8 = (q_fs F C a 8).set 14 (.int x) := by simp [q_fs, u2]
theorem pl_8_16 (F : q_FT) (C : q_CT) (a : Nat) : 16 < (q_fs F C a 8).length := by simp [q_fs]
theorem ps_8_16 (F : q_FT) (C : q_CT) (a : Nat) (x : Int32) : q_fs (u2 F a 16 x) C a 8 = (q_fs F C a 8).set 16 (.int x) := by simp [q_fs, u2]
theorem pl_8_17 (F : q_FT) (C : q_CT) (a : Nat) : 17 < (q_fs F C a 8).length := by simp [q_fs]
theorem ps_8_17 (F : q_FT) (C : q_CT) (a : Nat) (x : Int32) : q_fs (u2 F a 17 x) C a 8 = (q_fs F C a 8).set 17 (.int x) := by simp [q_fs, u2]
theorem pl_8_20 (F : q_FT) (C : q_CT) (a : Nat) : 20 < (q_fs F C a 8).length := by simp [q_fs]
theorem ps_8_20 (F : q_FT) (C : q_CT) (a : Nat) (x : Int32) : q_fs (u2 F a 20 x) C a 8 = (q_fs F C a 8).set 20 (.int x) := by simp [q_fs, u2]
theorem pl_8_21 (F : q_FT) (C : q_CT) (a : Nat) : 21 < (q_fs F C a 8).length := by simp [q_fs]
theorem ps_8_21 (F : q_FT) (C : q_CT) (a : Nat) (x : Int32) : q_fs (u2 F a 21 x) C a 8 = (q_fs F C a 8).set 21 (.int x) := by simp [q_fs, u2]
theorem pl_8_22 (F : q_FT) (C : q_CT) (a : Nat) : 22 < (q_fs F C a 8).length := by simp [q_fs]
theorem ps_8_22 (F : q_FT) (C : q_CT) (a : Nat) (x : Int32) : q_fs (u2 F a 22 x) C a 8 = (q_fs F C a 8).set 22 (.int x) := by simp [q_fs, u2]
theorem pl_8_24 (F : q_FT) (C : q_CT) (a : Nat) : 24 < (q_fs F C a 8).length := by simp [q_fs]
theorem ps_8_24 (F : q_FT) (C : q_CT) (a : Nat) (x : Int32) : q_fs (u2 F a 24 x) C a 8 = (q_fs F C a 8).set 24 (.int x) := by simp [q_fs, u2]
theorem q_fitI (x : Int32) : q_fit .int (.int x) = true := by simp [q_fit, narrow, fits]
theorem q_fitZ {x : Int32} (h : x = 0 ∨ x = 1) : q_fit .boolean (.int x) = true := by rcases h with rfl | rfl <;> decide
