section sw_R
variable (ls : sw_LS) (st : List Value) (H : sw_HS) (Q : sw_Ot → sw_HS → Prop)
theorem r79_0 : sw_A 79 0 ls st H Q = (sw_ldi False ls 0 fun x => sw_A 79 1 ls (.int x :: st) H Q) := sw_A_step (cc := cL_one) rfl dL_one_0 rfl ls st H Q
theorem r79_1 : sw_A 79 1 ls st H Q = (sw_A 79 3 ls (.int (Int32.ofInt 30) :: st) H Q) := sw_A_step (cc := cL_one) rfl dL_one_1 rfl ls st H Q
theorem r79_3 : sw_A 79 3 ls st H Q = (sw_i2 False st fun x y r => if y ≤ x then sw_A 79 19 ls r H Q else sw_A 79 6 ls r H Q) := sw_A_step (cc := cL_one) rfl dL_one_3 rfl ls st H Q
theorem r79_6 : sw_A 79 6 ls st H Q = (sw_ldi False ls 0 fun x => sw_A 79 7 ls (.int x :: st) H Q) := sw_A_step (cc := cL_one) rfl dL_one_6 rfl ls st H Q
theorem r79_7 : sw_A 79 7 ls st H Q = (sw_A 79 8 ls (.int (Int32.ofInt 5) :: st) H Q) := sw_A_step (cc := cL_one) rfl dL_one_7 rfl ls st H Q
theorem r79_8 : sw_A 79 8 ls st H Q = (sw_i2 False st fun x y r => if y = 0 then False else sw_A 79 9 ls (.int (x / y) :: r) H Q) := sw_A_step (cc := cL_one) rfl dL_one_8 rfl ls st H Q
theorem r79_9 : sw_A 79 9 ls st H Q = (sw_A 79 11 ls (.int (Int32.ofInt 6) :: st) H Q) := sw_A_step (cc := cL_one) rfl dL_one_9 rfl ls st H Q
theorem r79_11 : sw_A 79 11 ls st H Q = (sw_i2 False st fun x y r => sw_A 79 12 ls (.int (x * y) :: r) H Q) := sw_A_step (cc := cL_one) rfl dL_one_11 rfl ls st H Q
theorem r79_12 : sw_A 79 12 ls st H Q = (sw_ldi False ls 0 fun x => sw_A 79 13 ls (.int x :: st) H Q) := sw_A_step (cc := cL_one) rfl dL_one_12 rfl ls st H Q
theorem r79_13 : sw_A 79 13 ls st H Q = (sw_A 79 14 ls (.int (Int32.ofInt 5) :: st) H Q) := sw_A_step (cc := cL_one) rfl dL_one_13 rfl ls st H Q
theorem r79_14 : sw_A 79 14 ls st H Q = (sw_i2 False st fun x y r => if y = 0 then False else sw_A 79 15 ls (.int (x - x / y * y) :: r) H Q) := sw_A_step (cc := cL_one) rfl dL_one_14 rfl ls st H Q
theorem r79_15 : sw_A 79 15 ls st H Q = (sw_i2 False st fun x y r => sw_A 79 16 ls (.int (x + y) :: r) H Q) := sw_A_step (cc := cL_one) rfl dL_one_15 rfl ls st H Q
theorem r79_16 : sw_A 79 16 ls st H Q = (sw_A 79 23 ls st H Q) := sw_A_step (cc := cL_one) rfl dL_one_16 rfl ls st H Q
theorem r79_19 : sw_A 79 19 ls st H Q = (sw_ldi False ls 0 fun x => sw_A 79 20 ls (.int x :: st) H Q) := sw_A_step (cc := cL_one) rfl dL_one_19 rfl ls st H Q
theorem r79_20 : sw_A 79 20 ls st H Q = (sw_A 79 22 ls (.int (Int32.ofInt 30) :: st) H Q) := sw_A_step (cc := cL_one) rfl dL_one_20 rfl ls st H Q
theorem r79_22 : sw_A 79 22 ls st H Q = (sw_i2 False st fun x y r => sw_A 79 23 ls (.int (x - y) :: r) H Q) := sw_A_step (cc := cL_one) rfl dL_one_22 rfl ls st H Q
theorem r79_23 : sw_A 79 23 ls st H Q = (match st with | [.int x] => Q (some (some (.int x))) H | _ => False) := sw_A_step (cc := cL_one) rfl dL_one_23 rfl ls st H Q
theorem r80_0 : sw_A 80 0 ls st H Q = (sw_ldi False ls 0 fun x => sw_A 80 1 ls (.int x :: st) H Q) := sw_A_step (cc := cL_other) rfl dL_other_0 rfl ls st H Q
theorem r80_1 : sw_A 80 1 ls st H Q = (sw_A 80 3 ls (.int (Int32.ofInt 30) :: st) H Q) := sw_A_step (cc := cL_other) rfl dL_other_1 rfl ls st H Q
theorem r80_3 : sw_A 80 3 ls st H Q = (sw_i2 False st fun x y r => if y ≤ x then sw_A 80 21 ls r H Q else sw_A 80 6 ls r H Q) := sw_A_step (cc := cL_other) rfl dL_other_3 rfl ls st H Q
theorem r80_6 : sw_A 80 6 ls st H Q = (sw_ldi False ls 0 fun x => sw_A 80 7 ls (.int x :: st) H Q) := sw_A_step (cc := cL_other) rfl dL_other_6 rfl ls st H Q
theorem r80_7 : sw_A 80 7 ls st H Q = (sw_A 80 8 ls (.int (Int32.ofInt 5) :: st) H Q) := sw_A_step (cc := cL_other) rfl dL_other_7 rfl ls st H Q
theorem r80_8 : sw_A 80 8 ls st H Q = (sw_i2 False st fun x y r => if y = 0 then False else sw_A 80 9 ls (.int (x / y) :: r) H Q) := sw_A_step (cc := cL_other) rfl dL_other_8 rfl ls st H Q
theorem r80_9 : sw_A 80 9 ls st H Q = (sw_A 80 11 ls (.int (Int32.ofInt 6) :: st) H Q) := sw_A_step (cc := cL_other) rfl dL_other_9 rfl ls st H Q
theorem r80_11 : sw_A 80 11 ls st H Q = (sw_i2 False st fun x y r => sw_A 80 12 ls (.int (x * y) :: r) H Q) := sw_A_step (cc := cL_other) rfl dL_other_11 rfl ls st H Q
theorem r80_12 : sw_A 80 12 ls st H Q = (sw_ldi False ls 0 fun x => sw_A 80 13 ls (.int x :: st) H Q) := sw_A_step (cc := cL_other) rfl dL_other_12 rfl ls st H Q
theorem r80_13 : sw_A 80 13 ls st H Q = (sw_A 80 14 ls (.int (Int32.ofInt 5) :: st) H Q) := sw_A_step (cc := cL_other) rfl dL_other_13 rfl ls st H Q
theorem r80_14 : sw_A 80 14 ls st H Q = (sw_i2 False st fun x y r => if y = 0 then False else sw_A 80 15 ls (.int (x - x / y * y) :: r) H Q) := sw_A_step (cc := cL_other) rfl dL_other_14 rfl ls st H Q
theorem r80_15 : sw_A 80 15 ls st H Q = (sw_i2 False st fun x y r => sw_A 80 16 ls (.int (x + y) :: r) H Q) := sw_A_step (cc := cL_other) rfl dL_other_15 rfl ls st H Q
theorem r80_16 : sw_A 80 16 ls st H Q = (sw_A 80 17 ls (.int (Int32.ofInt 1) :: st) H Q) := sw_A_step (cc := cL_other) rfl dL_other_16 rfl ls st H Q
theorem r80_17 : sw_A 80 17 ls st H Q = (sw_i2 False st fun x y r => sw_A 80 18 ls (.int (x + y) :: r) H Q) := sw_A_step (cc := cL_other) rfl dL_other_17 rfl ls st H Q
theorem r80_18 : sw_A 80 18 ls st H Q = (sw_A 80 25 ls st H Q) := sw_A_step (cc := cL_other) rfl dL_other_18 rfl ls st H Q
theorem r80_21 : sw_A 80 21 ls st H Q = (sw_ldi False ls 0 fun x => sw_A 80 22 ls (.int x :: st) H Q) := sw_A_step (cc := cL_other) rfl dL_other_21 rfl ls st H Q
theorem r80_22 : sw_A 80 22 ls st H Q = (sw_A 80 24 ls (.int (Int32.ofInt 24) :: st) H Q) := sw_A_step (cc := cL_other) rfl dL_other_22 rfl ls st H Q
theorem r80_24 : sw_A 80 24 ls st H Q = (sw_i2 False st fun x y r => sw_A 80 25 ls (.int (x - y) :: r) H Q) := sw_A_step (cc := cL_other) rfl dL_other_24 rfl ls st H Q
theorem r80_25 : sw_A 80 25 ls st H Q = (match st with | [.int x] => Q (some (some (.int x))) H | _ => False) := sw_A_step (cc := cL_other) rfl dL_other_25 rfl ls st H Q
theorem r81_0 : sw_A 81 0 ls st H Q = (sw_ldi False ls 6 fun x => sw_A 81 2 ls (.int x :: st) H Q) := sw_A_step (cc := cL_leads) rfl dL_leads_0 rfl ls st H Q
theorem r81_2 : sw_A 81 2 ls st H Q = (sw_pop False 1 st [] fun args r => sw_ck False r (sw_M 79 args H (sw_K 81 5 none ls r Q))) := sw_A_step (cc := cL_leads) rfl dL_leads_2 rfl ls st H Q
theorem r81_5 : sw_A 81 5 ls st H Q = (sw_has1 False ls 7 (sw_i1 False st fun x r => sw_A 81 7 (sw_set1 ls 7 (.int x)) r H Q)) := sw_A_step (cc := cL_leads) rfl dL_leads_5 rfl ls st H Q
theorem r81_7 : sw_A 81 7 ls st H Q = (sw_ldi False ls 6 fun x => sw_A 81 9 ls (.int x :: st) H Q) := sw_A_step (cc := cL_leads) rfl dL_leads_7 rfl ls st H Q
theorem r81_9 : sw_A 81 9 ls st H Q = (sw_pop False 1 st [] fun args r => sw_ck False r (sw_M 80 args H (sw_K 81 12 none ls r Q))) := sw_A_step (cc := cL_leads) rfl dL_leads_9 rfl ls st H Q
theorem r81_12 : sw_A 81 12 ls st H Q = (sw_has1 False ls 8 (sw_i1 False st fun x r => sw_A 81 14 (sw_set1 ls 8 (.int x)) r H Q)) := sw_A_step (cc := cL_leads) rfl dL_leads_12 rfl ls st H Q
theorem r81_14 : sw_A 81 14 ls st H Q = (sw_ldl False ls 2 fun x => sw_A 81 15 ls (.long x :: st) H Q) := sw_A_step (cc := cL_leads) rfl dL_leads_14 rfl ls st H Q
theorem r81_15 : sw_A 81 15 ls st H Q = (sw_ldi False ls 7 fun x => sw_A 81 17 ls (.int x :: st) H Q) := sw_A_step (cc := cL_leads) rfl dL_leads_15 rfl ls st H Q
theorem r81_17 : sw_A 81 17 ls st H Q = (sw_pop False 2 st [] fun args r => sw_ck False r (sw_M 30 args H (sw_K 81 20 none ls r Q))) := sw_A_step (cc := cL_leads) rfl dL_leads_17 rfl ls st H Q
theorem r81_20 : sw_A 81 20 ls st H Q = (sw_i1 False st fun x r => if ¬ x = 0 then sw_A 81 55 ls r H Q else sw_A 81 23 ls r H Q) := sw_A_step (cc := cL_leads) rfl dL_leads_20 rfl ls st H Q
theorem r81_23 : sw_A 81 23 ls st H Q = (sw_ldl False ls 2 fun x => sw_A 81 24 ls (.long x :: st) H Q) := sw_A_step (cc := cL_leads) rfl dL_leads_23 rfl ls st H Q
theorem r81_24 : sw_A 81 24 ls st H Q = (sw_ldi False ls 8 fun x => sw_A 81 26 ls (.int x :: st) H Q) := sw_A_step (cc := cL_leads) rfl dL_leads_24 rfl ls st H Q
theorem r81_26 : sw_A 81 26 ls st H Q = (sw_pop False 2 st [] fun args r => sw_ck False r (sw_M 30 args H (sw_K 81 29 none ls r Q))) := sw_A_step (cc := cL_leads) rfl dL_leads_26 rfl ls st H Q
theorem r81_29 : sw_A 81 29 ls st H Q = (sw_i1 False st fun x r => if ¬ x = 0 then sw_A 81 55 ls r H Q else sw_A 81 32 ls r H Q) := sw_A_step (cc := cL_leads) rfl dL_leads_29 rfl ls st H Q
theorem r81_32 : sw_A 81 32 ls st H Q = (sw_ldi False ls 4 fun x => sw_A 81 34 ls (.int x :: st) H Q) := sw_A_step (cc := cL_leads) rfl dL_leads_32 rfl ls st H Q
theorem r81_34 : sw_A 81 34 ls st H Q = (sw_i1 False st fun x r => if x ≤ 0 then sw_A 81 57 ls r H Q else sw_A 81 37 ls r H Q) := sw_A_step (cc := cL_leads) rfl dL_leads_34 rfl ls st H Q
theorem r81_37 : sw_A 81 37 ls st H Q = (sw_lda False ls 1 fun x => sw_A 81 38 ls (.ref x :: st) H Q) := sw_A_step (cc := cL_leads) rfl dL_leads_37 rfl ls st H Q
theorem r81_38 : sw_A 81 38 ls st H Q = (sw_ldi False ls 7 fun x => sw_A 81 40 ls (.int x :: st) H Q) := sw_A_step (cc := cL_leads) rfl dL_leads_38 rfl ls st H Q
theorem r81_40 : sw_A 81 40 ls st H Q = (sw_ri False st fun a i r => sw_ald False H 0 a i fun x => sw_A 81 41 ls (.int x :: r) H Q) := sw_A_step (cc := cL_leads) rfl dL_leads_40 rfl ls st H Q
theorem r81_41 : sw_A 81 41 ls st H Q = (sw_ldi False ls 5 fun x => sw_A 81 43 ls (.int x :: st) H Q) := sw_A_step (cc := cL_leads) rfl dL_leads_41 rfl ls st H Q
theorem r81_43 : sw_A 81 43 ls st H Q = (sw_i2 False st fun x y r => if y ≤ x then sw_A 81 55 ls r H Q else sw_A 81 46 ls r H Q) := sw_A_step (cc := cL_leads) rfl dL_leads_43 rfl ls st H Q
theorem r81_46 : sw_A 81 46 ls st H Q = (sw_lda False ls 1 fun x => sw_A 81 47 ls (.ref x :: st) H Q) := sw_A_step (cc := cL_leads) rfl dL_leads_46 rfl ls st H Q
theorem r81_47 : sw_A 81 47 ls st H Q = (sw_ldi False ls 8 fun x => sw_A 81 49 ls (.int x :: st) H Q) := sw_A_step (cc := cL_leads) rfl dL_leads_47 rfl ls st H Q
theorem r81_49 : sw_A 81 49 ls st H Q = (sw_ri False st fun a i r => sw_ald False H 0 a i fun x => sw_A 81 50 ls (.int x :: r) H Q) := sw_A_step (cc := cL_leads) rfl dL_leads_49 rfl ls st H Q
theorem r81_50 : sw_A 81 50 ls st H Q = (sw_ldi False ls 5 fun x => sw_A 81 52 ls (.int x :: st) H Q) := sw_A_step (cc := cL_leads) rfl dL_leads_50 rfl ls st H Q
theorem r81_52 : sw_A 81 52 ls st H Q = (sw_i2 False st fun x y r => if x < y then sw_A 81 57 ls r H Q else sw_A 81 55 ls r H Q) := sw_A_step (cc := cL_leads) rfl dL_leads_52 rfl ls st H Q
theorem r81_55 : sw_A 81 55 ls st H Q = (sw_A 81 56 ls (.int (Int32.ofInt 0) :: st) H Q) := sw_A_step (cc := cL_leads) rfl dL_leads_55 rfl ls st H Q
theorem r81_56 : sw_A 81 56 ls st H Q = (match st with | [.int x] => (if 2 = 1 ∨ 2 = 2 ∧ (x = 0 ∨ x = 1) then Q (some (some (.int x))) H else False) | _ => False) := sw_A_step (cc := cL_leads) rfl dL_leads_56 rfl ls st H Q
theorem r81_57 : sw_A 81 57 ls st H Q = (sw_ldi False ls 4 fun x => sw_A 81 59 ls (.int x :: st) H Q) := sw_A_step (cc := cL_leads) rfl dL_leads_57 rfl ls st H Q
theorem r81_59 : sw_A 81 59 ls st H Q = (sw_A 81 60 ls (.int (Int32.ofInt 1) :: st) H Q) := sw_A_step (cc := cL_leads) rfl dL_leads_59 rfl ls st H Q
theorem r81_60 : sw_A 81 60 ls st H Q = (sw_i2 False st fun x y r => if x = y then sw_A 81 72 ls r H Q else sw_A 81 63 ls r H Q) := sw_A_step (cc := cL_leads) rfl dL_leads_60 rfl ls st H Q
theorem r81_63 : sw_A 81 63 ls st H Q = (sw_lda False ls 0 fun x => sw_A 81 64 ls (.ref x :: st) H Q) := sw_A_step (cc := cL_leads) rfl dL_leads_63 rfl ls st H Q
theorem r81_64 : sw_A 81 64 ls st H Q = (sw_ldi False ls 6 fun x => sw_A 81 66 ls (.int x :: st) H Q) := sw_A_step (cc := cL_leads) rfl dL_leads_64 rfl ls st H Q
theorem r81_66 : sw_A 81 66 ls st H Q = (sw_ri False st fun a i r => sw_ald False H 0 a i fun x => sw_A 81 67 ls (.int x :: r) H Q) := sw_A_step (cc := cL_leads) rfl dL_leads_66 rfl ls st H Q
theorem r81_67 : sw_A 81 67 ls st H Q = (sw_ldi False ls 5 fun x => sw_A 81 69 ls (.int x :: st) H Q) := sw_A_step (cc := cL_leads) rfl dL_leads_67 rfl ls st H Q
theorem r81_69 : sw_A 81 69 ls st H Q = (sw_i2 False st fun x y r => if y ≤ x then sw_A 81 76 ls r H Q else sw_A 81 72 ls r H Q) := sw_A_step (cc := cL_leads) rfl dL_leads_69 rfl ls st H Q
theorem r81_72 : sw_A 81 72 ls st H Q = (sw_A 81 73 ls (.int (Int32.ofInt 1) :: st) H Q) := sw_A_step (cc := cL_leads) rfl dL_leads_72 rfl ls st H Q
theorem r81_73 : sw_A 81 73 ls st H Q = (sw_A 81 77 ls st H Q) := sw_A_step (cc := cL_leads) rfl dL_leads_73 rfl ls st H Q
theorem r81_76 : sw_A 81 76 ls st H Q = (sw_A 81 77 ls (.int (Int32.ofInt 0) :: st) H Q) := sw_A_step (cc := cL_leads) rfl dL_leads_76 rfl ls st H Q
theorem r81_77 : sw_A 81 77 ls st H Q = (match st with | [.int x] => (if 2 = 1 ∨ 2 = 2 ∧ (x = 0 ∨ x = 1) then Q (some (some (.int x))) H else False) | _ => False) := sw_A_step (cc := cL_leads) rfl dL_leads_77 rfl ls st H Q
theorem r82_0 : sw_A 82 0 ls st H Q = (sw_A 82 1 ls (.long (Int64.ofNat 0) :: st) H Q) := sw_A_step (cc := cL_grown) rfl dL_grown_0 rfl ls st H Q
theorem r82_1 : sw_A 82 1 ls st H Q = (sw_has1 False ls 10 (sw_l1 False st fun x r => sw_A 82 3 (sw_set2 ls 9 (.long x)) r H Q)) := sw_A_step (cc := cL_grown) rfl dL_grown_1 rfl ls st H Q
theorem r82_3 : sw_A 82 3 ls st H Q = (sw_A 82 4 ls (.int (Int32.ofInt 0) :: st) H Q) := sw_A_step (cc := cL_grown) rfl dL_grown_3 rfl ls st H Q
theorem r82_4 : sw_A 82 4 ls st H Q = (sw_has1 False ls 11 (sw_i1 False st fun x r => sw_A 82 6 (sw_set1 ls 11 (.int x)) r H Q)) := sw_A_step (cc := cL_grown) rfl dL_grown_4 rfl ls st H Q
theorem r82_6 : sw_A 82 6 ls st H Q = (sw_ldi False ls 11 fun x => sw_A 82 8 ls (.int x :: st) H Q) := sw_A_step (cc := cL_grown) rfl dL_grown_6 rfl ls st H Q
theorem r82_8 : sw_A 82 8 ls st H Q = (sw_A 82 10 ls (.int (Int32.ofInt 36) :: st) H Q) := sw_A_step (cc := cL_grown) rfl dL_grown_8 rfl ls st H Q
theorem r82_10 : sw_A 82 10 ls st H Q = (sw_i2 False st fun x y r => if y ≤ x then sw_A 82 61 ls r H Q else sw_A 82 13 ls r H Q) := sw_A_step (cc := cL_grown) rfl dL_grown_10 rfl ls st H Q
theorem r82_13 : sw_A 82 13 ls st H Q = (sw_ldl False ls 6 fun x => sw_A 82 15 ls (.long x :: st) H Q) := sw_A_step (cc := cL_grown) rfl dL_grown_13 rfl ls st H Q
theorem r82_15 : sw_A 82 15 ls st H Q = (sw_ldi False ls 11 fun x => sw_A 82 17 ls (.int x :: st) H Q) := sw_A_step (cc := cL_grown) rfl dL_grown_15 rfl ls st H Q
theorem r82_17 : sw_A 82 17 ls st H Q = (sw_pop False 2 st [] fun args r => sw_ck False r (sw_M 30 args H (sw_K 82 20 none ls r Q))) := sw_A_step (cc := cL_grown) rfl dL_grown_17 rfl ls st H Q
theorem r82_20 : sw_A 82 20 ls st H Q = (sw_i1 False st fun x r => if x = 0 then sw_A 82 55 ls r H Q else sw_A 82 23 ls r H Q) := sw_A_step (cc := cL_grown) rfl dL_grown_20 rfl ls st H Q
theorem r82_23 : sw_A 82 23 ls st H Q = (sw_ldl False ls 2 fun x => sw_A 82 24 ls (.long x :: st) H Q) := sw_A_step (cc := cL_grown) rfl dL_grown_23 rfl ls st H Q
theorem r82_24 : sw_A 82 24 ls st H Q = (sw_ldi False ls 11 fun x => sw_A 82 26 ls (.int x :: st) H Q) := sw_A_step (cc := cL_grown) rfl dL_grown_24 rfl ls st H Q
theorem r82_26 : sw_A 82 26 ls st H Q = (sw_pop False 2 st [] fun args r => sw_ck False r (sw_M 30 args H (sw_K 82 29 none ls r Q))) := sw_A_step (cc := cL_grown) rfl dL_grown_26 rfl ls st H Q
theorem r82_29 : sw_A 82 29 ls st H Q = (sw_i1 False st fun x r => if ¬ x = 0 then sw_A 82 55 ls r H Q else sw_A 82 32 ls r H Q) := sw_A_step (cc := cL_grown) rfl dL_grown_29 rfl ls st H Q
theorem r82_32 : sw_A 82 32 ls st H Q = (sw_ldi False ls 4 fun x => sw_A 82 34 ls (.int x :: st) H Q) := sw_A_step (cc := cL_grown) rfl dL_grown_32 rfl ls st H Q
theorem r82_34 : sw_A 82 34 ls st H Q = (sw_i1 False st fun x r => if x = 0 then sw_A 82 46 ls r H Q else sw_A 82 37 ls r H Q) := sw_A_step (cc := cL_grown) rfl dL_grown_34 rfl ls st H Q
theorem r82_37 : sw_A 82 37 ls st H Q = (sw_lda False ls 1 fun x => sw_A 82 38 ls (.ref x :: st) H Q) := sw_A_step (cc := cL_grown) rfl dL_grown_37 rfl ls st H Q
theorem r82_38 : sw_A 82 38 ls st H Q = (sw_ldi False ls 11 fun x => sw_A 82 40 ls (.int x :: st) H Q) := sw_A_step (cc := cL_grown) rfl dL_grown_38 rfl ls st H Q
theorem r82_40 : sw_A 82 40 ls st H Q = (sw_ri False st fun a i r => sw_ald False H 0 a i fun x => sw_A 82 41 ls (.int x :: r) H Q) := sw_A_step (cc := cL_grown) rfl dL_grown_40 rfl ls st H Q
theorem r82_41 : sw_A 82 41 ls st H Q = (sw_ldi False ls 5 fun x => sw_A 82 43 ls (.int x :: st) H Q) := sw_A_step (cc := cL_grown) rfl dL_grown_41 rfl ls st H Q
theorem r82_43 : sw_A 82 43 ls st H Q = (sw_i2 False st fun x y r => if y ≤ x then sw_A 82 55 ls r H Q else sw_A 82 46 ls r H Q) := sw_A_step (cc := cL_grown) rfl dL_grown_43 rfl ls st H Q
theorem r82_46 : sw_A 82 46 ls st H Q = (sw_ldl False ls 9 fun x => sw_A 82 48 ls (.long x :: st) H Q) := sw_A_step (cc := cL_grown) rfl dL_grown_46 rfl ls st H Q
theorem r82_48 : sw_A 82 48 ls st H Q = (sw_A 82 49 ls (.long (Int64.ofNat 1) :: st) H Q) := sw_A_step (cc := cL_grown) rfl dL_grown_48 rfl ls st H Q
theorem r82_49 : sw_A 82 49 ls st H Q = (sw_ldi False ls 11 fun x => sw_A 82 51 ls (.int x :: st) H Q) := sw_A_step (cc := cL_grown) rfl dL_grown_49 rfl ls st H Q
theorem r82_51 : sw_A 82 51 ls st H Q = (sw_li False st fun x y r => sw_A 82 52 ls (.long (x <<< (y.toInt64 &&& 63)) :: r) H Q) := sw_A_step (cc := cL_grown) rfl dL_grown_51 rfl ls st H Q
theorem r82_52 : sw_A 82 52 ls st H Q = (sw_l2 False st fun x y r => sw_A 82 53 ls (.long (x ||| y) :: r) H Q) := sw_A_step (cc := cL_grown) rfl dL_grown_52 rfl ls st H Q
theorem r82_53 : sw_A 82 53 ls st H Q = (sw_has1 False ls 10 (sw_l1 False st fun x r => sw_A 82 55 (sw_set2 ls 9 (.long x)) r H Q)) := sw_A_step (cc := cL_grown) rfl dL_grown_53 rfl ls st H Q
theorem r82_55 : sw_A 82 55 ls st H Q = (sw_ldi False ls 11 fun x => sw_A 82 58 (sw_set1 ls 11 (.int (x + Int32.ofInt 1))) st H Q) := sw_A_step (cc := cL_grown) rfl dL_grown_55 rfl ls st H Q
theorem r82_58 : sw_A 82 58 ls st H Q = (sw_A 82 6 ls st H Q) := sw_A_step (cc := cL_grown) rfl dL_grown_58 rfl ls st H Q
theorem r82_61 : sw_A 82 61 ls st H Q = (sw_A 82 64 ls (.long (Int64.ofInt (-1)) :: st) H Q) := sw_A_step (cc := cL_grown) rfl dL_grown_61 rfl ls st H Q
theorem r82_64 : sw_A 82 64 ls st H Q = (sw_has1 False ls 12 (sw_l1 False st fun x r => sw_A 82 66 (sw_set2 ls 11 (.long x)) r H Q)) := sw_A_step (cc := cL_grown) rfl dL_grown_64 rfl ls st H Q
theorem r82_66 : sw_A 82 66 ls st H Q = (sw_ldl False ls 11 fun x => sw_A 82 68 ls (.long x :: st) H Q) := sw_A_step (cc := cL_grown) rfl dL_grown_66 rfl ls st H Q
theorem r82_68 : sw_A 82 68 ls st H Q = (sw_ldl False ls 9 fun x => sw_A 82 70 ls (.long x :: st) H Q) := sw_A_step (cc := cL_grown) rfl dL_grown_68 rfl ls st H Q
theorem r82_70 : sw_A 82 70 ls st H Q = (sw_l2 False st fun x y r => sw_A 82 71 ls (.int (lg_cmp x y) :: r) H Q) := sw_A_step (cc := cL_grown) rfl dL_grown_70 rfl ls st H Q
theorem r82_71 : sw_A 82 71 ls st H Q = (sw_i1 False st fun x r => if x = 0 then sw_A 82 164 ls r H Q else sw_A 82 74 ls r H Q) := sw_A_step (cc := cL_grown) rfl dL_grown_71 rfl ls st H Q
theorem r82_74 : sw_A 82 74 ls st H Q = (sw_ldl False ls 9 fun x => sw_A 82 76 ls (.long x :: st) H Q) := sw_A_step (cc := cL_grown) rfl dL_grown_74 rfl ls st H Q
theorem r82_76 : sw_A 82 76 ls st H Q = (sw_has1 False ls 12 (sw_l1 False st fun x r => sw_A 82 78 (sw_set2 ls 11 (.long x)) r H Q)) := sw_A_step (cc := cL_grown) rfl dL_grown_76 rfl ls st H Q
theorem r82_78 : sw_A 82 78 ls st H Q = (sw_A 82 79 ls (.int (Int32.ofInt 0) :: st) H Q) := sw_A_step (cc := cL_grown) rfl dL_grown_78 rfl ls st H Q
theorem r82_79 : sw_A 82 79 ls st H Q = (sw_has1 False ls 13 (sw_i1 False st fun x r => sw_A 82 81 (sw_set1 ls 13 (.int x)) r H Q)) := sw_A_step (cc := cL_grown) rfl dL_grown_79 rfl ls st H Q
theorem r82_81 : sw_A 82 81 ls st H Q = (sw_ldi False ls 13 fun x => sw_A 82 83 ls (.int x :: st) H Q) := sw_A_step (cc := cL_grown) rfl dL_grown_81 rfl ls st H Q
theorem r82_83 : sw_A 82 83 ls st H Q = (sw_A 82 85 ls (.int (Int32.ofInt 60) :: st) H Q) := sw_A_step (cc := cL_grown) rfl dL_grown_83 rfl ls st H Q
theorem r82_85 : sw_A 82 85 ls st H Q = (sw_i2 False st fun x y r => if y ≤ x then sw_A 82 161 ls r H Q else sw_A 82 88 ls r H Q) := sw_A_step (cc := cL_grown) rfl dL_grown_85 rfl ls st H Q
theorem r82_88 : sw_A 82 88 ls st H Q = (sw_ldi False ls 13 fun x => sw_A 82 90 ls (.int x :: st) H Q) := sw_A_step (cc := cL_grown) rfl dL_grown_88 rfl ls st H Q
theorem r82_90 : sw_A 82 90 ls st H Q = (sw_pop False 1 st [] fun args r => sw_ck False r (sw_M 79 args H (sw_K 82 93 none ls r Q))) := sw_A_step (cc := cL_grown) rfl dL_grown_90 rfl ls st H Q
theorem r82_93 : sw_A 82 93 ls st H Q = (sw_has1 False ls 14 (sw_i1 False st fun x r => sw_A 82 95 (sw_set1 ls 14 (.int x)) r H Q)) := sw_A_step (cc := cL_grown) rfl dL_grown_93 rfl ls st H Q
theorem r82_95 : sw_A 82 95 ls st H Q = (sw_ldi False ls 13 fun x => sw_A 82 97 ls (.int x :: st) H Q) := sw_A_step (cc := cL_grown) rfl dL_grown_95 rfl ls st H Q
theorem r82_97 : sw_A 82 97 ls st H Q = (sw_pop False 1 st [] fun args r => sw_ck False r (sw_M 80 args H (sw_K 82 100 none ls r Q))) := sw_A_step (cc := cL_grown) rfl dL_grown_97 rfl ls st H Q
theorem r82_100 : sw_A 82 100 ls st H Q = (sw_has1 False ls 15 (sw_i1 False st fun x r => sw_A 82 102 (sw_set1 ls 15 (.int x)) r H Q)) := sw_A_step (cc := cL_grown) rfl dL_grown_100 rfl ls st H Q
theorem r82_102 : sw_A 82 102 ls st H Q = (sw_ldl False ls 9 fun x => sw_A 82 104 ls (.long x :: st) H Q) := sw_A_step (cc := cL_grown) rfl dL_grown_102 rfl ls st H Q
theorem r82_104 : sw_A 82 104 ls st H Q = (sw_ldi False ls 14 fun x => sw_A 82 106 ls (.int x :: st) H Q) := sw_A_step (cc := cL_grown) rfl dL_grown_104 rfl ls st H Q
theorem r82_106 : sw_A 82 106 ls st H Q = (sw_pop False 2 st [] fun args r => sw_ck False r (sw_M 30 args H (sw_K 82 109 none ls r Q))) := sw_A_step (cc := cL_grown) rfl dL_grown_106 rfl ls st H Q
theorem r82_109 : sw_A 82 109 ls st H Q = (sw_ldl False ls 9 fun x => sw_A 82 111 ls (.long x :: st) H Q) := sw_A_step (cc := cL_grown) rfl dL_grown_109 rfl ls st H Q
theorem r82_111 : sw_A 82 111 ls st H Q = (sw_ldi False ls 15 fun x => sw_A 82 113 ls (.int x :: st) H Q) := sw_A_step (cc := cL_grown) rfl dL_grown_111 rfl ls st H Q
theorem r82_113 : sw_A 82 113 ls st H Q = (sw_pop False 2 st [] fun args r => sw_ck False r (sw_M 30 args H (sw_K 82 116 none ls r Q))) := sw_A_step (cc := cL_grown) rfl dL_grown_113 rfl ls st H Q
theorem r82_116 : sw_A 82 116 ls st H Q = (sw_i2 False st fun x y r => if x = y then sw_A 82 155 ls r H Q else sw_A 82 119 ls r H Q) := sw_A_step (cc := cL_grown) rfl dL_grown_116 rfl ls st H Q
theorem r82_119 : sw_A 82 119 ls st H Q = (sw_ldi False ls 13 fun x => sw_A 82 121 ls (.int x :: st) H Q) := sw_A_step (cc := cL_grown) rfl dL_grown_119 rfl ls st H Q
theorem r82_121 : sw_A 82 121 ls st H Q = (sw_ldi False ls 8 fun x => sw_A 82 123 ls (.int x :: st) H Q) := sw_A_step (cc := cL_grown) rfl dL_grown_121 rfl ls st H Q
theorem r82_123 : sw_A 82 123 ls st H Q = (sw_i2 False st fun x y r => if x = y then sw_A 82 155 ls r H Q else sw_A 82 126 ls r H Q) := sw_A_step (cc := cL_grown) rfl dL_grown_123 rfl ls st H Q
theorem r82_126 : sw_A 82 126 ls st H Q = (sw_lda False ls 0 fun x => sw_A 82 127 ls (.ref x :: st) H Q) := sw_A_step (cc := cL_grown) rfl dL_grown_126 rfl ls st H Q
theorem r82_127 : sw_A 82 127 ls st H Q = (sw_lda False ls 1 fun x => sw_A 82 128 ls (.ref x :: st) H Q) := sw_A_step (cc := cL_grown) rfl dL_grown_127 rfl ls st H Q
theorem r82_128 : sw_A 82 128 ls st H Q = (sw_ldl False ls 2 fun x => sw_A 82 129 ls (.long x :: st) H Q) := sw_A_step (cc := cL_grown) rfl dL_grown_128 rfl ls st H Q
theorem r82_129 : sw_A 82 129 ls st H Q = (sw_ldi False ls 4 fun x => sw_A 82 131 ls (.int x :: st) H Q) := sw_A_step (cc := cL_grown) rfl dL_grown_129 rfl ls st H Q
theorem r82_131 : sw_A 82 131 ls st H Q = (sw_ldi False ls 5 fun x => sw_A 82 133 ls (.int x :: st) H Q) := sw_A_step (cc := cL_grown) rfl dL_grown_131 rfl ls st H Q
theorem r82_133 : sw_A 82 133 ls st H Q = (sw_ldi False ls 13 fun x => sw_A 82 135 ls (.int x :: st) H Q) := sw_A_step (cc := cL_grown) rfl dL_grown_133 rfl ls st H Q
theorem r82_135 : sw_A 82 135 ls st H Q = (sw_pop False 6 st [] fun args r => sw_ck False r (sw_M 81 args H (sw_K 82 138 none ls r Q))) := sw_A_step (cc := cL_grown) rfl dL_grown_135 rfl ls st H Q
theorem r82_138 : sw_A 82 138 ls st H Q = (sw_i1 False st fun x r => if x = 0 then sw_A 82 155 ls r H Q else sw_A 82 141 ls r H Q) := sw_A_step (cc := cL_grown) rfl dL_grown_138 rfl ls st H Q
theorem r82_141 : sw_A 82 141 ls st H Q = (sw_ldl False ls 9 fun x => sw_A 82 143 ls (.long x :: st) H Q) := sw_A_step (cc := cL_grown) rfl dL_grown_141 rfl ls st H Q
theorem r82_143 : sw_A 82 143 ls st H Q = (sw_A 82 144 ls (.long (Int64.ofNat 1) :: st) H Q) := sw_A_step (cc := cL_grown) rfl dL_grown_143 rfl ls st H Q
theorem r82_144 : sw_A 82 144 ls st H Q = (sw_ldi False ls 14 fun x => sw_A 82 146 ls (.int x :: st) H Q) := sw_A_step (cc := cL_grown) rfl dL_grown_144 rfl ls st H Q
theorem r82_146 : sw_A 82 146 ls st H Q = (sw_li False st fun x y r => sw_A 82 147 ls (.long (x <<< (y.toInt64 &&& 63)) :: r) H Q) := sw_A_step (cc := cL_grown) rfl dL_grown_146 rfl ls st H Q
theorem r82_147 : sw_A 82 147 ls st H Q = (sw_A 82 148 ls (.long (Int64.ofNat 1) :: st) H Q) := sw_A_step (cc := cL_grown) rfl dL_grown_147 rfl ls st H Q
theorem r82_148 : sw_A 82 148 ls st H Q = (sw_ldi False ls 15 fun x => sw_A 82 150 ls (.int x :: st) H Q) := sw_A_step (cc := cL_grown) rfl dL_grown_148 rfl ls st H Q
theorem r82_150 : sw_A 82 150 ls st H Q = (sw_li False st fun x y r => sw_A 82 151 ls (.long (x <<< (y.toInt64 &&& 63)) :: r) H Q) := sw_A_step (cc := cL_grown) rfl dL_grown_150 rfl ls st H Q
theorem r82_151 : sw_A 82 151 ls st H Q = (sw_l2 False st fun x y r => sw_A 82 152 ls (.long (x ||| y) :: r) H Q) := sw_A_step (cc := cL_grown) rfl dL_grown_151 rfl ls st H Q
theorem r82_152 : sw_A 82 152 ls st H Q = (sw_l2 False st fun x y r => sw_A 82 153 ls (.long (x ||| y) :: r) H Q) := sw_A_step (cc := cL_grown) rfl dL_grown_152 rfl ls st H Q
theorem r82_153 : sw_A 82 153 ls st H Q = (sw_has1 False ls 10 (sw_l1 False st fun x r => sw_A 82 155 (sw_set2 ls 9 (.long x)) r H Q)) := sw_A_step (cc := cL_grown) rfl dL_grown_153 rfl ls st H Q
theorem r82_155 : sw_A 82 155 ls st H Q = (sw_ldi False ls 13 fun x => sw_A 82 158 (sw_set1 ls 13 (.int (x + Int32.ofInt 1))) st H Q) := sw_A_step (cc := cL_grown) rfl dL_grown_155 rfl ls st H Q
theorem r82_158 : sw_A 82 158 ls st H Q = (sw_A 82 81 ls st H Q) := sw_A_step (cc := cL_grown) rfl dL_grown_158 rfl ls st H Q
theorem r82_161 : sw_A 82 161 ls st H Q = (sw_A 82 66 ls st H Q) := sw_A_step (cc := cL_grown) rfl dL_grown_161 rfl ls st H Q
theorem r82_164 : sw_A 82 164 ls st H Q = (sw_ldl False ls 9 fun x => sw_A 82 166 ls (.long x :: st) H Q) := sw_A_step (cc := cL_grown) rfl dL_grown_164 rfl ls st H Q
theorem r82_166 : sw_A 82 166 ls st H Q = (match st with | [.long x] => Q (some (some (.long x))) H | _ => False) := sw_A_step (cc := cL_grown) rfl dL_grown_166 rfl ls st H Q
theorem r83_0 : sw_A 83 0 ls st H Q = (sw_lda False ls 0 fun x => sw_A 83 1 ls (.ref x :: st) H Q) := sw_A_step (cc := cL_through) rfl dL_through_0 rfl ls st H Q
theorem r83_1 : sw_A 83 1 ls st H Q = (sw_lda False ls 1 fun x => sw_A 83 2 ls (.ref x :: st) H Q) := sw_A_step (cc := cL_through) rfl dL_through_1 rfl ls st H Q
theorem r83_2 : sw_A 83 2 ls st H Q = (sw_ldl False ls 2 fun x => sw_A 83 3 ls (.long x :: st) H Q) := sw_A_step (cc := cL_through) rfl dL_through_2 rfl ls st H Q
theorem r83_3 : sw_A 83 3 ls st H Q = (sw_ldi False ls 4 fun x => sw_A 83 5 ls (.int x :: st) H Q) := sw_A_step (cc := cL_through) rfl dL_through_3 rfl ls st H Q
theorem r83_5 : sw_A 83 5 ls st H Q = (sw_ldi False ls 5 fun x => sw_A 83 7 ls (.int x :: st) H Q) := sw_A_step (cc := cL_through) rfl dL_through_5 rfl ls st H Q
theorem r83_7 : sw_A 83 7 ls st H Q = (sw_ldi False ls 6 fun x => sw_A 83 9 ls (.int x :: st) H Q) := sw_A_step (cc := cL_through) rfl dL_through_7 rfl ls st H Q
theorem r83_9 : sw_A 83 9 ls st H Q = (sw_i1 False st fun x r => if x = 0 then sw_A 83 16 ls r H Q else sw_A 83 12 ls r H Q) := sw_A_step (cc := cL_through) rfl dL_through_9 rfl ls st H Q
theorem r83_12 : sw_A 83 12 ls st H Q = (sw_A 83 13 ls (.int (Int32.ofInt 2) :: st) H Q) := sw_A_step (cc := cL_through) rfl dL_through_12 rfl ls st H Q
theorem r83_13 : sw_A 83 13 ls st H Q = (sw_A 83 17 ls st H Q) := sw_A_step (cc := cL_through) rfl dL_through_13 rfl ls st H Q
theorem r83_16 : sw_A 83 16 ls st H Q = (sw_A 83 17 ls (.int (Int32.ofInt 0) :: st) H Q) := sw_A_step (cc := cL_through) rfl dL_through_16 rfl ls st H Q
theorem r83_17 : sw_A 83 17 ls st H Q = (sw_pop False 1 st [] fun args r => sw_ck False r (sw_M 69 args H (sw_K 83 20 none ls r Q))) := sw_A_step (cc := cL_through) rfl dL_through_17 rfl ls st H Q
theorem r83_20 : sw_A 83 20 ls st H Q = (sw_ldi False ls 7 fun x => sw_A 83 22 ls (.int x :: st) H Q) := sw_A_step (cc := cL_through) rfl dL_through_20 rfl ls st H Q
theorem r83_22 : sw_A 83 22 ls st H Q = (sw_pop False 7 st [] fun args r => sw_ck False r (sw_M 82 args H (sw_K 83 25 none ls r Q))) := sw_A_step (cc := cL_through) rfl dL_through_22 rfl ls st H Q
theorem r83_25 : sw_A 83 25 ls st H Q = (sw_ldi False ls 6 fun x => sw_A 83 27 ls (.int x :: st) H Q) := sw_A_step (cc := cL_through) rfl dL_through_25 rfl ls st H Q
theorem r83_27 : sw_A 83 27 ls st H Q = (sw_i1 False st fun x r => if x = 0 then sw_A 83 34 ls r H Q else sw_A 83 30 ls r H Q) := sw_A_step (cc := cL_through) rfl dL_through_27 rfl ls st H Q
theorem r83_30 : sw_A 83 30 ls st H Q = (sw_A 83 31 ls (.int (Int32.ofInt 3) :: st) H Q) := sw_A_step (cc := cL_through) rfl dL_through_30 rfl ls st H Q
theorem r83_31 : sw_A 83 31 ls st H Q = (sw_A 83 35 ls st H Q) := sw_A_step (cc := cL_through) rfl dL_through_31 rfl ls st H Q
theorem r83_34 : sw_A 83 34 ls st H Q = (sw_A 83 35 ls (.int (Int32.ofInt 1) :: st) H Q) := sw_A_step (cc := cL_through) rfl dL_through_34 rfl ls st H Q
theorem r83_35 : sw_A 83 35 ls st H Q = (sw_pop False 1 st [] fun args r => sw_ck False r (sw_M 69 args H (sw_K 83 38 none ls r Q))) := sw_A_step (cc := cL_through) rfl dL_through_35 rfl ls st H Q
theorem r83_38 : sw_A 83 38 ls st H Q = (sw_l2 False st fun x y r => sw_A 83 39 ls (.long (x &&& y) :: r) H Q) := sw_A_step (cc := cL_through) rfl dL_through_38 rfl ls st H Q
theorem r83_39 : sw_A 83 39 ls st H Q = (sw_A 83 40 ls (.long (Int64.ofNat 0) :: st) H Q) := sw_A_step (cc := cL_through) rfl dL_through_39 rfl ls st H Q
theorem r83_40 : sw_A 83 40 ls st H Q = (sw_l2 False st fun x y r => sw_A 83 41 ls (.int (lg_cmp x y) :: r) H Q) := sw_A_step (cc := cL_through) rfl dL_through_40 rfl ls st H Q
theorem r83_41 : sw_A 83 41 ls st H Q = (sw_i1 False st fun x r => if x = 0 then sw_A 83 48 ls r H Q else sw_A 83 44 ls r H Q) := sw_A_step (cc := cL_through) rfl dL_through_41 rfl ls st H Q
theorem r83_44 : sw_A 83 44 ls st H Q = (sw_A 83 45 ls (.int (Int32.ofInt 1) :: st) H Q) := sw_A_step (cc := cL_through) rfl dL_through_44 rfl ls st H Q
theorem r83_45 : sw_A 83 45 ls st H Q = (sw_A 83 49 ls st H Q) := sw_A_step (cc := cL_through) rfl dL_through_45 rfl ls st H Q
theorem r83_48 : sw_A 83 48 ls st H Q = (sw_A 83 49 ls (.int (Int32.ofInt 0) :: st) H Q) := sw_A_step (cc := cL_through) rfl dL_through_48 rfl ls st H Q
theorem r83_49 : sw_A 83 49 ls st H Q = (match st with | [.int x] => (if 2 = 1 ∨ 2 = 2 ∧ (x = 0 ∨ x = 1) then Q (some (some (.int x))) H else False) | _ => False) := sw_A_step (cc := cL_through) rfl dL_through_49 rfl ls st H Q
theorem r84_0 : sw_A 84 0 ls st H Q = (sw_ldi False ls 0 fun x => sw_A 84 1 ls (.int x :: st) H Q) := sw_A_step (cc := cX11_needKind) rfl dX11_needKind_0 rfl ls st H Q
theorem r84_1 : sw_A 84 1 ls st H Q = (sw_i1 False st fun x r => if x < 0 then sw_A 84 9 ls r H Q else sw_A 84 4 ls r H Q) := sw_A_step (cc := cX11_needKind) rfl dX11_needKind_1 rfl ls st H Q
theorem r84_4 : sw_A 84 4 ls st H Q = (sw_ldi False ls 0 fun x => sw_A 84 5 ls (.int x :: st) H Q) := sw_A_step (cc := cX11_needKind) rfl dX11_needKind_4 rfl ls st H Q
theorem r84_5 : sw_A 84 5 ls st H Q = (sw_A 84 6 ls (.int (Int32.ofInt 2) :: st) H Q) := sw_A_step (cc := cX11_needKind) rfl dX11_needKind_5 rfl ls st H Q
theorem r84_6 : sw_A 84 6 ls st H Q = (sw_i2 False st fun x y r => if x ≤ y then sw_A 84 20 ls r H Q else sw_A 84 9 ls r H Q) := sw_A_step (cc := cX11_needKind) rfl dX11_needKind_6 rfl ls st H Q
theorem r84_9 : sw_A 84 9 ls st H Q = (False) := sw_A_step (cc := cX11_needKind) rfl dX11_needKind_9 rfl ls st H Q
theorem r84_12 : sw_A 84 12 ls st H Q = (sw_r1 False st fun a r => sw_A 84 13 ls (.ref a :: .ref a :: r) H Q) := sw_A_step (cc := cX11_needKind) rfl dX11_needKind_12 rfl ls st H Q
theorem r84_13 : sw_A 84 13 ls st H Q = (False) := sw_A_step (cc := cX11_needKind) rfl dX11_needKind_13 rfl ls st H Q
theorem r84_16 : sw_A 84 16 ls st H Q = (False) := sw_A_step (cc := cX11_needKind) rfl dX11_needKind_16 rfl ls st H Q
theorem r84_19 : sw_A 84 19 ls st H Q = (False) := sw_A_step (cc := cX11_needKind) rfl dX11_needKind_19 rfl ls st H Q
theorem r84_20 : sw_A 84 20 ls st H Q = (match st with | [] => Q (some none) H | _ => False) := sw_A_step (cc := cX11_needKind) rfl dX11_needKind_20 rfl ls st H Q
theorem r85_0 : sw_A 85 0 ls st H Q = (sw_ldi False ls 0 fun x => sw_A 85 1 ls (.int x :: st) H Q) := sw_A_step (cc := cX11_lowEnd) rfl dX11_lowEnd_0 rfl ls st H Q
theorem r85_1 : sw_A 85 1 ls st H Q = (sw_A 85 3 ls (.int (Int32.ofInt 30) :: st) H Q) := sw_A_step (cc := cX11_lowEnd) rfl dX11_lowEnd_1 rfl ls st H Q
theorem r85_3 : sw_A 85 3 ls st H Q = (sw_i2 False st fun x y r => if x < y then sw_A 85 11 ls r H Q else sw_A 85 6 ls r H Q) := sw_A_step (cc := cX11_lowEnd) rfl dX11_lowEnd_3 rfl ls st H Q
theorem r85_6 : sw_A 85 6 ls st H Q = (sw_ldi False ls 0 fun x => sw_A 85 7 ls (.int x :: st) H Q) := sw_A_step (cc := cX11_lowEnd) rfl dX11_lowEnd_6 rfl ls st H Q
theorem r85_7 : sw_A 85 7 ls st H Q = (sw_A 85 9 ls (.int (Int32.ofInt 30) :: st) H Q) := sw_A_step (cc := cX11_lowEnd) rfl dX11_lowEnd_7 rfl ls st H Q
theorem r85_9 : sw_A 85 9 ls st H Q = (sw_i2 False st fun x y r => sw_A 85 10 ls (.int (x - y) :: r) H Q) := sw_A_step (cc := cX11_lowEnd) rfl dX11_lowEnd_9 rfl ls st H Q
theorem r85_10 : sw_A 85 10 ls st H Q = (match st with | [.int x] => Q (some (some (.int x))) H | _ => False) := sw_A_step (cc := cX11_lowEnd) rfl dX11_lowEnd_10 rfl ls st H Q
theorem r85_11 : sw_A 85 11 ls st H Q = (sw_A 85 13 ls (.int (Int32.ofInt 6) :: st) H Q) := sw_A_step (cc := cX11_lowEnd) rfl dX11_lowEnd_11 rfl ls st H Q
theorem r85_13 : sw_A 85 13 ls st H Q = (sw_ldi False ls 0 fun x => sw_A 85 14 ls (.int x :: st) H Q) := sw_A_step (cc := cX11_lowEnd) rfl dX11_lowEnd_13 rfl ls st H Q
theorem r85_14 : sw_A 85 14 ls st H Q = (sw_A 85 15 ls (.int (Int32.ofInt 5) :: st) H Q) := sw_A_step (cc := cX11_lowEnd) rfl dX11_lowEnd_14 rfl ls st H Q
theorem r85_15 : sw_A 85 15 ls st H Q = (sw_i2 False st fun x y r => if y = 0 then False else sw_A 85 16 ls (.int (x / y) :: r) H Q) := sw_A_step (cc := cX11_lowEnd) rfl dX11_lowEnd_15 rfl ls st H Q
theorem r85_16 : sw_A 85 16 ls st H Q = (sw_i2 False st fun x y r => sw_A 85 17 ls (.int (x * y) :: r) H Q) := sw_A_step (cc := cX11_lowEnd) rfl dX11_lowEnd_16 rfl ls st H Q
theorem r85_17 : sw_A 85 17 ls st H Q = (sw_ldi False ls 0 fun x => sw_A 85 18 ls (.int x :: st) H Q) := sw_A_step (cc := cX11_lowEnd) rfl dX11_lowEnd_17 rfl ls st H Q
theorem r85_18 : sw_A 85 18 ls st H Q = (sw_A 85 19 ls (.int (Int32.ofInt 5) :: st) H Q) := sw_A_step (cc := cX11_lowEnd) rfl dX11_lowEnd_18 rfl ls st H Q
theorem r85_19 : sw_A 85 19 ls st H Q = (sw_i2 False st fun x y r => if y = 0 then False else sw_A 85 20 ls (.int (x - x / y * y) :: r) H Q) := sw_A_step (cc := cX11_lowEnd) rfl dX11_lowEnd_19 rfl ls st H Q
theorem r85_20 : sw_A 85 20 ls st H Q = (sw_i2 False st fun x y r => sw_A 85 21 ls (.int (x + y) :: r) H Q) := sw_A_step (cc := cX11_lowEnd) rfl dX11_lowEnd_20 rfl ls st H Q
theorem r85_21 : sw_A 85 21 ls st H Q = (match st with | [.int x] => Q (some (some (.int x))) H | _ => False) := sw_A_step (cc := cX11_lowEnd) rfl dX11_lowEnd_21 rfl ls st H Q
theorem r86_0 : sw_A 86 0 ls st H Q = (sw_ldi False ls 0 fun x => sw_A 86 1 ls (.int x :: st) H Q) := sw_A_step (cc := cX11_highEnd) rfl dX11_highEnd_0 rfl ls st H Q
theorem r86_1 : sw_A 86 1 ls st H Q = (sw_pop False 1 st [] fun args r => sw_ck False r (sw_M 85 args H (sw_K 86 4 none ls r Q))) := sw_A_step (cc := cX11_highEnd) rfl dX11_highEnd_1 rfl ls st H Q
theorem r86_4 : sw_A 86 4 ls st H Q = (sw_ldi False ls 0 fun x => sw_A 86 5 ls (.int x :: st) H Q) := sw_A_step (cc := cX11_highEnd) rfl dX11_highEnd_4 rfl ls st H Q
theorem r86_5 : sw_A 86 5 ls st H Q = (sw_A 86 7 ls (.int (Int32.ofInt 30) :: st) H Q) := sw_A_step (cc := cX11_highEnd) rfl dX11_highEnd_5 rfl ls st H Q
theorem r86_7 : sw_A 86 7 ls st H Q = (sw_i2 False st fun x y r => if x < y then sw_A 86 15 ls r H Q else sw_A 86 10 ls r H Q) := sw_A_step (cc := cX11_highEnd) rfl dX11_highEnd_7 rfl ls st H Q
theorem r86_10 : sw_A 86 10 ls st H Q = (sw_A 86 12 ls (.int (Int32.ofInt 6) :: st) H Q) := sw_A_step (cc := cX11_highEnd) rfl dX11_highEnd_10 rfl ls st H Q
theorem r86_12 : sw_A 86 12 ls st H Q = (sw_A 86 16 ls st H Q) := sw_A_step (cc := cX11_highEnd) rfl dX11_highEnd_12 rfl ls st H Q
theorem r86_15 : sw_A 86 15 ls st H Q = (sw_A 86 16 ls (.int (Int32.ofInt 1) :: st) H Q) := sw_A_step (cc := cX11_highEnd) rfl dX11_highEnd_15 rfl ls st H Q
theorem r86_16 : sw_A 86 16 ls st H Q = (sw_i2 False st fun x y r => sw_A 86 17 ls (.int (x + y) :: r) H Q) := sw_A_step (cc := cX11_highEnd) rfl dX11_highEnd_16 rfl ls st H Q
theorem r86_17 : sw_A 86 17 ls st H Q = (match st with | [.int x] => Q (some (some (.int x))) H | _ => False) := sw_A_step (cc := cX11_highEnd) rfl dX11_highEnd_17 rfl ls st H Q
theorem r87_0 : sw_A 87 0 ls st H Q = (sw_A 87 1 ls (.int (Int32.ofInt 0) :: st) H Q) := sw_A_step (cc := cX9_open) rfl dX9_open_0 rfl ls st H Q
theorem r87_1 : sw_A 87 1 ls st H Q = (sw_has1 False ls 5 (sw_i1 False st fun x r => sw_A 87 3 (sw_set1 ls 5 (.int x)) r H Q)) := sw_A_step (cc := cX9_open) rfl dX9_open_1 rfl ls st H Q
theorem r87_3 : sw_A 87 3 ls st H Q = (sw_ldi False ls 5 fun x => sw_A 87 5 ls (.int x :: st) H Q) := sw_A_step (cc := cX9_open) rfl dX9_open_3 rfl ls st H Q
theorem r87_5 : sw_A 87 5 ls st H Q = (sw_A 87 7 ls (.int (Int32.ofInt 36) :: st) H Q) := sw_A_step (cc := cX9_open) rfl dX9_open_5 rfl ls st H Q
theorem r87_7 : sw_A 87 7 ls st H Q = (sw_i2 False st fun x y r => if y ≤ x then sw_A 87 51 ls r H Q else sw_A 87 10 ls r H Q) := sw_A_step (cc := cX9_open) rfl dX9_open_7 rfl ls st H Q
theorem r87_10 : sw_A 87 10 ls st H Q = (sw_lda False ls 0 fun x => sw_A 87 11 ls (.ref x :: st) H Q) := sw_A_step (cc := cX9_open) rfl dX9_open_10 rfl ls st H Q
theorem r87_11 : sw_A 87 11 ls st H Q = (sw_r1 False st fun a r => sw_gf False H (some (9, 0, 1)) a fun v => sw_A 87 14 ls (v :: r) H Q) := sw_A_step (cc := cX9_open) rfl dX9_open_11 rfl ls st H Q
theorem r87_14 : sw_A 87 14 ls st H Q = (sw_ldi False ls 5 fun x => sw_A 87 16 ls (.int x :: st) H Q) := sw_A_step (cc := cX9_open) rfl dX9_open_14 rfl ls st H Q
theorem r87_16 : sw_A 87 16 ls st H Q = (sw_lda False ls 2 fun x => sw_A 87 17 ls (.ref x :: st) H Q) := sw_A_step (cc := cX9_open) rfl dX9_open_16 rfl ls st H Q
theorem r87_17 : sw_A 87 17 ls st H Q = (sw_ldi False ls 5 fun x => sw_A 87 19 ls (.int x :: st) H Q) := sw_A_step (cc := cX9_open) rfl dX9_open_17 rfl ls st H Q
theorem r87_19 : sw_A 87 19 ls st H Q = (sw_ri False st fun a i r => sw_ald False H 1 a i fun x => sw_A 87 20 ls (.int x :: r) H Q) := sw_A_step (cc := cX9_open) rfl dX9_open_19 rfl ls st H Q
theorem r87_20 : sw_A 87 20 ls st H Q = (sw_i1 False st fun x r => if ¬ x = 0 then sw_A 87 43 ls r H Q else sw_A 87 23 ls r H Q) := sw_A_step (cc := cX9_open) rfl dX9_open_20 rfl ls st H Q
theorem r87_23 : sw_A 87 23 ls st H Q = (sw_ldi False ls 3 fun x => sw_A 87 24 ls (.int x :: st) H Q) := sw_A_step (cc := cX9_open) rfl dX9_open_23 rfl ls st H Q
theorem r87_24 : sw_A 87 24 ls st H Q = (sw_i1 False st fun x r => if x = 0 then sw_A 87 39 ls r H Q else sw_A 87 27 ls r H Q) := sw_A_step (cc := cX9_open) rfl dX9_open_24 rfl ls st H Q
theorem r87_27 : sw_A 87 27 ls st H Q = (sw_lda False ls 1 fun x => sw_A 87 28 ls (.ref x :: st) H Q) := sw_A_step (cc := cX9_open) rfl dX9_open_27 rfl ls st H Q
theorem r87_28 : sw_A 87 28 ls st H Q = (sw_r1 False st fun a r => sw_gf False H (some (8, 1, 3)) a fun v => sw_A 87 31 ls (v :: r) H Q) := sw_A_step (cc := cX9_open) rfl dX9_open_28 rfl ls st H Q
theorem r87_31 : sw_A 87 31 ls st H Q = (sw_ldi False ls 5 fun x => sw_A 87 33 ls (.int x :: st) H Q) := sw_A_step (cc := cX9_open) rfl dX9_open_31 rfl ls st H Q
theorem r87_33 : sw_A 87 33 ls st H Q = (sw_ri False st fun a i r => sw_ald False H 0 a i fun x => sw_A 87 34 ls (.int x :: r) H Q) := sw_A_step (cc := cX9_open) rfl dX9_open_33 rfl ls st H Q
theorem r87_34 : sw_A 87 34 ls st H Q = (sw_ldi False ls 4 fun x => sw_A 87 36 ls (.int x :: st) H Q) := sw_A_step (cc := cX9_open) rfl dX9_open_34 rfl ls st H Q
theorem r87_36 : sw_A 87 36 ls st H Q = (sw_i2 False st fun x y r => if y ≤ x then sw_A 87 43 ls r H Q else sw_A 87 39 ls r H Q) := sw_A_step (cc := cX9_open) rfl dX9_open_36 rfl ls st H Q
theorem r87_39 : sw_A 87 39 ls st H Q = (sw_A 87 40 ls (.int (Int32.ofInt 1) :: st) H Q) := sw_A_step (cc := cX9_open) rfl dX9_open_39 rfl ls st H Q
theorem r87_40 : sw_A 87 40 ls st H Q = (sw_A 87 44 ls st H Q) := sw_A_step (cc := cX9_open) rfl dX9_open_40 rfl ls st H Q
theorem r87_43 : sw_A 87 43 ls st H Q = (sw_A 87 44 ls (.int (Int32.ofInt 0) :: st) H Q) := sw_A_step (cc := cX9_open) rfl dX9_open_43 rfl ls st H Q
theorem r87_44 : sw_A 87 44 ls st H Q = (sw_rix False st fun a i x r => sw_ast False H 1 a i (x &&& 1) fun H1 => sw_A 87 45 ls r H1 Q) := sw_A_step (cc := cX9_open) rfl dX9_open_44 rfl ls st H Q
theorem r87_45 : sw_A 87 45 ls st H Q = (sw_ldi False ls 5 fun x => sw_A 87 48 (sw_set1 ls 5 (.int (x + Int32.ofInt 1))) st H Q) := sw_A_step (cc := cX9_open) rfl dX9_open_45 rfl ls st H Q
theorem r87_48 : sw_A 87 48 ls st H Q = (sw_A 87 3 ls st H Q) := sw_A_step (cc := cX9_open) rfl dX9_open_48 rfl ls st H Q
theorem r87_51 : sw_A 87 51 ls st H Q = (sw_A 87 52 ls (.int (Int32.ofInt 0) :: st) H Q) := sw_A_step (cc := cX9_open) rfl dX9_open_51 rfl ls st H Q
theorem r87_52 : sw_A 87 52 ls st H Q = (sw_has1 False ls 5 (sw_i1 False st fun x r => sw_A 87 54 (sw_set1 ls 5 (.int x)) r H Q)) := sw_A_step (cc := cX9_open) rfl dX9_open_52 rfl ls st H Q
theorem r87_54 : sw_A 87 54 ls st H Q = (sw_ldi False ls 5 fun x => sw_A 87 56 ls (.int x :: st) H Q) := sw_A_step (cc := cX9_open) rfl dX9_open_54 rfl ls st H Q
theorem r87_56 : sw_A 87 56 ls st H Q = (sw_A 87 58 ls (.int (Int32.ofInt 60) :: st) H Q) := sw_A_step (cc := cX9_open) rfl dX9_open_56 rfl ls st H Q
theorem r87_58 : sw_A 87 58 ls st H Q = (sw_i2 False st fun x y r => if y ≤ x then sw_A 87 134 ls r H Q else sw_A 87 61 ls r H Q) := sw_A_step (cc := cX9_open) rfl dX9_open_58 rfl ls st H Q
theorem r87_61 : sw_A 87 61 ls st H Q = (sw_lda False ls 0 fun x => sw_A 87 62 ls (.ref x :: st) H Q) := sw_A_step (cc := cX9_open) rfl dX9_open_61 rfl ls st H Q
theorem r87_62 : sw_A 87 62 ls st H Q = (sw_r1 False st fun a r => sw_gf False H (some (9, 0, 1)) a fun v => sw_A 87 65 ls (v :: r) H Q) := sw_A_step (cc := cX9_open) rfl dX9_open_62 rfl ls st H Q
theorem r87_65 : sw_A 87 65 ls st H Q = (sw_ldi False ls 5 fun x => sw_A 87 67 ls (.int x :: st) H Q) := sw_A_step (cc := cX9_open) rfl dX9_open_65 rfl ls st H Q
theorem r87_67 : sw_A 87 67 ls st H Q = (sw_pop False 1 st [] fun args r => sw_ck False r (sw_M 85 args H (sw_K 87 70 none ls r Q))) := sw_A_step (cc := cX9_open) rfl dX9_open_67 rfl ls st H Q
theorem r87_70 : sw_A 87 70 ls st H Q = (sw_ri False st fun a i r => sw_ald False H 1 a i fun x => sw_A 87 71 ls (.int x :: r) H Q) := sw_A_step (cc := cX9_open) rfl dX9_open_70 rfl ls st H Q
theorem r87_71 : sw_A 87 71 ls st H Q = (sw_i1 False st fun x r => if x = 0 then sw_A 87 91 ls r H Q else sw_A 87 74 ls r H Q) := sw_A_step (cc := cX9_open) rfl dX9_open_71 rfl ls st H Q
theorem r87_74 : sw_A 87 74 ls st H Q = (sw_lda False ls 0 fun x => sw_A 87 75 ls (.ref x :: st) H Q) := sw_A_step (cc := cX9_open) rfl dX9_open_74 rfl ls st H Q
theorem r87_75 : sw_A 87 75 ls st H Q = (sw_r1 False st fun a r => sw_gf False H (some (9, 0, 1)) a fun v => sw_A 87 78 ls (v :: r) H Q) := sw_A_step (cc := cX9_open) rfl dX9_open_75 rfl ls st H Q
theorem r87_78 : sw_A 87 78 ls st H Q = (sw_ldi False ls 5 fun x => sw_A 87 80 ls (.int x :: st) H Q) := sw_A_step (cc := cX9_open) rfl dX9_open_78 rfl ls st H Q
theorem r87_80 : sw_A 87 80 ls st H Q = (sw_pop False 1 st [] fun args r => sw_ck False r (sw_M 86 args H (sw_K 87 83 none ls r Q))) := sw_A_step (cc := cX9_open) rfl dX9_open_80 rfl ls st H Q
theorem r87_83 : sw_A 87 83 ls st H Q = (sw_ri False st fun a i r => sw_ald False H 1 a i fun x => sw_A 87 84 ls (.int x :: r) H Q) := sw_A_step (cc := cX9_open) rfl dX9_open_83 rfl ls st H Q
theorem r87_84 : sw_A 87 84 ls st H Q = (sw_i1 False st fun x r => if x = 0 then sw_A 87 91 ls r H Q else sw_A 87 87 ls r H Q) := sw_A_step (cc := cX9_open) rfl dX9_open_84 rfl ls st H Q
theorem r87_87 : sw_A 87 87 ls st H Q = (sw_A 87 88 ls (.int (Int32.ofInt 1) :: st) H Q) := sw_A_step (cc := cX9_open) rfl dX9_open_87 rfl ls st H Q
theorem r87_88 : sw_A 87 88 ls st H Q = (sw_A 87 92 ls st H Q) := sw_A_step (cc := cX9_open) rfl dX9_open_88 rfl ls st H Q
theorem r87_91 : sw_A 87 91 ls st H Q = (sw_A 87 92 ls (.int (Int32.ofInt 0) :: st) H Q) := sw_A_step (cc := cX9_open) rfl dX9_open_91 rfl ls st H Q
theorem r87_92 : sw_A 87 92 ls st H Q = (sw_has1 False ls 6 (sw_i1 False st fun x r => sw_A 87 94 (sw_set1 ls 6 (.int x)) r H Q)) := sw_A_step (cc := cX9_open) rfl dX9_open_92 rfl ls st H Q
theorem r87_94 : sw_A 87 94 ls st H Q = (sw_lda False ls 0 fun x => sw_A 87 95 ls (.ref x :: st) H Q) := sw_A_step (cc := cX9_open) rfl dX9_open_94 rfl ls st H Q
theorem r87_95 : sw_A 87 95 ls st H Q = (sw_r1 False st fun a r => sw_gf False H (some (9, 1, 1)) a fun v => sw_A 87 98 ls (v :: r) H Q) := sw_A_step (cc := cX9_open) rfl dX9_open_95 rfl ls st H Q
theorem r87_98 : sw_A 87 98 ls st H Q = (sw_ldi False ls 5 fun x => sw_A 87 100 ls (.int x :: st) H Q) := sw_A_step (cc := cX9_open) rfl dX9_open_98 rfl ls st H Q
theorem r87_100 : sw_A 87 100 ls st H Q = (sw_ldi False ls 6 fun x => sw_A 87 102 ls (.int x :: st) H Q) := sw_A_step (cc := cX9_open) rfl dX9_open_100 rfl ls st H Q
theorem r87_102 : sw_A 87 102 ls st H Q = (sw_i1 False st fun x r => if x = 0 then sw_A 87 126 ls r H Q else sw_A 87 105 ls r H Q) := sw_A_step (cc := cX9_open) rfl dX9_open_102 rfl ls st H Q
theorem r87_105 : sw_A 87 105 ls st H Q = (sw_ldi False ls 3 fun x => sw_A 87 106 ls (.int x :: st) H Q) := sw_A_step (cc := cX9_open) rfl dX9_open_105 rfl ls st H Q
theorem r87_106 : sw_A 87 106 ls st H Q = (sw_A 87 107 ls (.int (Int32.ofInt 1) :: st) H Q) := sw_A_step (cc := cX9_open) rfl dX9_open_106 rfl ls st H Q
theorem r87_107 : sw_A 87 107 ls st H Q = (sw_i2 False st fun x y r => if x = y then sw_A 87 122 ls r H Q else sw_A 87 110 ls r H Q) := sw_A_step (cc := cX9_open) rfl dX9_open_107 rfl ls st H Q
theorem r87_110 : sw_A 87 110 ls st H Q = (sw_lda False ls 1 fun x => sw_A 87 111 ls (.ref x :: st) H Q) := sw_A_step (cc := cX9_open) rfl dX9_open_110 rfl ls st H Q
theorem r87_111 : sw_A 87 111 ls st H Q = (sw_r1 False st fun a r => sw_gf False H (some (8, 0, 3)) a fun v => sw_A 87 114 ls (v :: r) H Q) := sw_A_step (cc := cX9_open) rfl dX9_open_111 rfl ls st H Q
theorem r87_114 : sw_A 87 114 ls st H Q = (sw_ldi False ls 5 fun x => sw_A 87 116 ls (.int x :: st) H Q) := sw_A_step (cc := cX9_open) rfl dX9_open_114 rfl ls st H Q
theorem r87_116 : sw_A 87 116 ls st H Q = (sw_ri False st fun a i r => sw_ald False H 0 a i fun x => sw_A 87 117 ls (.int x :: r) H Q) := sw_A_step (cc := cX9_open) rfl dX9_open_116 rfl ls st H Q
theorem r87_117 : sw_A 87 117 ls st H Q = (sw_ldi False ls 4 fun x => sw_A 87 119 ls (.int x :: st) H Q) := sw_A_step (cc := cX9_open) rfl dX9_open_117 rfl ls st H Q
theorem r87_119 : sw_A 87 119 ls st H Q = (sw_i2 False st fun x y r => if y ≤ x then sw_A 87 126 ls r H Q else sw_A 87 122 ls r H Q) := sw_A_step (cc := cX9_open) rfl dX9_open_119 rfl ls st H Q
theorem r87_122 : sw_A 87 122 ls st H Q = (sw_A 87 123 ls (.int (Int32.ofInt 1) :: st) H Q) := sw_A_step (cc := cX9_open) rfl dX9_open_122 rfl ls st H Q
theorem r87_123 : sw_A 87 123 ls st H Q = (sw_A 87 127 ls st H Q) := sw_A_step (cc := cX9_open) rfl dX9_open_123 rfl ls st H Q
theorem r87_126 : sw_A 87 126 ls st H Q = (sw_A 87 127 ls (.int (Int32.ofInt 0) :: st) H Q) := sw_A_step (cc := cX9_open) rfl dX9_open_126 rfl ls st H Q
theorem r87_127 : sw_A 87 127 ls st H Q = (sw_rix False st fun a i x r => sw_ast False H 1 a i (x &&& 1) fun H1 => sw_A 87 128 ls r H1 Q) := sw_A_step (cc := cX9_open) rfl dX9_open_127 rfl ls st H Q
theorem r87_128 : sw_A 87 128 ls st H Q = (sw_ldi False ls 5 fun x => sw_A 87 131 (sw_set1 ls 5 (.int (x + Int32.ofInt 1))) st H Q) := sw_A_step (cc := cX9_open) rfl dX9_open_128 rfl ls st H Q
theorem r87_131 : sw_A 87 131 ls st H Q = (sw_A 87 54 ls st H Q) := sw_A_step (cc := cX9_open) rfl dX9_open_131 rfl ls st H Q
theorem r87_134 : sw_A 87 134 ls st H Q = (match st with | [] => Q (some none) H | _ => False) := sw_A_step (cc := cX9_open) rfl dX9_open_134 rfl ls st H Q
theorem r88_0 : sw_A 88 0 ls st H Q = (sw_lda False ls 0 fun x => sw_A 88 1 ls (.ref x :: st) H Q) := sw_A_step (cc := cX9_startAtSide) rfl dX9_startAtSide_0 rfl ls st H Q
theorem r88_1 : sw_A 88 1 ls st H Q = (sw_r1 False st fun a r => sw_gf False H (some (9, 2, 1)) a fun v => sw_A 88 4 ls (v :: r) H Q) := sw_A_step (cc := cX9_startAtSide) rfl dX9_startAtSide_1 rfl ls st H Q
theorem r88_4 : sw_A 88 4 ls st H Q = (sw_A 88 5 ls (.int (Int32.ofInt (-1)) :: st) H Q) := sw_A_step (cc := cX9_startAtSide) rfl dX9_startAtSide_4 rfl ls st H Q
theorem r88_5 : sw_A 88 5 ls st H Q = (sw_pop False 2 st [] fun args r => sw_ck False r (sw_M 9 args H (sw_K 88 8 none ls r Q))) := sw_A_step (cc := cX9_startAtSide) rfl dX9_startAtSide_5 rfl ls st H Q
theorem r88_8 : sw_A 88 8 ls st H Q = (sw_lda False ls 0 fun x => sw_A 88 9 ls (.ref x :: st) H Q) := sw_A_step (cc := cX9_startAtSide) rfl dX9_startAtSide_8 rfl ls st H Q
theorem r88_9 : sw_A 88 9 ls st H Q = (sw_r1 False st fun a r => sw_gf False H (some (9, 3, 1)) a fun v => sw_A 88 12 ls (v :: r) H Q) := sw_A_step (cc := cX9_startAtSide) rfl dX9_startAtSide_9 rfl ls st H Q
theorem r88_12 : sw_A 88 12 ls st H Q = (sw_pop False 1 st [] fun args r => sw_ck False r (sw_rc False H (some 10) args (sw_M 49 args H (sw_K 88 15 none ls r Q)))) := sw_A_step (cc := cX9_startAtSide) rfl dX9_startAtSide_12 rfl ls st H Q
theorem r88_15 : sw_A 88 15 ls st H Q = (sw_A 88 16 ls (.int (Int32.ofInt 0) :: st) H Q) := sw_A_step (cc := cX9_startAtSide) rfl dX9_startAtSide_15 rfl ls st H Q
theorem r88_16 : sw_A 88 16 ls st H Q = (sw_has1 False ls 2 (sw_i1 False st fun x r => sw_A 88 17 (sw_set1 ls 2 (.int x)) r H Q)) := sw_A_step (cc := cX9_startAtSide) rfl dX9_startAtSide_16 rfl ls st H Q
theorem r88_17 : sw_A 88 17 ls st H Q = (sw_ldi False ls 2 fun x => sw_A 88 18 ls (.int x :: st) H Q) := sw_A_step (cc := cX9_startAtSide) rfl dX9_startAtSide_17 rfl ls st H Q
theorem r88_18 : sw_A 88 18 ls st H Q = (sw_A 88 20 ls (.int (Int32.ofInt 36) :: st) H Q) := sw_A_step (cc := cX9_startAtSide) rfl dX9_startAtSide_18 rfl ls st H Q
theorem r88_20 : sw_A 88 20 ls st H Q = (sw_i2 False st fun x y r => if y ≤ x then sw_A 88 61 ls r H Q else sw_A 88 23 ls r H Q) := sw_A_step (cc := cX9_startAtSide) rfl dX9_startAtSide_20 rfl ls st H Q
theorem r88_23 : sw_A 88 23 ls st H Q = (sw_lda False ls 0 fun x => sw_A 88 24 ls (.ref x :: st) H Q) := sw_A_step (cc := cX9_startAtSide) rfl dX9_startAtSide_23 rfl ls st H Q
theorem r88_24 : sw_A 88 24 ls st H Q = (sw_r1 False st fun a r => sw_gf False H (some (9, 0, 1)) a fun v => sw_A 88 27 ls (v :: r) H Q) := sw_A_step (cc := cX9_startAtSide) rfl dX9_startAtSide_24 rfl ls st H Q
theorem r88_27 : sw_A 88 27 ls st H Q = (sw_ldi False ls 2 fun x => sw_A 88 28 ls (.int x :: st) H Q) := sw_A_step (cc := cX9_startAtSide) rfl dX9_startAtSide_27 rfl ls st H Q
theorem r88_28 : sw_A 88 28 ls st H Q = (sw_ri False st fun a i r => sw_ald False H 1 a i fun x => sw_A 88 29 ls (.int x :: r) H Q) := sw_A_step (cc := cX9_startAtSide) rfl dX9_startAtSide_28 rfl ls st H Q
theorem r88_29 : sw_A 88 29 ls st H Q = (sw_i1 False st fun x r => if x = 0 then sw_A 88 55 ls r H Q else sw_A 88 32 ls r H Q) := sw_A_step (cc := cX9_startAtSide) rfl dX9_startAtSide_29 rfl ls st H Q
theorem r88_32 : sw_A 88 32 ls st H Q = (sw_ldi False ls 2 fun x => sw_A 88 33 ls (.int x :: st) H Q) := sw_A_step (cc := cX9_startAtSide) rfl dX9_startAtSide_32 rfl ls st H Q
theorem r88_33 : sw_A 88 33 ls st H Q = (sw_ldi False ls 1 fun x => sw_A 88 34 ls (.int x :: st) H Q) := sw_A_step (cc := cX9_startAtSide) rfl dX9_startAtSide_33 rfl ls st H Q
theorem r88_34 : sw_A 88 34 ls st H Q = (sw_pop False 2 st [] fun args r => sw_ck False r (sw_M 72 args H (sw_K 88 37 none ls r Q))) := sw_A_step (cc := cX9_startAtSide) rfl dX9_startAtSide_34 rfl ls st H Q
theorem r88_37 : sw_A 88 37 ls st H Q = (sw_i1 False st fun x r => if x = 0 then sw_A 88 55 ls r H Q else sw_A 88 40 ls r H Q) := sw_A_step (cc := cX9_startAtSide) rfl dX9_startAtSide_37 rfl ls st H Q
theorem r88_40 : sw_A 88 40 ls st H Q = (sw_lda False ls 0 fun x => sw_A 88 41 ls (.ref x :: st) H Q) := sw_A_step (cc := cX9_startAtSide) rfl dX9_startAtSide_40 rfl ls st H Q
theorem r88_41 : sw_A 88 41 ls st H Q = (sw_r1 False st fun a r => sw_gf False H (some (9, 2, 1)) a fun v => sw_A 88 44 ls (v :: r) H Q) := sw_A_step (cc := cX9_startAtSide) rfl dX9_startAtSide_41 rfl ls st H Q
theorem r88_44 : sw_A 88 44 ls st H Q = (sw_ldi False ls 2 fun x => sw_A 88 45 ls (.int x :: st) H Q) := sw_A_step (cc := cX9_startAtSide) rfl dX9_startAtSide_44 rfl ls st H Q
theorem r88_45 : sw_A 88 45 ls st H Q = (sw_A 88 46 ls (.int (Int32.ofInt 0) :: st) H Q) := sw_A_step (cc := cX9_startAtSide) rfl dX9_startAtSide_45 rfl ls st H Q
theorem r88_46 : sw_A 88 46 ls st H Q = (sw_rix False st fun a i x r => sw_ast False H 0 a i x fun H1 => sw_A 88 47 ls r H1 Q) := sw_A_step (cc := cX9_startAtSide) rfl dX9_startAtSide_46 rfl ls st H Q
theorem r88_47 : sw_A 88 47 ls st H Q = (sw_lda False ls 0 fun x => sw_A 88 48 ls (.ref x :: st) H Q) := sw_A_step (cc := cX9_startAtSide) rfl dX9_startAtSide_47 rfl ls st H Q
theorem r88_48 : sw_A 88 48 ls st H Q = (sw_r1 False st fun a r => sw_gf False H (some (9, 3, 1)) a fun v => sw_A 88 51 ls (v :: r) H Q) := sw_A_step (cc := cX9_startAtSide) rfl dX9_startAtSide_48 rfl ls st H Q
theorem r88_51 : sw_A 88 51 ls st H Q = (sw_ldi False ls 2 fun x => sw_A 88 52 ls (.int x :: st) H Q) := sw_A_step (cc := cX9_startAtSide) rfl dX9_startAtSide_51 rfl ls st H Q
theorem r88_52 : sw_A 88 52 ls st H Q = (sw_pop False 2 st [] fun args r => sw_ck False r (sw_rc False H (some 10) args (sw_M 50 args H (sw_K 88 55 none ls r Q)))) := sw_A_step (cc := cX9_startAtSide) rfl dX9_startAtSide_52 rfl ls st H Q
theorem r88_55 : sw_A 88 55 ls st H Q = (sw_ldi False ls 2 fun x => sw_A 88 58 (sw_set1 ls 2 (.int (x + Int32.ofInt 1))) st H Q) := sw_A_step (cc := cX9_startAtSide) rfl dX9_startAtSide_55 rfl ls st H Q
theorem r88_58 : sw_A 88 58 ls st H Q = (sw_A 88 17 ls st H Q) := sw_A_step (cc := cX9_startAtSide) rfl dX9_startAtSide_58 rfl ls st H Q
theorem r88_61 : sw_A 88 61 ls st H Q = (match st with | [] => Q (some none) H | _ => False) := sw_A_step (cc := cX9_startAtSide) rfl dX9_startAtSide_61 rfl ls st H Q
theorem r89_0 : sw_A 89 0 ls st H Q = (sw_ldi False ls 0 fun x => sw_A 89 1 ls (.int x :: st) H Q) := sw_A_step (cc := cX11_bondBetween) rfl dX11_bondBetween_0 rfl ls st H Q
theorem r89_1 : sw_A 89 1 ls st H Q = (sw_ldi False ls 1 fun x => sw_A 89 2 ls (.int x :: st) H Q) := sw_A_step (cc := cX11_bondBetween) rfl dX11_bondBetween_1 rfl ls st H Q
theorem r89_2 : sw_A 89 2 ls st H Q = (sw_i2 False st fun x y r => if y ≤ x then sw_A 89 9 ls r H Q else sw_A 89 5 ls r H Q) := sw_A_step (cc := cX11_bondBetween) rfl dX11_bondBetween_2 rfl ls st H Q
theorem r89_5 : sw_A 89 5 ls st H Q = (sw_ldi False ls 0 fun x => sw_A 89 6 ls (.int x :: st) H Q) := sw_A_step (cc := cX11_bondBetween) rfl dX11_bondBetween_5 rfl ls st H Q
theorem r89_6 : sw_A 89 6 ls st H Q = (sw_A 89 10 ls st H Q) := sw_A_step (cc := cX11_bondBetween) rfl dX11_bondBetween_6 rfl ls st H Q
theorem r89_9 : sw_A 89 9 ls st H Q = (sw_ldi False ls 1 fun x => sw_A 89 10 ls (.int x :: st) H Q) := sw_A_step (cc := cX11_bondBetween) rfl dX11_bondBetween_9 rfl ls st H Q
theorem r89_10 : sw_A 89 10 ls st H Q = (sw_has1 False ls 2 (sw_i1 False st fun x r => sw_A 89 11 (sw_set1 ls 2 (.int x)) r H Q)) := sw_A_step (cc := cX11_bondBetween) rfl dX11_bondBetween_10 rfl ls st H Q
theorem r89_11 : sw_A 89 11 ls st H Q = (sw_ldi False ls 0 fun x => sw_A 89 12 ls (.int x :: st) H Q) := sw_A_step (cc := cX11_bondBetween) rfl dX11_bondBetween_11 rfl ls st H Q
theorem r89_12 : sw_A 89 12 ls st H Q = (sw_ldi False ls 1 fun x => sw_A 89 13 ls (.int x :: st) H Q) := sw_A_step (cc := cX11_bondBetween) rfl dX11_bondBetween_12 rfl ls st H Q
theorem r89_13 : sw_A 89 13 ls st H Q = (sw_i2 False st fun x y r => sw_A 89 14 ls (.int (x + y) :: r) H Q) := sw_A_step (cc := cX11_bondBetween) rfl dX11_bondBetween_13 rfl ls st H Q
theorem r89_14 : sw_A 89 14 ls st H Q = (sw_A 89 15 ls (.int (Int32.ofInt 2) :: st) H Q) := sw_A_step (cc := cX11_bondBetween) rfl dX11_bondBetween_14 rfl ls st H Q
theorem r89_15 : sw_A 89 15 ls st H Q = (sw_ldi False ls 2 fun x => sw_A 89 16 ls (.int x :: st) H Q) := sw_A_step (cc := cX11_bondBetween) rfl dX11_bondBetween_15 rfl ls st H Q
theorem r89_16 : sw_A 89 16 ls st H Q = (sw_i2 False st fun x y r => sw_A 89 17 ls (.int (x * y) :: r) H Q) := sw_A_step (cc := cX11_bondBetween) rfl dX11_bondBetween_16 rfl ls st H Q
theorem r89_17 : sw_A 89 17 ls st H Q = (sw_A 89 19 ls (.int (Int32.ofInt 6) :: st) H Q) := sw_A_step (cc := cX11_bondBetween) rfl dX11_bondBetween_17 rfl ls st H Q
theorem r89_19 : sw_A 89 19 ls st H Q = (sw_i2 False st fun x y r => sw_A 89 20 ls (.int (x + y) :: r) H Q) := sw_A_step (cc := cX11_bondBetween) rfl dX11_bondBetween_19 rfl ls st H Q
theorem r89_20 : sw_A 89 20 ls st H Q = (sw_i2 False st fun x y r => if ¬ x = y then sw_A 89 27 ls r H Q else sw_A 89 23 ls r H Q) := sw_A_step (cc := cX11_bondBetween) rfl dX11_bondBetween_20 rfl ls st H Q
theorem r89_23 : sw_A 89 23 ls st H Q = (sw_A 89 24 ls (.int (Int32.ofInt 1) :: st) H Q) := sw_A_step (cc := cX11_bondBetween) rfl dX11_bondBetween_23 rfl ls st H Q
theorem r89_24 : sw_A 89 24 ls st H Q = (sw_A 89 28 ls st H Q) := sw_A_step (cc := cX11_bondBetween) rfl dX11_bondBetween_24 rfl ls st H Q
theorem r89_27 : sw_A 89 27 ls st H Q = (sw_A 89 28 ls (.int (Int32.ofInt 0) :: st) H Q) := sw_A_step (cc := cX11_bondBetween) rfl dX11_bondBetween_27 rfl ls st H Q
theorem r89_28 : sw_A 89 28 ls st H Q = (sw_has1 False ls 3 (sw_i1 False st fun x r => sw_A 89 29 (sw_set1 ls 3 (.int x)) r H Q)) := sw_A_step (cc := cX11_bondBetween) rfl dX11_bondBetween_28 rfl ls st H Q
theorem r89_29 : sw_A 89 29 ls st H Q = (sw_ldi False ls 3 fun x => sw_A 89 30 ls (.int x :: st) H Q) := sw_A_step (cc := cX11_bondBetween) rfl dX11_bondBetween_29 rfl ls st H Q
theorem r89_30 : sw_A 89 30 ls st H Q = (sw_i1 False st fun x r => if x = 0 then sw_A 89 40 ls r H Q else sw_A 89 33 ls r H Q) := sw_A_step (cc := cX11_bondBetween) rfl dX11_bondBetween_30 rfl ls st H Q
theorem r89_33 : sw_A 89 33 ls st H Q = (sw_A 89 35 ls (.int (Int32.ofInt 30) :: st) H Q) := sw_A_step (cc := cX11_bondBetween) rfl dX11_bondBetween_33 rfl ls st H Q
theorem r89_35 : sw_A 89 35 ls st H Q = (sw_ldi False ls 2 fun x => sw_A 89 36 ls (.int x :: st) H Q) := sw_A_step (cc := cX11_bondBetween) rfl dX11_bondBetween_35 rfl ls st H Q
theorem r89_36 : sw_A 89 36 ls st H Q = (sw_i2 False st fun x y r => sw_A 89 37 ls (.int (x + y) :: r) H Q) := sw_A_step (cc := cX11_bondBetween) rfl dX11_bondBetween_36 rfl ls st H Q
theorem r89_37 : sw_A 89 37 ls st H Q = (sw_A 89 51 ls st H Q) := sw_A_step (cc := cX11_bondBetween) rfl dX11_bondBetween_37 rfl ls st H Q
theorem r89_40 : sw_A 89 40 ls st H Q = (sw_A 89 41 ls (.int (Int32.ofInt 5) :: st) H Q) := sw_A_step (cc := cX11_bondBetween) rfl dX11_bondBetween_40 rfl ls st H Q
theorem r89_41 : sw_A 89 41 ls st H Q = (sw_ldi False ls 2 fun x => sw_A 89 42 ls (.int x :: st) H Q) := sw_A_step (cc := cX11_bondBetween) rfl dX11_bondBetween_41 rfl ls st H Q
theorem r89_42 : sw_A 89 42 ls st H Q = (sw_A 89 44 ls (.int (Int32.ofInt 6) :: st) H Q) := sw_A_step (cc := cX11_bondBetween) rfl dX11_bondBetween_42 rfl ls st H Q
theorem r89_44 : sw_A 89 44 ls st H Q = (sw_i2 False st fun x y r => if y = 0 then False else sw_A 89 45 ls (.int (x / y) :: r) H Q) := sw_A_step (cc := cX11_bondBetween) rfl dX11_bondBetween_44 rfl ls st H Q
theorem r89_45 : sw_A 89 45 ls st H Q = (sw_i2 False st fun x y r => sw_A 89 46 ls (.int (x * y) :: r) H Q) := sw_A_step (cc := cX11_bondBetween) rfl dX11_bondBetween_45 rfl ls st H Q
theorem r89_46 : sw_A 89 46 ls st H Q = (sw_ldi False ls 2 fun x => sw_A 89 47 ls (.int x :: st) H Q) := sw_A_step (cc := cX11_bondBetween) rfl dX11_bondBetween_46 rfl ls st H Q
theorem r89_47 : sw_A 89 47 ls st H Q = (sw_A 89 49 ls (.int (Int32.ofInt 6) :: st) H Q) := sw_A_step (cc := cX11_bondBetween) rfl dX11_bondBetween_47 rfl ls st H Q
theorem r89_49 : sw_A 89 49 ls st H Q = (sw_i2 False st fun x y r => if y = 0 then False else sw_A 89 50 ls (.int (x - x / y * y) :: r) H Q) := sw_A_step (cc := cX11_bondBetween) rfl dX11_bondBetween_49 rfl ls st H Q
theorem r89_50 : sw_A 89 50 ls st H Q = (sw_i2 False st fun x y r => sw_A 89 51 ls (.int (x + y) :: r) H Q) := sw_A_step (cc := cX11_bondBetween) rfl dX11_bondBetween_50 rfl ls st H Q
theorem r89_51 : sw_A 89 51 ls st H Q = (match st with | [.int x] => Q (some (some (.int x))) H | _ => False) := sw_A_step (cc := cX11_bondBetween) rfl dX11_bondBetween_51 rfl ls st H Q
theorem r90_0 : sw_A 90 0 ls st H Q = (sw_A 90 1 ls (.int (Int32.ofInt 0) :: st) H Q) := sw_A_step (cc := cX9_walkOn) rfl dX9_walkOn_0 rfl ls st H Q
theorem r90_1 : sw_A 90 1 ls st H Q = (sw_has1 False ls 1 (sw_i1 False st fun x r => sw_A 90 2 (sw_set1 ls 1 (.int x)) r H Q)) := sw_A_step (cc := cX9_walkOn) rfl dX9_walkOn_1 rfl ls st H Q
theorem r90_2 : sw_A 90 2 ls st H Q = (sw_ldi False ls 1 fun x => sw_A 90 3 ls (.int x :: st) H Q) := sw_A_step (cc := cX9_walkOn) rfl dX9_walkOn_2 rfl ls st H Q
theorem r90_3 : sw_A 90 3 ls st H Q = (sw_A 90 5 ls (.int (Int32.ofInt 36) :: st) H Q) := sw_A_step (cc := cX9_walkOn) rfl dX9_walkOn_3 rfl ls st H Q
theorem r90_5 : sw_A 90 5 ls st H Q = (sw_i2 False st fun x y r => if y ≤ x then sw_A 90 105 ls r H Q else sw_A 90 8 ls r H Q) := sw_A_step (cc := cX9_walkOn) rfl dX9_walkOn_5 rfl ls st H Q
theorem r90_8 : sw_A 90 8 ls st H Q = (sw_lda False ls 0 fun x => sw_A 90 9 ls (.ref x :: st) H Q) := sw_A_step (cc := cX9_walkOn) rfl dX9_walkOn_8 rfl ls st H Q
theorem r90_9 : sw_A 90 9 ls st H Q = (sw_r1 False st fun a r => sw_gf False H (some (9, 3, 1)) a fun v => sw_A 90 12 ls (v :: r) H Q) := sw_A_step (cc := cX9_walkOn) rfl dX9_walkOn_9 rfl ls st H Q
theorem r90_12 : sw_A 90 12 ls st H Q = (sw_pop False 1 st [] fun args r => sw_ck False r (sw_rc False H (some 10) args (sw_M 52 args H (sw_K 90 15 none ls r Q)))) := sw_A_step (cc := cX9_walkOn) rfl dX9_walkOn_12 rfl ls st H Q
theorem r90_15 : sw_A 90 15 ls st H Q = (sw_has1 False ls 2 (sw_i1 False st fun x r => sw_A 90 16 (sw_set1 ls 2 (.int x)) r H Q)) := sw_A_step (cc := cX9_walkOn) rfl dX9_walkOn_15 rfl ls st H Q
theorem r90_16 : sw_A 90 16 ls st H Q = (sw_ldi False ls 2 fun x => sw_A 90 17 ls (.int x :: st) H Q) := sw_A_step (cc := cX9_walkOn) rfl dX9_walkOn_16 rfl ls st H Q
theorem r90_17 : sw_A 90 17 ls st H Q = (sw_A 90 18 ls (.int (Int32.ofInt (-1)) :: st) H Q) := sw_A_step (cc := cX9_walkOn) rfl dX9_walkOn_17 rfl ls st H Q
theorem r90_18 : sw_A 90 18 ls st H Q = (sw_i2 False st fun x y r => if ¬ x = y then sw_A 90 24 ls r H Q else sw_A 90 21 ls r H Q) := sw_A_step (cc := cX9_walkOn) rfl dX9_walkOn_18 rfl ls st H Q
theorem r90_21 : sw_A 90 21 ls st H Q = (sw_A 90 105 ls st H Q) := sw_A_step (cc := cX9_walkOn) rfl dX9_walkOn_21 rfl ls st H Q
theorem r90_24 : sw_A 90 24 ls st H Q = (sw_A 90 25 ls (.int (Int32.ofInt 0) :: st) H Q) := sw_A_step (cc := cX9_walkOn) rfl dX9_walkOn_24 rfl ls st H Q
theorem r90_25 : sw_A 90 25 ls st H Q = (sw_has1 False ls 3 (sw_i1 False st fun x r => sw_A 90 26 (sw_set1 ls 3 (.int x)) r H Q)) := sw_A_step (cc := cX9_walkOn) rfl dX9_walkOn_25 rfl ls st H Q
theorem r90_26 : sw_A 90 26 ls st H Q = (sw_ldi False ls 3 fun x => sw_A 90 27 ls (.int x :: st) H Q) := sw_A_step (cc := cX9_walkOn) rfl dX9_walkOn_26 rfl ls st H Q
theorem r90_27 : sw_A 90 27 ls st H Q = (sw_A 90 28 ls (.int (Int32.ofInt 4) :: st) H Q) := sw_A_step (cc := cX9_walkOn) rfl dX9_walkOn_27 rfl ls st H Q
theorem r90_28 : sw_A 90 28 ls st H Q = (sw_i2 False st fun x y r => if y ≤ x then sw_A 90 99 ls r H Q else sw_A 90 31 ls r H Q) := sw_A_step (cc := cX9_walkOn) rfl dX9_walkOn_28 rfl ls st H Q
theorem r90_31 : sw_A 90 31 ls st H Q = (sw_ldi False ls 2 fun x => sw_A 90 32 ls (.int x :: st) H Q) := sw_A_step (cc := cX9_walkOn) rfl dX9_walkOn_31 rfl ls st H Q
theorem r90_32 : sw_A 90 32 ls st H Q = (sw_ldi False ls 3 fun x => sw_A 90 33 ls (.int x :: st) H Q) := sw_A_step (cc := cX9_walkOn) rfl dX9_walkOn_32 rfl ls st H Q
theorem r90_33 : sw_A 90 33 ls st H Q = (sw_pop False 2 st [] fun args r => sw_ck False r (sw_M 32 args H (sw_K 90 36 none ls r Q))) := sw_A_step (cc := cX9_walkOn) rfl dX9_walkOn_33 rfl ls st H Q
theorem r90_36 : sw_A 90 36 ls st H Q = (sw_has1 False ls 4 (sw_i1 False st fun x r => sw_A 90 38 (sw_set1 ls 4 (.int x)) r H Q)) := sw_A_step (cc := cX9_walkOn) rfl dX9_walkOn_36 rfl ls st H Q
theorem r90_38 : sw_A 90 38 ls st H Q = (sw_ldi False ls 4 fun x => sw_A 90 40 ls (.int x :: st) H Q) := sw_A_step (cc := cX9_walkOn) rfl dX9_walkOn_38 rfl ls st H Q
theorem r90_40 : sw_A 90 40 ls st H Q = (sw_A 90 41 ls (.int (Int32.ofInt (-1)) :: st) H Q) := sw_A_step (cc := cX9_walkOn) rfl dX9_walkOn_40 rfl ls st H Q
theorem r90_41 : sw_A 90 41 ls st H Q = (sw_i2 False st fun x y r => if x = y then sw_A 90 93 ls r H Q else sw_A 90 44 ls r H Q) := sw_A_step (cc := cX9_walkOn) rfl dX9_walkOn_41 rfl ls st H Q
theorem r90_44 : sw_A 90 44 ls st H Q = (sw_lda False ls 0 fun x => sw_A 90 45 ls (.ref x :: st) H Q) := sw_A_step (cc := cX9_walkOn) rfl dX9_walkOn_44 rfl ls st H Q
theorem r90_45 : sw_A 90 45 ls st H Q = (sw_r1 False st fun a r => sw_gf False H (some (9, 2, 1)) a fun v => sw_A 90 48 ls (v :: r) H Q) := sw_A_step (cc := cX9_walkOn) rfl dX9_walkOn_45 rfl ls st H Q
theorem r90_48 : sw_A 90 48 ls st H Q = (sw_ldi False ls 4 fun x => sw_A 90 50 ls (.int x :: st) H Q) := sw_A_step (cc := cX9_walkOn) rfl dX9_walkOn_48 rfl ls st H Q
theorem r90_50 : sw_A 90 50 ls st H Q = (sw_ri False st fun a i r => sw_ald False H 0 a i fun x => sw_A 90 51 ls (.int x :: r) H Q) := sw_A_step (cc := cX9_walkOn) rfl dX9_walkOn_50 rfl ls st H Q
theorem r90_51 : sw_A 90 51 ls st H Q = (sw_A 90 52 ls (.int (Int32.ofInt (-1)) :: st) H Q) := sw_A_step (cc := cX9_walkOn) rfl dX9_walkOn_51 rfl ls st H Q
theorem r90_52 : sw_A 90 52 ls st H Q = (sw_i2 False st fun x y r => if ¬ x = y then sw_A 90 93 ls r H Q else sw_A 90 55 ls r H Q) := sw_A_step (cc := cX9_walkOn) rfl dX9_walkOn_52 rfl ls st H Q
theorem r90_55 : sw_A 90 55 ls st H Q = (sw_lda False ls 0 fun x => sw_A 90 56 ls (.ref x :: st) H Q) := sw_A_step (cc := cX9_walkOn) rfl dX9_walkOn_55 rfl ls st H Q
theorem r90_56 : sw_A 90 56 ls st H Q = (sw_r1 False st fun a r => sw_gf False H (some (9, 1, 1)) a fun v => sw_A 90 59 ls (v :: r) H Q) := sw_A_step (cc := cX9_walkOn) rfl dX9_walkOn_56 rfl ls st H Q
theorem r90_59 : sw_A 90 59 ls st H Q = (sw_ldi False ls 2 fun x => sw_A 90 60 ls (.int x :: st) H Q) := sw_A_step (cc := cX9_walkOn) rfl dX9_walkOn_59 rfl ls st H Q
theorem r90_60 : sw_A 90 60 ls st H Q = (sw_ldi False ls 4 fun x => sw_A 90 62 ls (.int x :: st) H Q) := sw_A_step (cc := cX9_walkOn) rfl dX9_walkOn_60 rfl ls st H Q
theorem r90_62 : sw_A 90 62 ls st H Q = (sw_pop False 2 st [] fun args r => sw_ck False r (sw_M 89 args H (sw_K 90 65 none ls r Q))) := sw_A_step (cc := cX9_walkOn) rfl dX9_walkOn_62 rfl ls st H Q
theorem r90_65 : sw_A 90 65 ls st H Q = (sw_ri False st fun a i r => sw_ald False H 1 a i fun x => sw_A 90 66 ls (.int x :: r) H Q) := sw_A_step (cc := cX9_walkOn) rfl dX9_walkOn_65 rfl ls st H Q
theorem r90_66 : sw_A 90 66 ls st H Q = (sw_i1 False st fun x r => if x = 0 then sw_A 90 93 ls r H Q else sw_A 90 69 ls r H Q) := sw_A_step (cc := cX9_walkOn) rfl dX9_walkOn_66 rfl ls st H Q
theorem r90_69 : sw_A 90 69 ls st H Q = (sw_lda False ls 0 fun x => sw_A 90 70 ls (.ref x :: st) H Q) := sw_A_step (cc := cX9_walkOn) rfl dX9_walkOn_69 rfl ls st H Q
theorem r90_70 : sw_A 90 70 ls st H Q = (sw_r1 False st fun a r => sw_gf False H (some (9, 2, 1)) a fun v => sw_A 90 73 ls (v :: r) H Q) := sw_A_step (cc := cX9_walkOn) rfl dX9_walkOn_70 rfl ls st H Q
theorem r90_73 : sw_A 90 73 ls st H Q = (sw_ldi False ls 4 fun x => sw_A 90 75 ls (.int x :: st) H Q) := sw_A_step (cc := cX9_walkOn) rfl dX9_walkOn_73 rfl ls st H Q
theorem r90_75 : sw_A 90 75 ls st H Q = (sw_lda False ls 0 fun x => sw_A 90 76 ls (.ref x :: st) H Q) := sw_A_step (cc := cX9_walkOn) rfl dX9_walkOn_75 rfl ls st H Q
theorem r90_76 : sw_A 90 76 ls st H Q = (sw_r1 False st fun a r => sw_gf False H (some (9, 2, 1)) a fun v => sw_A 90 79 ls (v :: r) H Q) := sw_A_step (cc := cX9_walkOn) rfl dX9_walkOn_76 rfl ls st H Q
theorem r90_79 : sw_A 90 79 ls st H Q = (sw_ldi False ls 2 fun x => sw_A 90 80 ls (.int x :: st) H Q) := sw_A_step (cc := cX9_walkOn) rfl dX9_walkOn_79 rfl ls st H Q
theorem r90_80 : sw_A 90 80 ls st H Q = (sw_ri False st fun a i r => sw_ald False H 0 a i fun x => sw_A 90 81 ls (.int x :: r) H Q) := sw_A_step (cc := cX9_walkOn) rfl dX9_walkOn_80 rfl ls st H Q
theorem r90_81 : sw_A 90 81 ls st H Q = (sw_A 90 82 ls (.int (Int32.ofInt 1) :: st) H Q) := sw_A_step (cc := cX9_walkOn) rfl dX9_walkOn_81 rfl ls st H Q
theorem r90_82 : sw_A 90 82 ls st H Q = (sw_i2 False st fun x y r => sw_A 90 83 ls (.int (x + y) :: r) H Q) := sw_A_step (cc := cX9_walkOn) rfl dX9_walkOn_82 rfl ls st H Q
theorem r90_83 : sw_A 90 83 ls st H Q = (sw_rix False st fun a i x r => sw_ast False H 0 a i x fun H1 => sw_A 90 84 ls r H1 Q) := sw_A_step (cc := cX9_walkOn) rfl dX9_walkOn_83 rfl ls st H Q
theorem r90_84 : sw_A 90 84 ls st H Q = (sw_lda False ls 0 fun x => sw_A 90 85 ls (.ref x :: st) H Q) := sw_A_step (cc := cX9_walkOn) rfl dX9_walkOn_84 rfl ls st H Q
theorem r90_85 : sw_A 90 85 ls st H Q = (sw_r1 False st fun a r => sw_gf False H (some (9, 3, 1)) a fun v => sw_A 90 88 ls (v :: r) H Q) := sw_A_step (cc := cX9_walkOn) rfl dX9_walkOn_85 rfl ls st H Q
theorem r90_88 : sw_A 90 88 ls st H Q = (sw_ldi False ls 4 fun x => sw_A 90 90 ls (.int x :: st) H Q) := sw_A_step (cc := cX9_walkOn) rfl dX9_walkOn_88 rfl ls st H Q
theorem r90_90 : sw_A 90 90 ls st H Q = (sw_pop False 2 st [] fun args r => sw_ck False r (sw_rc False H (some 10) args (sw_M 50 args H (sw_K 90 93 none ls r Q)))) := sw_A_step (cc := cX9_walkOn) rfl dX9_walkOn_90 rfl ls st H Q
theorem r90_93 : sw_A 90 93 ls st H Q = (sw_ldi False ls 3 fun x => sw_A 90 96 (sw_set1 ls 3 (.int (x + Int32.ofInt 1))) st H Q) := sw_A_step (cc := cX9_walkOn) rfl dX9_walkOn_93 rfl ls st H Q
theorem r90_96 : sw_A 90 96 ls st H Q = (sw_A 90 26 ls st H Q) := sw_A_step (cc := cX9_walkOn) rfl dX9_walkOn_96 rfl ls st H Q
theorem r90_99 : sw_A 90 99 ls st H Q = (sw_ldi False ls 1 fun x => sw_A 90 102 (sw_set1 ls 1 (.int (x + Int32.ofInt 1))) st H Q) := sw_A_step (cc := cX9_walkOn) rfl dX9_walkOn_99 rfl ls st H Q
theorem r90_102 : sw_A 90 102 ls st H Q = (sw_A 90 2 ls st H Q) := sw_A_step (cc := cX9_walkOn) rfl dX9_walkOn_102 rfl ls st H Q
theorem r90_105 : sw_A 90 105 ls st H Q = (match st with | [] => Q (some none) H | _ => False) := sw_A_step (cc := cX9_walkOn) rfl dX9_walkOn_105 rfl ls st H Q
theorem r91_0 : sw_A 91 0 ls st H Q = (sw_lda False ls 0 fun x => sw_A 91 1 ls (.ref x :: st) H Q) := sw_A_step (cc := cX9_leastSteps) rfl dX9_leastSteps_0 rfl ls st H Q
theorem r91_1 : sw_A 91 1 ls st H Q = (sw_ldi False ls 1 fun x => sw_A 91 2 ls (.int x :: st) H Q) := sw_A_step (cc := cX9_leastSteps) rfl dX9_leastSteps_1 rfl ls st H Q
theorem r91_2 : sw_A 91 2 ls st H Q = (sw_pop False 2 st [] fun args r => sw_ck False r (sw_rc False H (some 9) args (sw_M 88 args H (sw_K 91 5 none ls r Q)))) := sw_A_step (cc := cX9_leastSteps) rfl dX9_leastSteps_2 rfl ls st H Q
theorem r91_5 : sw_A 91 5 ls st H Q = (sw_lda False ls 0 fun x => sw_A 91 6 ls (.ref x :: st) H Q) := sw_A_step (cc := cX9_leastSteps) rfl dX9_leastSteps_5 rfl ls st H Q
theorem r91_6 : sw_A 91 6 ls st H Q = (sw_pop False 1 st [] fun args r => sw_ck False r (sw_rc False H (some 9) args (sw_M 90 args H (sw_K 91 9 none ls r Q)))) := sw_A_step (cc := cX9_leastSteps) rfl dX9_leastSteps_6 rfl ls st H Q
theorem r91_9 : sw_A 91 9 ls st H Q = (sw_A 91 10 ls (.int (Int32.ofInt (-1)) :: st) H Q) := sw_A_step (cc := cX9_leastSteps) rfl dX9_leastSteps_9 rfl ls st H Q
theorem r91_10 : sw_A 91 10 ls st H Q = (sw_has1 False ls 3 (sw_i1 False st fun x r => sw_A 91 11 (sw_set1 ls 3 (.int x)) r H Q)) := sw_A_step (cc := cX9_leastSteps) rfl dX9_leastSteps_10 rfl ls st H Q
theorem r91_11 : sw_A 91 11 ls st H Q = (sw_A 91 12 ls (.int (Int32.ofInt 0) :: st) H Q) := sw_A_step (cc := cX9_leastSteps) rfl dX9_leastSteps_11 rfl ls st H Q
theorem r91_12 : sw_A 91 12 ls st H Q = (sw_has1 False ls 4 (sw_i1 False st fun x r => sw_A 91 14 (sw_set1 ls 4 (.int x)) r H Q)) := sw_A_step (cc := cX9_leastSteps) rfl dX9_leastSteps_12 rfl ls st H Q
theorem r91_14 : sw_A 91 14 ls st H Q = (sw_ldi False ls 4 fun x => sw_A 91 16 ls (.int x :: st) H Q) := sw_A_step (cc := cX9_leastSteps) rfl dX9_leastSteps_14 rfl ls st H Q
theorem r91_16 : sw_A 91 16 ls st H Q = (sw_A 91 18 ls (.int (Int32.ofInt 36) :: st) H Q) := sw_A_step (cc := cX9_leastSteps) rfl dX9_leastSteps_16 rfl ls st H Q
theorem r91_18 : sw_A 91 18 ls st H Q = (sw_i2 False st fun x y r => if y ≤ x then sw_A 91 83 ls r H Q else sw_A 91 21 ls r H Q) := sw_A_step (cc := cX9_leastSteps) rfl dX9_leastSteps_18 rfl ls st H Q
theorem r91_21 : sw_A 91 21 ls st H Q = (sw_ldi False ls 4 fun x => sw_A 91 23 ls (.int x :: st) H Q) := sw_A_step (cc := cX9_leastSteps) rfl dX9_leastSteps_21 rfl ls st H Q
theorem r91_23 : sw_A 91 23 ls st H Q = (sw_ldi False ls 2 fun x => sw_A 91 24 ls (.int x :: st) H Q) := sw_A_step (cc := cX9_leastSteps) rfl dX9_leastSteps_23 rfl ls st H Q
theorem r91_24 : sw_A 91 24 ls st H Q = (sw_pop False 2 st [] fun args r => sw_ck False r (sw_M 72 args H (sw_K 91 27 none ls r Q))) := sw_A_step (cc := cX9_leastSteps) rfl dX9_leastSteps_24 rfl ls st H Q
theorem r91_27 : sw_A 91 27 ls st H Q = (sw_i1 False st fun x r => if x = 0 then sw_A 91 45 ls r H Q else sw_A 91 30 ls r H Q) := sw_A_step (cc := cX9_leastSteps) rfl dX9_leastSteps_27 rfl ls st H Q
theorem r91_30 : sw_A 91 30 ls st H Q = (sw_lda False ls 0 fun x => sw_A 91 31 ls (.ref x :: st) H Q) := sw_A_step (cc := cX9_leastSteps) rfl dX9_leastSteps_30 rfl ls st H Q
theorem r91_31 : sw_A 91 31 ls st H Q = (sw_r1 False st fun a r => sw_gf False H (some (9, 2, 1)) a fun v => sw_A 91 34 ls (v :: r) H Q) := sw_A_step (cc := cX9_leastSteps) rfl dX9_leastSteps_31 rfl ls st H Q
theorem r91_34 : sw_A 91 34 ls st H Q = (sw_ldi False ls 4 fun x => sw_A 91 36 ls (.int x :: st) H Q) := sw_A_step (cc := cX9_leastSteps) rfl dX9_leastSteps_34 rfl ls st H Q
theorem r91_36 : sw_A 91 36 ls st H Q = (sw_ri False st fun a i r => sw_ald False H 0 a i fun x => sw_A 91 37 ls (.int x :: r) H Q) := sw_A_step (cc := cX9_leastSteps) rfl dX9_leastSteps_36 rfl ls st H Q
theorem r91_37 : sw_A 91 37 ls st H Q = (sw_A 91 38 ls (.int (Int32.ofInt (-1)) :: st) H Q) := sw_A_step (cc := cX9_leastSteps) rfl dX9_leastSteps_37 rfl ls st H Q
theorem r91_38 : sw_A 91 38 ls st H Q = (sw_i2 False st fun x y r => if x = y then sw_A 91 45 ls r H Q else sw_A 91 41 ls r H Q) := sw_A_step (cc := cX9_leastSteps) rfl dX9_leastSteps_38 rfl ls st H Q
theorem r91_41 : sw_A 91 41 ls st H Q = (sw_A 91 42 ls (.int (Int32.ofInt 1) :: st) H Q) := sw_A_step (cc := cX9_leastSteps) rfl dX9_leastSteps_41 rfl ls st H Q
theorem r91_42 : sw_A 91 42 ls st H Q = (sw_A 91 46 ls st H Q) := sw_A_step (cc := cX9_leastSteps) rfl dX9_leastSteps_42 rfl ls st H Q
theorem r91_45 : sw_A 91 45 ls st H Q = (sw_A 91 46 ls (.int (Int32.ofInt 0) :: st) H Q) := sw_A_step (cc := cX9_leastSteps) rfl dX9_leastSteps_45 rfl ls st H Q
theorem r91_46 : sw_A 91 46 ls st H Q = (sw_has1 False ls 5 (sw_i1 False st fun x r => sw_A 91 48 (sw_set1 ls 5 (.int x)) r H Q)) := sw_A_step (cc := cX9_leastSteps) rfl dX9_leastSteps_46 rfl ls st H Q
theorem r91_48 : sw_A 91 48 ls st H Q = (sw_ldi False ls 5 fun x => sw_A 91 50 ls (.int x :: st) H Q) := sw_A_step (cc := cX9_leastSteps) rfl dX9_leastSteps_48 rfl ls st H Q
theorem r91_50 : sw_A 91 50 ls st H Q = (sw_i1 False st fun x r => if x = 0 then sw_A 91 77 ls r H Q else sw_A 91 53 ls r H Q) := sw_A_step (cc := cX9_leastSteps) rfl dX9_leastSteps_50 rfl ls st H Q
theorem r91_53 : sw_A 91 53 ls st H Q = (sw_ldi False ls 3 fun x => sw_A 91 54 ls (.int x :: st) H Q) := sw_A_step (cc := cX9_leastSteps) rfl dX9_leastSteps_53 rfl ls st H Q
theorem r91_54 : sw_A 91 54 ls st H Q = (sw_A 91 55 ls (.int (Int32.ofInt (-1)) :: st) H Q) := sw_A_step (cc := cX9_leastSteps) rfl dX9_leastSteps_54 rfl ls st H Q
theorem r91_55 : sw_A 91 55 ls st H Q = (sw_i2 False st fun x y r => if x = y then sw_A 91 69 ls r H Q else sw_A 91 58 ls r H Q) := sw_A_step (cc := cX9_leastSteps) rfl dX9_leastSteps_55 rfl ls st H Q
theorem r91_58 : sw_A 91 58 ls st H Q = (sw_lda False ls 0 fun x => sw_A 91 59 ls (.ref x :: st) H Q) := sw_A_step (cc := cX9_leastSteps) rfl dX9_leastSteps_58 rfl ls st H Q
theorem r91_59 : sw_A 91 59 ls st H Q = (sw_r1 False st fun a r => sw_gf False H (some (9, 2, 1)) a fun v => sw_A 91 62 ls (v :: r) H Q) := sw_A_step (cc := cX9_leastSteps) rfl dX9_leastSteps_59 rfl ls st H Q
theorem r91_62 : sw_A 91 62 ls st H Q = (sw_ldi False ls 4 fun x => sw_A 91 64 ls (.int x :: st) H Q) := sw_A_step (cc := cX9_leastSteps) rfl dX9_leastSteps_62 rfl ls st H Q
theorem r91_64 : sw_A 91 64 ls st H Q = (sw_ri False st fun a i r => sw_ald False H 0 a i fun x => sw_A 91 65 ls (.int x :: r) H Q) := sw_A_step (cc := cX9_leastSteps) rfl dX9_leastSteps_64 rfl ls st H Q
theorem r91_65 : sw_A 91 65 ls st H Q = (sw_ldi False ls 3 fun x => sw_A 91 66 ls (.int x :: st) H Q) := sw_A_step (cc := cX9_leastSteps) rfl dX9_leastSteps_65 rfl ls st H Q
theorem r91_66 : sw_A 91 66 ls st H Q = (sw_i2 False st fun x y r => if y ≤ x then sw_A 91 77 ls r H Q else sw_A 91 69 ls r H Q) := sw_A_step (cc := cX9_leastSteps) rfl dX9_leastSteps_66 rfl ls st H Q
theorem r91_69 : sw_A 91 69 ls st H Q = (sw_lda False ls 0 fun x => sw_A 91 70 ls (.ref x :: st) H Q) := sw_A_step (cc := cX9_leastSteps) rfl dX9_leastSteps_69 rfl ls st H Q
theorem r91_70 : sw_A 91 70 ls st H Q = (sw_r1 False st fun a r => sw_gf False H (some (9, 2, 1)) a fun v => sw_A 91 73 ls (v :: r) H Q) := sw_A_step (cc := cX9_leastSteps) rfl dX9_leastSteps_70 rfl ls st H Q
theorem r91_73 : sw_A 91 73 ls st H Q = (sw_ldi False ls 4 fun x => sw_A 91 75 ls (.int x :: st) H Q) := sw_A_step (cc := cX9_leastSteps) rfl dX9_leastSteps_73 rfl ls st H Q
theorem r91_75 : sw_A 91 75 ls st H Q = (sw_ri False st fun a i r => sw_ald False H 0 a i fun x => sw_A 91 76 ls (.int x :: r) H Q) := sw_A_step (cc := cX9_leastSteps) rfl dX9_leastSteps_75 rfl ls st H Q
theorem r91_76 : sw_A 91 76 ls st H Q = (sw_has1 False ls 3 (sw_i1 False st fun x r => sw_A 91 77 (sw_set1 ls 3 (.int x)) r H Q)) := sw_A_step (cc := cX9_leastSteps) rfl dX9_leastSteps_76 rfl ls st H Q
theorem r91_77 : sw_A 91 77 ls st H Q = (sw_ldi False ls 4 fun x => sw_A 91 80 (sw_set1 ls 4 (.int (x + Int32.ofInt 1))) st H Q) := sw_A_step (cc := cX9_leastSteps) rfl dX9_leastSteps_77 rfl ls st H Q
theorem r91_80 : sw_A 91 80 ls st H Q = (sw_A 91 14 ls st H Q) := sw_A_step (cc := cX9_leastSteps) rfl dX9_leastSteps_80 rfl ls st H Q
theorem r91_83 : sw_A 91 83 ls st H Q = (sw_ldi False ls 3 fun x => sw_A 91 84 ls (.int x :: st) H Q) := sw_A_step (cc := cX9_leastSteps) rfl dX9_leastSteps_83 rfl ls st H Q
theorem r91_84 : sw_A 91 84 ls st H Q = (match st with | [.int x] => Q (some (some (.int x))) H | _ => False) := sw_A_step (cc := cX9_leastSteps) rfl dX9_leastSteps_84 rfl ls st H Q
theorem r92_0 : sw_A 92 0 ls st H Q = (sw_ldi False ls 1 fun x => sw_A 92 1 ls (.int x :: st) H Q) := sw_A_step (cc := cX11_estimate) rfl dX11_estimate_0 rfl ls st H Q
theorem r92_1 : sw_A 92 1 ls st H Q = (sw_pop False 1 st [] fun args r => sw_ck False r (sw_M 84 args H (sw_K 92 4 none ls r Q))) := sw_A_step (cc := cX11_estimate) rfl dX11_estimate_1 rfl ls st H Q
theorem r92_4 : sw_A 92 4 ls st H Q = (sw_ldi False ls 2 fun x => sw_A 92 5 ls (.int x :: st) H Q) := sw_A_step (cc := cX11_estimate) rfl dX11_estimate_4 rfl ls st H Q
theorem r92_5 : sw_A 92 5 ls st H Q = (sw_A 92 6 ls (.int (Int32.ofInt 0) :: st) H Q) := sw_A_step (cc := cX11_estimate) rfl dX11_estimate_5 rfl ls st H Q
theorem r92_6 : sw_A 92 6 ls st H Q = (sw_A 92 9 ls (.int (Int32.ofInt 1000) :: st) H Q) := sw_A_step (cc := cX11_estimate) rfl dX11_estimate_6 rfl ls st H Q
theorem r92_9 : sw_A 92 9 ls st H Q = (sw_pop False 3 st [] fun args r => sw_ck False r (sw_M 17 args H (sw_K 92 12 none ls r Q))) := sw_A_step (cc := cX11_estimate) rfl dX11_estimate_9 rfl ls st H Q
theorem r92_12 : sw_A 92 12 ls st H Q = (sw_ldi False ls 3 fun x => sw_A 92 13 ls (.int x :: st) H Q) := sw_A_step (cc := cX11_estimate) rfl dX11_estimate_12 rfl ls st H Q
theorem r92_13 : sw_A 92 13 ls st H Q = (sw_A 92 14 ls (.int (Int32.ofInt 1) :: st) H Q) := sw_A_step (cc := cX11_estimate) rfl dX11_estimate_13 rfl ls st H Q
theorem r92_14 : sw_A 92 14 ls st H Q = (sw_A 92 16 ls (.int (Int32.ofInt 30) :: st) H Q) := sw_A_step (cc := cX11_estimate) rfl dX11_estimate_14 rfl ls st H Q
theorem r92_16 : sw_A 92 16 ls st H Q = (sw_pop False 3 st [] fun args r => sw_ck False r (sw_M 17 args H (sw_K 92 19 none ls r Q))) := sw_A_step (cc := cX11_estimate) rfl dX11_estimate_16 rfl ls st H Q
theorem r92_19 : sw_A 92 19 ls st H Q = (sw_A 92 20 ls (.int (Int32.ofInt 0) :: st) H Q) := sw_A_step (cc := cX11_estimate) rfl dX11_estimate_19 rfl ls st H Q
theorem r92_20 : sw_A 92 20 ls st H Q = (sw_has1 False ls 4 (sw_i1 False st fun x r => sw_A 92 22 (sw_set1 ls 4 (.int x)) r H Q)) := sw_A_step (cc := cX11_estimate) rfl dX11_estimate_20 rfl ls st H Q
theorem r92_22 : sw_A 92 22 ls st H Q = (sw_A 92 23 ls (.int (Int32.ofInt 1) :: st) H Q) := sw_A_step (cc := cX11_estimate) rfl dX11_estimate_22 rfl ls st H Q
theorem r92_23 : sw_A 92 23 ls st H Q = (sw_has1 False ls 5 (sw_i1 False st fun x r => sw_A 92 25 (sw_set1 ls 5 (.int x)) r H Q)) := sw_A_step (cc := cX11_estimate) rfl dX11_estimate_23 rfl ls st H Q
theorem r92_25 : sw_A 92 25 ls st H Q = (sw_ldi False ls 5 fun x => sw_A 92 27 ls (.int x :: st) H Q) := sw_A_step (cc := cX11_estimate) rfl dX11_estimate_25 rfl ls st H Q
theorem r92_27 : sw_A 92 27 ls st H Q = (sw_ldi False ls 3 fun x => sw_A 92 28 ls (.int x :: st) H Q) := sw_A_step (cc := cX11_estimate) rfl dX11_estimate_27 rfl ls st H Q
theorem r92_28 : sw_A 92 28 ls st H Q = (sw_i2 False st fun x y r => if y < x then sw_A 92 82 ls r H Q else sw_A 92 31 ls r H Q) := sw_A_step (cc := cX11_estimate) rfl dX11_estimate_28 rfl ls st H Q
theorem r92_31 : sw_A 92 31 ls st H Q = (sw_lda False ls 0 fun x => sw_A 92 32 ls (.ref x :: st) H Q) := sw_A_step (cc := cX11_estimate) rfl dX11_estimate_31 rfl ls st H Q
theorem r92_32 : sw_A 92 32 ls st H Q = (sw_r1 False st fun a r => sw_gf False H (some (11, 1, 1)) a fun v => sw_A 92 35 ls (v :: r) H Q) := sw_A_step (cc := cX11_estimate) rfl dX11_estimate_32 rfl ls st H Q
theorem r92_35 : sw_A 92 35 ls st H Q = (sw_ldi False ls 5 fun x => sw_A 92 37 ls (.int x :: st) H Q) := sw_A_step (cc := cX11_estimate) rfl dX11_estimate_35 rfl ls st H Q
theorem r92_37 : sw_A 92 37 ls st H Q = (sw_pop False 2 st [] fun args r => sw_ck False r (sw_rc False H (some 8) args (sw_M 19 args H (sw_K 92 40 none ls r Q)))) := sw_A_step (cc := cX11_estimate) rfl dX11_estimate_37 rfl ls st H Q
theorem r92_40 : sw_A 92 40 ls st H Q = (sw_lda False ls 0 fun x => sw_A 92 41 ls (.ref x :: st) H Q) := sw_A_step (cc := cX11_estimate) rfl dX11_estimate_40 rfl ls st H Q
theorem r92_41 : sw_A 92 41 ls st H Q = (sw_r1 False st fun a r => sw_gf False H (some (11, 3, 1)) a fun v => sw_A 92 44 ls (v :: r) H Q) := sw_A_step (cc := cX11_estimate) rfl dX11_estimate_41 rfl ls st H Q
theorem r92_44 : sw_A 92 44 ls st H Q = (sw_lda False ls 0 fun x => sw_A 92 45 ls (.ref x :: st) H Q) := sw_A_step (cc := cX11_estimate) rfl dX11_estimate_44 rfl ls st H Q
theorem r92_45 : sw_A 92 45 ls st H Q = (sw_r1 False st fun a r => sw_gf False H (some (11, 1, 1)) a fun v => sw_A 92 48 ls (v :: r) H Q) := sw_A_step (cc := cX11_estimate) rfl dX11_estimate_45 rfl ls st H Q
theorem r92_48 : sw_A 92 48 ls st H Q = (sw_lda False ls 0 fun x => sw_A 92 49 ls (.ref x :: st) H Q) := sw_A_step (cc := cX11_estimate) rfl dX11_estimate_48 rfl ls st H Q
theorem r92_49 : sw_A 92 49 ls st H Q = (sw_r1 False st fun a r => sw_gf False H (some (11, 2, 1)) a fun v => sw_A 92 52 ls (v :: r) H Q) := sw_A_step (cc := cX11_estimate) rfl dX11_estimate_49 rfl ls st H Q
theorem r92_52 : sw_A 92 52 ls st H Q = (sw_r1 False st fun a r => sw_gf False H (some (7, 0, 3)) a fun v => sw_A 92 55 ls (v :: r) H Q) := sw_A_step (cc := cX11_estimate) rfl dX11_estimate_52 rfl ls st H Q
theorem r92_55 : sw_A 92 55 ls st H Q = (sw_ldi False ls 1 fun x => sw_A 92 56 ls (.int x :: st) H Q) := sw_A_step (cc := cX11_estimate) rfl dX11_estimate_55 rfl ls st H Q
theorem r92_56 : sw_A 92 56 ls st H Q = (sw_ldi False ls 2 fun x => sw_A 92 57 ls (.int x :: st) H Q) := sw_A_step (cc := cX11_estimate) rfl dX11_estimate_56 rfl ls st H Q
theorem r92_57 : sw_A 92 57 ls st H Q = (sw_pop False 5 st [] fun args r => sw_ck False r (sw_rc False H (some 9) args (sw_M 87 args H (sw_K 92 60 none ls r Q)))) := sw_A_step (cc := cX11_estimate) rfl dX11_estimate_57 rfl ls st H Q
theorem r92_60 : sw_A 92 60 ls st H Q = (sw_lda False ls 0 fun x => sw_A 92 61 ls (.ref x :: st) H Q) := sw_A_step (cc := cX11_estimate) rfl dX11_estimate_60 rfl ls st H Q
theorem r92_61 : sw_A 92 61 ls st H Q = (sw_r1 False st fun a r => sw_gf False H (some (11, 3, 1)) a fun v => sw_A 92 64 ls (v :: r) H Q) := sw_A_step (cc := cX11_estimate) rfl dX11_estimate_61 rfl ls st H Q
theorem r92_64 : sw_A 92 64 ls st H Q = (sw_A 92 65 ls (.int (Int32.ofInt 1) :: st) H Q) := sw_A_step (cc := cX11_estimate) rfl dX11_estimate_64 rfl ls st H Q
theorem r92_65 : sw_A 92 65 ls st H Q = (sw_A 92 66 ls (.int (Int32.ofInt 2) :: st) H Q) := sw_A_step (cc := cX11_estimate) rfl dX11_estimate_65 rfl ls st H Q
theorem r92_66 : sw_A 92 66 ls st H Q = (sw_pop False 3 st [] fun args r => sw_ck False r (sw_rc False H (some 9) args (sw_M 91 args H (sw_K 92 69 none ls r Q)))) := sw_A_step (cc := cX11_estimate) rfl dX11_estimate_66 rfl ls st H Q
theorem r92_69 : sw_A 92 69 ls st H Q = (sw_A 92 70 ls (.int (Int32.ofInt (-1)) :: st) H Q) := sw_A_step (cc := cX11_estimate) rfl dX11_estimate_69 rfl ls st H Q
theorem r92_70 : sw_A 92 70 ls st H Q = (sw_i2 False st fun x y r => if x = y then sw_A 92 76 ls r H Q else sw_A 92 73 ls r H Q) := sw_A_step (cc := cX11_estimate) rfl dX11_estimate_70 rfl ls st H Q
theorem r92_73 : sw_A 92 73 ls st H Q = (sw_ldi False ls 4 fun x => sw_A 92 76 (sw_set1 ls 4 (.int (x + Int32.ofInt 1))) st H Q) := sw_A_step (cc := cX11_estimate) rfl dX11_estimate_73 rfl ls st H Q
theorem r92_76 : sw_A 92 76 ls st H Q = (sw_ldi False ls 5 fun x => sw_A 92 79 (sw_set1 ls 5 (.int (x + Int32.ofInt 1))) st H Q) := sw_A_step (cc := cX11_estimate) rfl dX11_estimate_76 rfl ls st H Q
theorem r92_79 : sw_A 92 79 ls st H Q = (sw_A 92 25 ls st H Q) := sw_A_step (cc := cX11_estimate) rfl dX11_estimate_79 rfl ls st H Q
theorem r92_82 : sw_A 92 82 ls st H Q = (sw_ldi False ls 4 fun x => sw_A 92 84 ls (.int x :: st) H Q) := sw_A_step (cc := cX11_estimate) rfl dX11_estimate_82 rfl ls st H Q
theorem r92_84 : sw_A 92 84 ls st H Q = (match st with | [.int x] => Q (some (some (.int x))) H | _ => False) := sw_A_step (cc := cX11_estimate) rfl dX11_estimate_84 rfl ls st H Q
theorem r93_0 : sw_A 93 0 ls st H Q = (sw_ldi False ls 0 fun x => sw_A 93 1 ls (.int x :: st) H Q) := sw_A_step (cc := cX11_scaledOnce) rfl dX11_scaledOnce_0 rfl ls st H Q
theorem r93_1 : sw_A 93 1 ls st H Q = (sw_i1 False st fun x r => sw_A 93 2 ls (.long x.toInt64 :: r) H Q) := sw_A_step (cc := cX11_scaledOnce) rfl dX11_scaledOnce_1 rfl ls st H Q
theorem r93_2 : sw_A 93 2 ls st H Q = (sw_has1 False ls 2 (sw_l1 False st fun x r => sw_A 93 3 (sw_set2 ls 1 (.long x)) r H Q)) := sw_A_step (cc := cX11_scaledOnce) rfl dX11_scaledOnce_2 rfl ls st H Q
theorem r93_3 : sw_A 93 3 ls st H Q = (sw_A 93 6 ls (.long (Int64.ofInt 1000) :: st) H Q) := sw_A_step (cc := cX11_scaledOnce) rfl dX11_scaledOnce_3 rfl ls st H Q
theorem r93_6 : sw_A 93 6 ls st H Q = (sw_ldl False ls 1 fun x => sw_A 93 7 ls (.long x :: st) H Q) := sw_A_step (cc := cX11_scaledOnce) rfl dX11_scaledOnce_6 rfl ls st H Q
theorem r93_7 : sw_A 93 7 ls st H Q = (sw_l2 False st fun x y r => sw_A 93 8 ls (.long (x - y) :: r) H Q) := sw_A_step (cc := cX11_scaledOnce) rfl dX11_scaledOnce_7 rfl ls st H Q
theorem r93_8 : sw_A 93 8 ls st H Q = (sw_has1 False ls 4 (sw_l1 False st fun x r => sw_A 93 9 (sw_set2 ls 3 (.long x)) r H Q)) := sw_A_step (cc := cX11_scaledOnce) rfl dX11_scaledOnce_8 rfl ls st H Q
theorem r93_9 : sw_A 93 9 ls st H Q = (sw_ldl False ls 1 fun x => sw_A 93 10 ls (.long x :: st) H Q) := sw_A_step (cc := cX11_scaledOnce) rfl dX11_scaledOnce_9 rfl ls st H Q
theorem r93_10 : sw_A 93 10 ls st H Q = (sw_ldl False ls 1 fun x => sw_A 93 11 ls (.long x :: st) H Q) := sw_A_step (cc := cX11_scaledOnce) rfl dX11_scaledOnce_10 rfl ls st H Q
theorem r93_11 : sw_A 93 11 ls st H Q = (sw_l2 False st fun x y r => sw_A 93 12 ls (.long (x * y) :: r) H Q) := sw_A_step (cc := cX11_scaledOnce) rfl dX11_scaledOnce_11 rfl ls st H Q
theorem r93_12 : sw_A 93 12 ls st H Q = (sw_ldl False ls 1 fun x => sw_A 93 13 ls (.long x :: st) H Q) := sw_A_step (cc := cX11_scaledOnce) rfl dX11_scaledOnce_12 rfl ls st H Q
theorem r93_13 : sw_A 93 13 ls st H Q = (sw_l2 False st fun x y r => sw_A 93 14 ls (.long (x * y) :: r) H Q) := sw_A_step (cc := cX11_scaledOnce) rfl dX11_scaledOnce_13 rfl ls st H Q
theorem r93_14 : sw_A 93 14 ls st H Q = (sw_ldl False ls 1 fun x => sw_A 93 15 ls (.long x :: st) H Q) := sw_A_step (cc := cX11_scaledOnce) rfl dX11_scaledOnce_14 rfl ls st H Q
theorem r93_15 : sw_A 93 15 ls st H Q = (sw_l2 False st fun x y r => sw_A 93 16 ls (.long (x * y) :: r) H Q) := sw_A_step (cc := cX11_scaledOnce) rfl dX11_scaledOnce_15 rfl ls st H Q
theorem r93_16 : sw_A 93 16 ls st H Q = (sw_A 93 19 ls (.long (Int64.ofInt 4) :: st) H Q) := sw_A_step (cc := cX11_scaledOnce) rfl dX11_scaledOnce_16 rfl ls st H Q
theorem r93_19 : sw_A 93 19 ls st H Q = (sw_ldl False ls 1 fun x => sw_A 93 20 ls (.long x :: st) H Q) := sw_A_step (cc := cX11_scaledOnce) rfl dX11_scaledOnce_19 rfl ls st H Q
theorem r93_20 : sw_A 93 20 ls st H Q = (sw_l2 False st fun x y r => sw_A 93 21 ls (.long (x * y) :: r) H Q) := sw_A_step (cc := cX11_scaledOnce) rfl dX11_scaledOnce_20 rfl ls st H Q
theorem r93_21 : sw_A 93 21 ls st H Q = (sw_ldl False ls 1 fun x => sw_A 93 22 ls (.long x :: st) H Q) := sw_A_step (cc := cX11_scaledOnce) rfl dX11_scaledOnce_21 rfl ls st H Q
theorem r93_22 : sw_A 93 22 ls st H Q = (sw_l2 False st fun x y r => sw_A 93 23 ls (.long (x * y) :: r) H Q) := sw_A_step (cc := cX11_scaledOnce) rfl dX11_scaledOnce_22 rfl ls st H Q
theorem r93_23 : sw_A 93 23 ls st H Q = (sw_ldl False ls 1 fun x => sw_A 93 24 ls (.long x :: st) H Q) := sw_A_step (cc := cX11_scaledOnce) rfl dX11_scaledOnce_23 rfl ls st H Q
theorem r93_24 : sw_A 93 24 ls st H Q = (sw_l2 False st fun x y r => sw_A 93 25 ls (.long (x * y) :: r) H Q) := sw_A_step (cc := cX11_scaledOnce) rfl dX11_scaledOnce_24 rfl ls st H Q
theorem r93_25 : sw_A 93 25 ls st H Q = (sw_ldl False ls 3 fun x => sw_A 93 26 ls (.long x :: st) H Q) := sw_A_step (cc := cX11_scaledOnce) rfl dX11_scaledOnce_25 rfl ls st H Q
theorem r93_26 : sw_A 93 26 ls st H Q = (sw_l2 False st fun x y r => sw_A 93 27 ls (.long (x * y) :: r) H Q) := sw_A_step (cc := cX11_scaledOnce) rfl dX11_scaledOnce_26 rfl ls st H Q
theorem r93_27 : sw_A 93 27 ls st H Q = (sw_l2 False st fun x y r => sw_A 93 28 ls (.long (x + y) :: r) H Q) := sw_A_step (cc := cX11_scaledOnce) rfl dX11_scaledOnce_27 rfl ls st H Q
theorem r93_28 : sw_A 93 28 ls st H Q = (sw_A 93 31 ls (.long (Int64.ofInt 2) :: st) H Q) := sw_A_step (cc := cX11_scaledOnce) rfl dX11_scaledOnce_28 rfl ls st H Q
theorem r93_31 : sw_A 93 31 ls st H Q = (sw_ldl False ls 1 fun x => sw_A 93 32 ls (.long x :: st) H Q) := sw_A_step (cc := cX11_scaledOnce) rfl dX11_scaledOnce_31 rfl ls st H Q
theorem r93_32 : sw_A 93 32 ls st H Q = (sw_l2 False st fun x y r => sw_A 93 33 ls (.long (x * y) :: r) H Q) := sw_A_step (cc := cX11_scaledOnce) rfl dX11_scaledOnce_32 rfl ls st H Q
theorem r93_33 : sw_A 93 33 ls st H Q = (sw_ldl False ls 1 fun x => sw_A 93 34 ls (.long x :: st) H Q) := sw_A_step (cc := cX11_scaledOnce) rfl dX11_scaledOnce_33 rfl ls st H Q
theorem r93_34 : sw_A 93 34 ls st H Q = (sw_l2 False st fun x y r => sw_A 93 35 ls (.long (x * y) :: r) H Q) := sw_A_step (cc := cX11_scaledOnce) rfl dX11_scaledOnce_34 rfl ls st H Q
theorem r93_35 : sw_A 93 35 ls st H Q = (sw_ldl False ls 3 fun x => sw_A 93 36 ls (.long x :: st) H Q) := sw_A_step (cc := cX11_scaledOnce) rfl dX11_scaledOnce_35 rfl ls st H Q
theorem r93_36 : sw_A 93 36 ls st H Q = (sw_l2 False st fun x y r => sw_A 93 37 ls (.long (x * y) :: r) H Q) := sw_A_step (cc := cX11_scaledOnce) rfl dX11_scaledOnce_36 rfl ls st H Q
theorem r93_37 : sw_A 93 37 ls st H Q = (sw_ldl False ls 3 fun x => sw_A 93 38 ls (.long x :: st) H Q) := sw_A_step (cc := cX11_scaledOnce) rfl dX11_scaledOnce_37 rfl ls st H Q
theorem r93_38 : sw_A 93 38 ls st H Q = (sw_l2 False st fun x y r => sw_A 93 39 ls (.long (x * y) :: r) H Q) := sw_A_step (cc := cX11_scaledOnce) rfl dX11_scaledOnce_38 rfl ls st H Q
theorem r93_39 : sw_A 93 39 ls st H Q = (sw_l2 False st fun x y r => sw_A 93 40 ls (.long (x + y) :: r) H Q) := sw_A_step (cc := cX11_scaledOnce) rfl dX11_scaledOnce_39 rfl ls st H Q
theorem r93_40 : sw_A 93 40 ls st H Q = (sw_A 93 43 ls (.long (Int64.ofInt 1000000000) :: st) H Q) := sw_A_step (cc := cX11_scaledOnce) rfl dX11_scaledOnce_40 rfl ls st H Q
theorem r93_43 : sw_A 93 43 ls st H Q = (sw_l2 False st fun x y r => if y = 0 then False else sw_A 93 44 ls (.long (x / y) :: r) H Q) := sw_A_step (cc := cX11_scaledOnce) rfl dX11_scaledOnce_43 rfl ls st H Q
theorem r93_44 : sw_A 93 44 ls st H Q = (sw_l1 False st fun x r => sw_A 93 45 ls (.int x.toInt32 :: r) H Q) := sw_A_step (cc := cX11_scaledOnce) rfl dX11_scaledOnce_44 rfl ls st H Q
theorem r93_45 : sw_A 93 45 ls st H Q = (match st with | [.int x] => Q (some (some (.int x))) H | _ => False) := sw_A_step (cc := cX11_scaledOnce) rfl dX11_scaledOnce_45 rfl ls st H Q
theorem r94_0 : sw_A 94 0 ls st H Q = (sw_ldi False ls 1 fun x => sw_A 94 1 ls (.int x :: st) H Q) := sw_A_step (cc := cX11_scale) rfl dX11_scale_0 rfl ls st H Q
theorem r94_1 : sw_A 94 1 ls st H Q = (sw_A 94 2 ls (.int (Int32.ofInt 0) :: st) H Q) := sw_A_step (cc := cX11_scale) rfl dX11_scale_1 rfl ls st H Q
theorem r94_2 : sw_A 94 2 ls st H Q = (sw_A 94 5 ls (.int (Int32.ofInt 1000) :: st) H Q) := sw_A_step (cc := cX11_scale) rfl dX11_scale_2 rfl ls st H Q
theorem r94_5 : sw_A 94 5 ls st H Q = (sw_pop False 3 st [] fun args r => sw_ck False r (sw_M 17 args H (sw_K 94 8 none ls r Q))) := sw_A_step (cc := cX11_scale) rfl dX11_scale_5 rfl ls st H Q
theorem r94_8 : sw_A 94 8 ls st H Q = (sw_ldi False ls 2 fun x => sw_A 94 9 ls (.int x :: st) H Q) := sw_A_step (cc := cX11_scale) rfl dX11_scale_8 rfl ls st H Q
theorem r94_9 : sw_A 94 9 ls st H Q = (sw_A 94 10 ls (.int (Int32.ofInt 0) :: st) H Q) := sw_A_step (cc := cX11_scale) rfl dX11_scale_9 rfl ls st H Q
theorem r94_10 : sw_A 94 10 ls st H Q = (sw_A 94 12 ls (.int (Int32.ofInt 50) :: st) H Q) := sw_A_step (cc := cX11_scale) rfl dX11_scale_10 rfl ls st H Q
theorem r94_12 : sw_A 94 12 ls st H Q = (sw_pop False 3 st [] fun args r => sw_ck False r (sw_M 17 args H (sw_K 94 15 none ls r Q))) := sw_A_step (cc := cX11_scale) rfl dX11_scale_12 rfl ls st H Q
theorem r94_15 : sw_A 94 15 ls st H Q = (sw_ldi False ls 1 fun x => sw_A 94 16 ls (.int x :: st) H Q) := sw_A_step (cc := cX11_scale) rfl dX11_scale_15 rfl ls st H Q
theorem r94_16 : sw_A 94 16 ls st H Q = (sw_has1 False ls 3 (sw_i1 False st fun x r => sw_A 94 17 (sw_set1 ls 3 (.int x)) r H Q)) := sw_A_step (cc := cX11_scale) rfl dX11_scale_16 rfl ls st H Q
theorem r94_17 : sw_A 94 17 ls st H Q = (sw_A 94 18 ls (.int (Int32.ofInt 0) :: st) H Q) := sw_A_step (cc := cX11_scale) rfl dX11_scale_17 rfl ls st H Q
theorem r94_18 : sw_A 94 18 ls st H Q = (sw_has1 False ls 4 (sw_i1 False st fun x r => sw_A 94 20 (sw_set1 ls 4 (.int x)) r H Q)) := sw_A_step (cc := cX11_scale) rfl dX11_scale_18 rfl ls st H Q
theorem r94_20 : sw_A 94 20 ls st H Q = (sw_ldi False ls 4 fun x => sw_A 94 22 ls (.int x :: st) H Q) := sw_A_step (cc := cX11_scale) rfl dX11_scale_20 rfl ls st H Q
theorem r94_22 : sw_A 94 22 ls st H Q = (sw_ldi False ls 2 fun x => sw_A 94 23 ls (.int x :: st) H Q) := sw_A_step (cc := cX11_scale) rfl dX11_scale_22 rfl ls st H Q
theorem r94_23 : sw_A 94 23 ls st H Q = (sw_i2 False st fun x y r => if y ≤ x then sw_A 94 37 ls r H Q else sw_A 94 26 ls r H Q) := sw_A_step (cc := cX11_scale) rfl dX11_scale_23 rfl ls st H Q
theorem r94_26 : sw_A 94 26 ls st H Q = (sw_ldi False ls 3 fun x => sw_A 94 27 ls (.int x :: st) H Q) := sw_A_step (cc := cX11_scale) rfl dX11_scale_26 rfl ls st H Q
theorem r94_27 : sw_A 94 27 ls st H Q = (sw_pop False 1 st [] fun args r => sw_ck False r (sw_M 93 args H (sw_K 94 30 none ls r Q))) := sw_A_step (cc := cX11_scale) rfl dX11_scale_27 rfl ls st H Q
theorem r94_30 : sw_A 94 30 ls st H Q = (sw_has1 False ls 3 (sw_i1 False st fun x r => sw_A 94 31 (sw_set1 ls 3 (.int x)) r H Q)) := sw_A_step (cc := cX11_scale) rfl dX11_scale_30 rfl ls st H Q
theorem r94_31 : sw_A 94 31 ls st H Q = (sw_ldi False ls 4 fun x => sw_A 94 34 (sw_set1 ls 4 (.int (x + Int32.ofInt 1))) st H Q) := sw_A_step (cc := cX11_scale) rfl dX11_scale_31 rfl ls st H Q
theorem r94_34 : sw_A 94 34 ls st H Q = (sw_A 94 20 ls st H Q) := sw_A_step (cc := cX11_scale) rfl dX11_scale_34 rfl ls st H Q
theorem r94_37 : sw_A 94 37 ls st H Q = (sw_ldi False ls 3 fun x => sw_A 94 38 ls (.int x :: st) H Q) := sw_A_step (cc := cX11_scale) rfl dX11_scale_37 rfl ls st H Q
theorem r94_38 : sw_A 94 38 ls st H Q = (match st with | [.int x] => Q (some (some (.int x))) H | _ => False) := sw_A_step (cc := cX11_scale) rfl dX11_scale_38 rfl ls st H Q
theorem r95_0 : sw_A 95 0 ls st H Q = (sw_ldi False ls 1 fun x => sw_A 95 1 ls (.int x :: st) H Q) := sw_A_step (cc := cX11_openAt) rfl dX11_openAt_0 rfl ls st H Q
theorem r95_1 : sw_A 95 1 ls st H Q = (sw_pop False 1 st [] fun args r => sw_ck False r (sw_M 84 args H (sw_K 95 4 none ls r Q))) := sw_A_step (cc := cX11_openAt) rfl dX11_openAt_1 rfl ls st H Q
theorem r95_4 : sw_A 95 4 ls st H Q = (sw_ldi False ls 2 fun x => sw_A 95 5 ls (.int x :: st) H Q) := sw_A_step (cc := cX11_openAt) rfl dX11_openAt_4 rfl ls st H Q
theorem r95_5 : sw_A 95 5 ls st H Q = (sw_A 95 6 ls (.int (Int32.ofInt 0) :: st) H Q) := sw_A_step (cc := cX11_openAt) rfl dX11_openAt_5 rfl ls st H Q
theorem r95_6 : sw_A 95 6 ls st H Q = (sw_A 95 9 ls (.int (Int32.ofInt 1000) :: st) H Q) := sw_A_step (cc := cX11_openAt) rfl dX11_openAt_6 rfl ls st H Q
theorem r95_9 : sw_A 95 9 ls st H Q = (sw_pop False 3 st [] fun args r => sw_ck False r (sw_M 17 args H (sw_K 95 12 none ls r Q))) := sw_A_step (cc := cX11_openAt) rfl dX11_openAt_9 rfl ls st H Q
theorem r95_12 : sw_A 95 12 ls st H Q = (sw_lda False ls 0 fun x => sw_A 95 13 ls (.ref x :: st) H Q) := sw_A_step (cc := cX11_openAt) rfl dX11_openAt_12 rfl ls st H Q
theorem r95_13 : sw_A 95 13 ls st H Q = (sw_r1 False st fun a r => sw_gf False H (some (11, 3, 1)) a fun v => sw_A 95 16 ls (v :: r) H Q) := sw_A_step (cc := cX11_openAt) rfl dX11_openAt_13 rfl ls st H Q
theorem r95_16 : sw_A 95 16 ls st H Q = (sw_lda False ls 0 fun x => sw_A 95 17 ls (.ref x :: st) H Q) := sw_A_step (cc := cX11_openAt) rfl dX11_openAt_16 rfl ls st H Q
theorem r95_17 : sw_A 95 17 ls st H Q = (sw_r1 False st fun a r => sw_gf False H (some (11, 0, 1)) a fun v => sw_A 95 20 ls (v :: r) H Q) := sw_A_step (cc := cX11_openAt) rfl dX11_openAt_17 rfl ls st H Q
theorem r95_20 : sw_A 95 20 ls st H Q = (sw_lda False ls 0 fun x => sw_A 95 21 ls (.ref x :: st) H Q) := sw_A_step (cc := cX11_openAt) rfl dX11_openAt_20 rfl ls st H Q
theorem r95_21 : sw_A 95 21 ls st H Q = (sw_r1 False st fun a r => sw_gf False H (some (11, 2, 1)) a fun v => sw_A 95 24 ls (v :: r) H Q) := sw_A_step (cc := cX11_openAt) rfl dX11_openAt_21 rfl ls st H Q
theorem r95_24 : sw_A 95 24 ls st H Q = (sw_r1 False st fun a r => sw_gf False H (some (7, 0, 3)) a fun v => sw_A 95 27 ls (v :: r) H Q) := sw_A_step (cc := cX11_openAt) rfl dX11_openAt_24 rfl ls st H Q
theorem r95_27 : sw_A 95 27 ls st H Q = (sw_ldi False ls 1 fun x => sw_A 95 28 ls (.int x :: st) H Q) := sw_A_step (cc := cX11_openAt) rfl dX11_openAt_27 rfl ls st H Q
theorem r95_28 : sw_A 95 28 ls st H Q = (sw_ldi False ls 2 fun x => sw_A 95 29 ls (.int x :: st) H Q) := sw_A_step (cc := cX11_openAt) rfl dX11_openAt_28 rfl ls st H Q
theorem r95_29 : sw_A 95 29 ls st H Q = (sw_pop False 5 st [] fun args r => sw_ck False r (sw_rc False H (some 9) args (sw_M 87 args H (sw_K 95 32 none ls r Q)))) := sw_A_step (cc := cX11_openAt) rfl dX11_openAt_29 rfl ls st H Q
theorem r95_32 : sw_A 95 32 ls st H Q = (match st with | [] => Q (some none) H | _ => False) := sw_A_step (cc := cX11_openAt) rfl dX11_openAt_32 rfl ls st H Q
theorem r96_0 : sw_A 96 0 ls st H Q = (sw_lda False ls 0 fun x => sw_A 96 1 ls (.ref x :: st) H Q) := sw_A_step (cc := cX11_spans) rfl dX11_spans_0 rfl ls st H Q
theorem r96_1 : sw_A 96 1 ls st H Q = (sw_ldi False ls 1 fun x => sw_A 96 2 ls (.int x :: st) H Q) := sw_A_step (cc := cX11_spans) rfl dX11_spans_1 rfl ls st H Q
theorem r96_2 : sw_A 96 2 ls st H Q = (sw_ldi False ls 2 fun x => sw_A 96 3 ls (.int x :: st) H Q) := sw_A_step (cc := cX11_spans) rfl dX11_spans_2 rfl ls st H Q
theorem r96_3 : sw_A 96 3 ls st H Q = (sw_pop False 3 st [] fun args r => sw_ck False r (sw_rc False H (some 11) args (sw_M 95 args H (sw_K 96 6 none ls r Q)))) := sw_A_step (cc := cX11_spans) rfl dX11_spans_3 rfl ls st H Q
theorem r96_6 : sw_A 96 6 ls st H Q = (sw_lda False ls 0 fun x => sw_A 96 7 ls (.ref x :: st) H Q) := sw_A_step (cc := cX11_spans) rfl dX11_spans_6 rfl ls st H Q
theorem r96_7 : sw_A 96 7 ls st H Q = (sw_r1 False st fun a r => sw_gf False H (some (11, 3, 1)) a fun v => sw_A 96 10 ls (v :: r) H Q) := sw_A_step (cc := cX11_spans) rfl dX11_spans_7 rfl ls st H Q
theorem r96_10 : sw_A 96 10 ls st H Q = (sw_ldi False ls 3 fun x => sw_A 96 11 ls (.int x :: st) H Q) := sw_A_step (cc := cX11_spans) rfl dX11_spans_10 rfl ls st H Q
theorem r96_11 : sw_A 96 11 ls st H Q = (sw_i1 False st fun x r => if x = 0 then sw_A 96 18 ls r H Q else sw_A 96 14 ls r H Q) := sw_A_step (cc := cX11_spans) rfl dX11_spans_11 rfl ls st H Q
theorem r96_14 : sw_A 96 14 ls st H Q = (sw_A 96 15 ls (.int (Int32.ofInt 0) :: st) H Q) := sw_A_step (cc := cX11_spans) rfl dX11_spans_14 rfl ls st H Q
theorem r96_15 : sw_A 96 15 ls st H Q = (sw_A 96 19 ls st H Q) := sw_A_step (cc := cX11_spans) rfl dX11_spans_15 rfl ls st H Q
theorem r96_18 : sw_A 96 18 ls st H Q = (sw_A 96 19 ls (.int (Int32.ofInt 1) :: st) H Q) := sw_A_step (cc := cX11_spans) rfl dX11_spans_18 rfl ls st H Q
theorem r96_19 : sw_A 96 19 ls st H Q = (sw_ldi False ls 3 fun x => sw_A 96 20 ls (.int x :: st) H Q) := sw_A_step (cc := cX11_spans) rfl dX11_spans_19 rfl ls st H Q
theorem r96_20 : sw_A 96 20 ls st H Q = (sw_i1 False st fun x r => if x = 0 then sw_A 96 27 ls r H Q else sw_A 96 23 ls r H Q) := sw_A_step (cc := cX11_spans) rfl dX11_spans_20 rfl ls st H Q
theorem r96_23 : sw_A 96 23 ls st H Q = (sw_A 96 24 ls (.int (Int32.ofInt 3) :: st) H Q) := sw_A_step (cc := cX11_spans) rfl dX11_spans_23 rfl ls st H Q
theorem r96_24 : sw_A 96 24 ls st H Q = (sw_A 96 28 ls st H Q) := sw_A_step (cc := cX11_spans) rfl dX11_spans_24 rfl ls st H Q
theorem r96_27 : sw_A 96 27 ls st H Q = (sw_A 96 28 ls (.int (Int32.ofInt 2) :: st) H Q) := sw_A_step (cc := cX11_spans) rfl dX11_spans_27 rfl ls st H Q
theorem r96_28 : sw_A 96 28 ls st H Q = (sw_pop False 3 st [] fun args r => sw_ck False r (sw_rc False H (some 9) args (sw_M 91 args H (sw_K 96 31 none ls r Q)))) := sw_A_step (cc := cX11_spans) rfl dX11_spans_28 rfl ls st H Q
theorem r96_31 : sw_A 96 31 ls st H Q = (sw_A 96 32 ls (.int (Int32.ofInt (-1)) :: st) H Q) := sw_A_step (cc := cX11_spans) rfl dX11_spans_31 rfl ls st H Q
theorem r96_32 : sw_A 96 32 ls st H Q = (sw_i2 False st fun x y r => if x = y then sw_A 96 39 ls r H Q else sw_A 96 35 ls r H Q) := sw_A_step (cc := cX11_spans) rfl dX11_spans_32 rfl ls st H Q
theorem r96_35 : sw_A 96 35 ls st H Q = (sw_A 96 36 ls (.int (Int32.ofInt 1) :: st) H Q) := sw_A_step (cc := cX11_spans) rfl dX11_spans_35 rfl ls st H Q
theorem r96_36 : sw_A 96 36 ls st H Q = (sw_A 96 40 ls st H Q) := sw_A_step (cc := cX11_spans) rfl dX11_spans_36 rfl ls st H Q
theorem r96_39 : sw_A 96 39 ls st H Q = (sw_A 96 40 ls (.int (Int32.ofInt 0) :: st) H Q) := sw_A_step (cc := cX11_spans) rfl dX11_spans_39 rfl ls st H Q
theorem r96_40 : sw_A 96 40 ls st H Q = (match st with | [.int x] => (if 2 = 1 ∨ 2 = 2 ∧ (x = 0 ∨ x = 1) then Q (some (some (.int x))) H else False) | _ => False) := sw_A_step (cc := cX11_spans) rfl dX11_spans_40 rfl ls st H Q
theorem r97_0 : sw_A 97 0 ls st H Q = (sw_lda False ls 0 fun x => sw_A 97 1 ls (.ref x :: st) H Q) := sw_A_step (cc := cX9_walkFrom) rfl dX9_walkFrom_0 rfl ls st H Q
theorem r97_1 : sw_A 97 1 ls st H Q = (sw_r1 False st fun a r => sw_gf False H (some (9, 3, 1)) a fun v => sw_A 97 4 ls (v :: r) H Q) := sw_A_step (cc := cX9_walkFrom) rfl dX9_walkFrom_1 rfl ls st H Q
theorem r97_4 : sw_A 97 4 ls st H Q = (sw_pop False 1 st [] fun args r => sw_ck False r (sw_rc False H (some 10) args (sw_M 49 args H (sw_K 97 7 none ls r Q)))) := sw_A_step (cc := cX9_walkFrom) rfl dX9_walkFrom_4 rfl ls st H Q
theorem r97_7 : sw_A 97 7 ls st H Q = (sw_lda False ls 0 fun x => sw_A 97 8 ls (.ref x :: st) H Q) := sw_A_step (cc := cX9_walkFrom) rfl dX9_walkFrom_7 rfl ls st H Q
theorem r97_8 : sw_A 97 8 ls st H Q = (sw_r1 False st fun a r => sw_gf False H (some (9, 2, 1)) a fun v => sw_A 97 11 ls (v :: r) H Q) := sw_A_step (cc := cX9_walkFrom) rfl dX9_walkFrom_8 rfl ls st H Q
theorem r97_11 : sw_A 97 11 ls st H Q = (sw_ldi False ls 1 fun x => sw_A 97 12 ls (.int x :: st) H Q) := sw_A_step (cc := cX9_walkFrom) rfl dX9_walkFrom_11 rfl ls st H Q
theorem r97_12 : sw_A 97 12 ls st H Q = (sw_A 97 13 ls (.int (Int32.ofInt 0) :: st) H Q) := sw_A_step (cc := cX9_walkFrom) rfl dX9_walkFrom_12 rfl ls st H Q
theorem r97_13 : sw_A 97 13 ls st H Q = (sw_rix False st fun a i x r => sw_ast False H 0 a i x fun H1 => sw_A 97 14 ls r H1 Q) := sw_A_step (cc := cX9_walkFrom) rfl dX9_walkFrom_13 rfl ls st H Q
theorem r97_14 : sw_A 97 14 ls st H Q = (sw_lda False ls 0 fun x => sw_A 97 15 ls (.ref x :: st) H Q) := sw_A_step (cc := cX9_walkFrom) rfl dX9_walkFrom_14 rfl ls st H Q
theorem r97_15 : sw_A 97 15 ls st H Q = (sw_r1 False st fun a r => sw_gf False H (some (9, 3, 1)) a fun v => sw_A 97 18 ls (v :: r) H Q) := sw_A_step (cc := cX9_walkFrom) rfl dX9_walkFrom_15 rfl ls st H Q
theorem r97_18 : sw_A 97 18 ls st H Q = (sw_ldi False ls 1 fun x => sw_A 97 19 ls (.int x :: st) H Q) := sw_A_step (cc := cX9_walkFrom) rfl dX9_walkFrom_18 rfl ls st H Q
theorem r97_19 : sw_A 97 19 ls st H Q = (sw_pop False 2 st [] fun args r => sw_ck False r (sw_rc False H (some 10) args (sw_M 50 args H (sw_K 97 22 none ls r Q)))) := sw_A_step (cc := cX9_walkFrom) rfl dX9_walkFrom_19 rfl ls st H Q
theorem r97_22 : sw_A 97 22 ls st H Q = (sw_lda False ls 0 fun x => sw_A 97 23 ls (.ref x :: st) H Q) := sw_A_step (cc := cX9_walkFrom) rfl dX9_walkFrom_22 rfl ls st H Q
theorem r97_23 : sw_A 97 23 ls st H Q = (sw_pop False 1 st [] fun args r => sw_ck False r (sw_rc False H (some 9) args (sw_M 90 args H (sw_K 97 26 none ls r Q)))) := sw_A_step (cc := cX9_walkFrom) rfl dX9_walkFrom_23 rfl ls st H Q
theorem r97_26 : sw_A 97 26 ls st H Q = (sw_lda False ls 0 fun x => sw_A 97 27 ls (.ref x :: st) H Q) := sw_A_step (cc := cX9_walkFrom) rfl dX9_walkFrom_26 rfl ls st H Q
theorem r97_27 : sw_A 97 27 ls st H Q = (sw_r1 False st fun a r => sw_gf False H (some (9, 3, 1)) a fun v => sw_A 97 30 ls (v :: r) H Q) := sw_A_step (cc := cX9_walkFrom) rfl dX9_walkFrom_27 rfl ls st H Q
theorem r97_30 : sw_A 97 30 ls st H Q = (sw_r1 False st fun a r => sw_gf False H (some (10, 2, 3)) a fun v => sw_A 97 33 ls (v :: r) H Q) := sw_A_step (cc := cX9_walkFrom) rfl dX9_walkFrom_30 rfl ls st H Q
theorem r97_33 : sw_A 97 33 ls st H Q = (match st with | [.int x] => Q (some (some (.int x))) H | _ => False) := sw_A_step (cc := cX9_walkFrom) rfl dX9_walkFrom_33 rfl ls st H Q
theorem r98_0 : sw_A 98 0 ls st H Q = (sw_lda False ls 0 fun x => sw_A 98 1 ls (.ref x :: st) H Q) := sw_A_step (cc := cX9_lowestOfCluster) rfl dX9_lowestOfCluster_0 rfl ls st H Q
theorem r98_1 : sw_A 98 1 ls st H Q = (sw_r1 False st fun a r => sw_gf False H (some (9, 0, 1)) a fun v => sw_A 98 4 ls (v :: r) H Q) := sw_A_step (cc := cX9_lowestOfCluster) rfl dX9_lowestOfCluster_1 rfl ls st H Q
theorem r98_4 : sw_A 98 4 ls st H Q = (sw_ldi False ls 1 fun x => sw_A 98 5 ls (.int x :: st) H Q) := sw_A_step (cc := cX9_lowestOfCluster) rfl dX9_lowestOfCluster_4 rfl ls st H Q
theorem r98_5 : sw_A 98 5 ls st H Q = (sw_ri False st fun a i r => sw_ald False H 1 a i fun x => sw_A 98 6 ls (.int x :: r) H Q) := sw_A_step (cc := cX9_lowestOfCluster) rfl dX9_lowestOfCluster_5 rfl ls st H Q
theorem r98_6 : sw_A 98 6 ls st H Q = (sw_i1 False st fun x r => if ¬ x = 0 then sw_A 98 11 ls r H Q else sw_A 98 9 ls r H Q) := sw_A_step (cc := cX9_lowestOfCluster) rfl dX9_lowestOfCluster_6 rfl ls st H Q
theorem r98_9 : sw_A 98 9 ls st H Q = (sw_A 98 10 ls (.int (Int32.ofInt (-1)) :: st) H Q) := sw_A_step (cc := cX9_lowestOfCluster) rfl dX9_lowestOfCluster_9 rfl ls st H Q
theorem r98_10 : sw_A 98 10 ls st H Q = (match st with | [.int x] => Q (some (some (.int x))) H | _ => False) := sw_A_step (cc := cX9_lowestOfCluster) rfl dX9_lowestOfCluster_10 rfl ls st H Q
theorem r98_11 : sw_A 98 11 ls st H Q = (sw_lda False ls 0 fun x => sw_A 98 12 ls (.ref x :: st) H Q) := sw_A_step (cc := cX9_lowestOfCluster) rfl dX9_lowestOfCluster_11 rfl ls st H Q
theorem r98_12 : sw_A 98 12 ls st H Q = (sw_r1 False st fun a r => sw_gf False H (some (9, 2, 1)) a fun v => sw_A 98 15 ls (v :: r) H Q) := sw_A_step (cc := cX9_lowestOfCluster) rfl dX9_lowestOfCluster_12 rfl ls st H Q
theorem r98_15 : sw_A 98 15 ls st H Q = (sw_A 98 16 ls (.int (Int32.ofInt (-1)) :: st) H Q) := sw_A_step (cc := cX9_lowestOfCluster) rfl dX9_lowestOfCluster_15 rfl ls st H Q
theorem r98_16 : sw_A 98 16 ls st H Q = (sw_pop False 2 st [] fun args r => sw_ck False r (sw_M 9 args H (sw_K 98 19 none ls r Q))) := sw_A_step (cc := cX9_lowestOfCluster) rfl dX9_lowestOfCluster_16 rfl ls st H Q
theorem r98_19 : sw_A 98 19 ls st H Q = (sw_lda False ls 0 fun x => sw_A 98 20 ls (.ref x :: st) H Q) := sw_A_step (cc := cX9_lowestOfCluster) rfl dX9_lowestOfCluster_19 rfl ls st H Q
theorem r98_20 : sw_A 98 20 ls st H Q = (sw_ldi False ls 1 fun x => sw_A 98 21 ls (.int x :: st) H Q) := sw_A_step (cc := cX9_lowestOfCluster) rfl dX9_lowestOfCluster_20 rfl ls st H Q
theorem r98_21 : sw_A 98 21 ls st H Q = (sw_pop False 2 st [] fun args r => sw_ck False r (sw_rc False H (some 9) args (sw_M 97 args H (sw_K 98 24 none ls r Q)))) := sw_A_step (cc := cX9_lowestOfCluster) rfl dX9_lowestOfCluster_21 rfl ls st H Q
theorem r98_24 : sw_A 98 24 ls st H Q = (sw_i1 False st fun _ r => sw_A 98 25 ls r H Q) := sw_A_step (cc := cX9_lowestOfCluster) rfl dX9_lowestOfCluster_24 rfl ls st H Q
theorem r98_25 : sw_A 98 25 ls st H Q = (sw_A 98 26 ls (.int (Int32.ofInt 0) :: st) H Q) := sw_A_step (cc := cX9_lowestOfCluster) rfl dX9_lowestOfCluster_25 rfl ls st H Q
theorem r98_26 : sw_A 98 26 ls st H Q = (sw_has1 False ls 2 (sw_i1 False st fun x r => sw_A 98 27 (sw_set1 ls 2 (.int x)) r H Q)) := sw_A_step (cc := cX9_lowestOfCluster) rfl dX9_lowestOfCluster_26 rfl ls st H Q
theorem r98_27 : sw_A 98 27 ls st H Q = (sw_ldi False ls 2 fun x => sw_A 98 28 ls (.int x :: st) H Q) := sw_A_step (cc := cX9_lowestOfCluster) rfl dX9_lowestOfCluster_27 rfl ls st H Q
theorem r98_28 : sw_A 98 28 ls st H Q = (sw_ldi False ls 1 fun x => sw_A 98 29 ls (.int x :: st) H Q) := sw_A_step (cc := cX9_lowestOfCluster) rfl dX9_lowestOfCluster_28 rfl ls st H Q
theorem r98_29 : sw_A 98 29 ls st H Q = (sw_i2 False st fun x y r => if y ≤ x then sw_A 98 48 ls r H Q else sw_A 98 32 ls r H Q) := sw_A_step (cc := cX9_lowestOfCluster) rfl dX9_lowestOfCluster_29 rfl ls st H Q
theorem r98_32 : sw_A 98 32 ls st H Q = (sw_lda False ls 0 fun x => sw_A 98 33 ls (.ref x :: st) H Q) := sw_A_step (cc := cX9_lowestOfCluster) rfl dX9_lowestOfCluster_32 rfl ls st H Q
theorem r98_33 : sw_A 98 33 ls st H Q = (sw_r1 False st fun a r => sw_gf False H (some (9, 2, 1)) a fun v => sw_A 98 36 ls (v :: r) H Q) := sw_A_step (cc := cX9_lowestOfCluster) rfl dX9_lowestOfCluster_33 rfl ls st H Q
theorem r98_36 : sw_A 98 36 ls st H Q = (sw_ldi False ls 2 fun x => sw_A 98 37 ls (.int x :: st) H Q) := sw_A_step (cc := cX9_lowestOfCluster) rfl dX9_lowestOfCluster_36 rfl ls st H Q
theorem r98_37 : sw_A 98 37 ls st H Q = (sw_ri False st fun a i r => sw_ald False H 0 a i fun x => sw_A 98 38 ls (.int x :: r) H Q) := sw_A_step (cc := cX9_lowestOfCluster) rfl dX9_lowestOfCluster_37 rfl ls st H Q
theorem r98_38 : sw_A 98 38 ls st H Q = (sw_A 98 39 ls (.int (Int32.ofInt (-1)) :: st) H Q) := sw_A_step (cc := cX9_lowestOfCluster) rfl dX9_lowestOfCluster_38 rfl ls st H Q
theorem r98_39 : sw_A 98 39 ls st H Q = (sw_i2 False st fun x y r => if ¬ x = y then sw_A 98 48 ls r H Q else sw_A 98 42 ls r H Q) := sw_A_step (cc := cX9_lowestOfCluster) rfl dX9_lowestOfCluster_39 rfl ls st H Q
theorem r98_42 : sw_A 98 42 ls st H Q = (sw_ldi False ls 2 fun x => sw_A 98 45 (sw_set1 ls 2 (.int (x + Int32.ofInt 1))) st H Q) := sw_A_step (cc := cX9_lowestOfCluster) rfl dX9_lowestOfCluster_42 rfl ls st H Q
theorem r98_45 : sw_A 98 45 ls st H Q = (sw_A 98 27 ls st H Q) := sw_A_step (cc := cX9_lowestOfCluster) rfl dX9_lowestOfCluster_45 rfl ls st H Q
theorem r98_48 : sw_A 98 48 ls st H Q = (sw_ldi False ls 2 fun x => sw_A 98 49 ls (.int x :: st) H Q) := sw_A_step (cc := cX9_lowestOfCluster) rfl dX9_lowestOfCluster_48 rfl ls st H Q
theorem r98_49 : sw_A 98 49 ls st H Q = (match st with | [.int x] => Q (some (some (.int x))) H | _ => False) := sw_A_step (cc := cX9_lowestOfCluster) rfl dX9_lowestOfCluster_49 rfl ls st H Q
theorem r99_0 : sw_A 99 0 ls st H Q = (sw_ldi False ls 3 fun x => sw_A 99 1 ls (.int x :: st) H Q) := sw_A_step (cc := cX11_cluster) rfl dX11_cluster_0 rfl ls st H Q
theorem r99_1 : sw_A 99 1 ls st H Q = (sw_pop False 1 st [] fun args r => sw_ck False r (sw_M 25 args H (sw_K 99 4 none ls r Q))) := sw_A_step (cc := cX11_cluster) rfl dX11_cluster_1 rfl ls st H Q
theorem r99_4 : sw_A 99 4 ls st H Q = (sw_lda False ls 0 fun x => sw_A 99 5 ls (.ref x :: st) H Q) := sw_A_step (cc := cX11_cluster) rfl dX11_cluster_4 rfl ls st H Q
theorem r99_5 : sw_A 99 5 ls st H Q = (sw_ldi False ls 1 fun x => sw_A 99 6 ls (.int x :: st) H Q) := sw_A_step (cc := cX11_cluster) rfl dX11_cluster_5 rfl ls st H Q
theorem r99_6 : sw_A 99 6 ls st H Q = (sw_ldi False ls 2 fun x => sw_A 99 7 ls (.int x :: st) H Q) := sw_A_step (cc := cX11_cluster) rfl dX11_cluster_6 rfl ls st H Q
theorem r99_7 : sw_A 99 7 ls st H Q = (sw_pop False 3 st [] fun args r => sw_ck False r (sw_rc False H (some 11) args (sw_M 95 args H (sw_K 99 10 none ls r Q)))) := sw_A_step (cc := cX11_cluster) rfl dX11_cluster_7 rfl ls st H Q
theorem r99_10 : sw_A 99 10 ls st H Q = (sw_lda False ls 0 fun x => sw_A 99 11 ls (.ref x :: st) H Q) := sw_A_step (cc := cX11_cluster) rfl dX11_cluster_10 rfl ls st H Q
theorem r99_11 : sw_A 99 11 ls st H Q = (sw_r1 False st fun a r => sw_gf False H (some (11, 3, 1)) a fun v => sw_A 99 14 ls (v :: r) H Q) := sw_A_step (cc := cX11_cluster) rfl dX11_cluster_11 rfl ls st H Q
theorem r99_14 : sw_A 99 14 ls st H Q = (sw_ldi False ls 3 fun x => sw_A 99 15 ls (.int x :: st) H Q) := sw_A_step (cc := cX11_cluster) rfl dX11_cluster_14 rfl ls st H Q
theorem r99_15 : sw_A 99 15 ls st H Q = (sw_pop False 2 st [] fun args r => sw_ck False r (sw_rc False H (some 9) args (sw_M 98 args H (sw_K 99 18 none ls r Q)))) := sw_A_step (cc := cX11_cluster) rfl dX11_cluster_15 rfl ls st H Q
theorem r99_18 : sw_A 99 18 ls st H Q = (match st with | [.int x] => Q (some (some (.int x))) H | _ => False) := sw_A_step (cc := cX11_cluster) rfl dX11_cluster_18 rfl ls st H Q
theorem r100_0 : sw_A 100 0 ls st H Q = (sw_A 100 1 ls (.int (Int32.ofInt 0) :: st) H Q) := sw_A_step (cc := cL_lowest) rfl dL_lowest_0 rfl ls st H Q
theorem r100_1 : sw_A 100 1 ls st H Q = (sw_has1 False ls 2 (sw_i1 False st fun x r => sw_A 100 2 (sw_set1 ls 2 (.int x)) r H Q)) := sw_A_step (cc := cL_lowest) rfl dL_lowest_1 rfl ls st H Q
theorem r100_2 : sw_A 100 2 ls st H Q = (sw_ldi False ls 2 fun x => sw_A 100 3 ls (.int x :: st) H Q) := sw_A_step (cc := cL_lowest) rfl dL_lowest_2 rfl ls st H Q
theorem r100_3 : sw_A 100 3 ls st H Q = (sw_A 100 5 ls (.int (Int32.ofInt 36) :: st) H Q) := sw_A_step (cc := cL_lowest) rfl dL_lowest_3 rfl ls st H Q
theorem r100_5 : sw_A 100 5 ls st H Q = (sw_i2 False st fun x y r => if y ≤ x then sw_A 100 24 ls r H Q else sw_A 100 8 ls r H Q) := sw_A_step (cc := cL_lowest) rfl dL_lowest_5 rfl ls st H Q
theorem r100_8 : sw_A 100 8 ls st H Q = (sw_ldl False ls 0 fun x => sw_A 100 9 ls (.long x :: st) H Q) := sw_A_step (cc := cL_lowest) rfl dL_lowest_8 rfl ls st H Q
theorem r100_9 : sw_A 100 9 ls st H Q = (sw_ldi False ls 2 fun x => sw_A 100 10 ls (.int x :: st) H Q) := sw_A_step (cc := cL_lowest) rfl dL_lowest_9 rfl ls st H Q
theorem r100_10 : sw_A 100 10 ls st H Q = (sw_pop False 2 st [] fun args r => sw_ck False r (sw_M 30 args H (sw_K 100 13 none ls r Q))) := sw_A_step (cc := cL_lowest) rfl dL_lowest_10 rfl ls st H Q
theorem r100_13 : sw_A 100 13 ls st H Q = (sw_i1 False st fun x r => if x = 0 then sw_A 100 18 ls r H Q else sw_A 100 16 ls r H Q) := sw_A_step (cc := cL_lowest) rfl dL_lowest_13 rfl ls st H Q
theorem r100_16 : sw_A 100 16 ls st H Q = (sw_ldi False ls 2 fun x => sw_A 100 17 ls (.int x :: st) H Q) := sw_A_step (cc := cL_lowest) rfl dL_lowest_16 rfl ls st H Q
theorem r100_17 : sw_A 100 17 ls st H Q = (match st with | [.int x] => Q (some (some (.int x))) H | _ => False) := sw_A_step (cc := cL_lowest) rfl dL_lowest_17 rfl ls st H Q
theorem r100_18 : sw_A 100 18 ls st H Q = (sw_ldi False ls 2 fun x => sw_A 100 21 (sw_set1 ls 2 (.int (x + Int32.ofInt 1))) st H Q) := sw_A_step (cc := cL_lowest) rfl dL_lowest_18 rfl ls st H Q
theorem r100_21 : sw_A 100 21 ls st H Q = (sw_A 100 2 ls st H Q) := sw_A_step (cc := cL_lowest) rfl dL_lowest_21 rfl ls st H Q
theorem r100_24 : sw_A 100 24 ls st H Q = (sw_A 100 25 ls (.int (Int32.ofInt (-1)) :: st) H Q) := sw_A_step (cc := cL_lowest) rfl dL_lowest_24 rfl ls st H Q
theorem r100_25 : sw_A 100 25 ls st H Q = (match st with | [.int x] => Q (some (some (.int x))) H | _ => False) := sw_A_step (cc := cL_lowest) rfl dL_lowest_25 rfl ls st H Q
theorem r101_0 : sw_A 101 0 ls st H Q = (sw_lda False ls 0 fun x => sw_A 101 1 ls (.ref x :: st) H Q) := sw_A_step (cc := cX9_findClusters) rfl dX9_findClusters_0 rfl ls st H Q
theorem r101_1 : sw_A 101 1 ls st H Q = (sw_A 101 2 ls (.int (Int32.ofInt 0) :: st) H Q) := sw_A_step (cc := cX9_findClusters) rfl dX9_findClusters_1 rfl ls st H Q
theorem r101_2 : sw_A 101 2 ls st H Q = (sw_rv False st fun a v r => sw_pf False H (some (9, 4, 0)) 1 a v fun H1 => sw_A 101 5 ls r H1 Q) := sw_A_step (cc := cX9_findClusters) rfl dX9_findClusters_2 rfl ls st H Q
theorem r101_5 : sw_A 101 5 ls st H Q = (sw_lda False ls 0 fun x => sw_A 101 6 ls (.ref x :: st) H Q) := sw_A_step (cc := cX9_findClusters) rfl dX9_findClusters_5 rfl ls st H Q
theorem r101_6 : sw_A 101 6 ls st H Q = (sw_A 101 7 ls (.int (Int32.ofInt 0) :: st) H Q) := sw_A_step (cc := cX9_findClusters) rfl dX9_findClusters_6 rfl ls st H Q
theorem r101_7 : sw_A 101 7 ls st H Q = (sw_rv False st fun a v r => sw_pf False H (some (9, 5, 0)) 1 a v fun H1 => sw_A 101 10 ls r H1 Q) := sw_A_step (cc := cX9_findClusters) rfl dX9_findClusters_7 rfl ls st H Q
theorem r101_10 : sw_A 101 10 ls st H Q = (sw_lda False ls 0 fun x => sw_A 101 11 ls (.ref x :: st) H Q) := sw_A_step (cc := cX9_findClusters) rfl dX9_findClusters_10 rfl ls st H Q
theorem r101_11 : sw_A 101 11 ls st H Q = (sw_A 101 12 ls (.int (Int32.ofInt 0) :: st) H Q) := sw_A_step (cc := cX9_findClusters) rfl dX9_findClusters_11 rfl ls st H Q
theorem r101_12 : sw_A 101 12 ls st H Q = (sw_rv False st fun a v r => sw_pf False H (some (9, 6, 0)) 1 a v fun H1 => sw_A 101 15 ls r H1 Q) := sw_A_step (cc := cX9_findClusters) rfl dX9_findClusters_12 rfl ls st H Q
theorem r101_15 : sw_A 101 15 ls st H Q = (sw_lda False ls 0 fun x => sw_A 101 16 ls (.ref x :: st) H Q) := sw_A_step (cc := cX9_findClusters) rfl dX9_findClusters_15 rfl ls st H Q
theorem r101_16 : sw_A 101 16 ls st H Q = (sw_r1 False st fun a r => sw_gf False H (some (9, 2, 1)) a fun v => sw_A 101 19 ls (v :: r) H Q) := sw_A_step (cc := cX9_findClusters) rfl dX9_findClusters_16 rfl ls st H Q
theorem r101_19 : sw_A 101 19 ls st H Q = (sw_A 101 20 ls (.int (Int32.ofInt (-1)) :: st) H Q) := sw_A_step (cc := cX9_findClusters) rfl dX9_findClusters_19 rfl ls st H Q
theorem r101_20 : sw_A 101 20 ls st H Q = (sw_pop False 2 st [] fun args r => sw_ck False r (sw_M 9 args H (sw_K 101 23 none ls r Q))) := sw_A_step (cc := cX9_findClusters) rfl dX9_findClusters_20 rfl ls st H Q
theorem r101_23 : sw_A 101 23 ls st H Q = (sw_A 101 24 ls (.int (Int32.ofInt 0) :: st) H Q) := sw_A_step (cc := cX9_findClusters) rfl dX9_findClusters_23 rfl ls st H Q
theorem r101_24 : sw_A 101 24 ls st H Q = (sw_has1 False ls 1 (sw_i1 False st fun x r => sw_A 101 25 (sw_set1 ls 1 (.int x)) r H Q)) := sw_A_step (cc := cX9_findClusters) rfl dX9_findClusters_24 rfl ls st H Q
theorem r101_25 : sw_A 101 25 ls st H Q = (sw_ldi False ls 1 fun x => sw_A 101 26 ls (.int x :: st) H Q) := sw_A_step (cc := cX9_findClusters) rfl dX9_findClusters_25 rfl ls st H Q
theorem r101_26 : sw_A 101 26 ls st H Q = (sw_A 101 28 ls (.int (Int32.ofInt 36) :: st) H Q) := sw_A_step (cc := cX9_findClusters) rfl dX9_findClusters_26 rfl ls st H Q
theorem r101_28 : sw_A 101 28 ls st H Q = (sw_i2 False st fun x y r => if y ≤ x then sw_A 101 96 ls r H Q else sw_A 101 31 ls r H Q) := sw_A_step (cc := cX9_findClusters) rfl dX9_findClusters_28 rfl ls st H Q
theorem r101_31 : sw_A 101 31 ls st H Q = (sw_lda False ls 0 fun x => sw_A 101 32 ls (.ref x :: st) H Q) := sw_A_step (cc := cX9_findClusters) rfl dX9_findClusters_31 rfl ls st H Q
theorem r101_32 : sw_A 101 32 ls st H Q = (sw_r1 False st fun a r => sw_gf False H (some (9, 0, 1)) a fun v => sw_A 101 35 ls (v :: r) H Q) := sw_A_step (cc := cX9_findClusters) rfl dX9_findClusters_32 rfl ls st H Q
theorem r101_35 : sw_A 101 35 ls st H Q = (sw_ldi False ls 1 fun x => sw_A 101 36 ls (.int x :: st) H Q) := sw_A_step (cc := cX9_findClusters) rfl dX9_findClusters_35 rfl ls st H Q
theorem r101_36 : sw_A 101 36 ls st H Q = (sw_ri False st fun a i r => sw_ald False H 1 a i fun x => sw_A 101 37 ls (.int x :: r) H Q) := sw_A_step (cc := cX9_findClusters) rfl dX9_findClusters_36 rfl ls st H Q
theorem r101_37 : sw_A 101 37 ls st H Q = (sw_i1 False st fun x r => if x = 0 then sw_A 101 90 ls r H Q else sw_A 101 40 ls r H Q) := sw_A_step (cc := cX9_findClusters) rfl dX9_findClusters_37 rfl ls st H Q
theorem r101_40 : sw_A 101 40 ls st H Q = (sw_lda False ls 0 fun x => sw_A 101 41 ls (.ref x :: st) H Q) := sw_A_step (cc := cX9_findClusters) rfl dX9_findClusters_40 rfl ls st H Q
theorem r101_41 : sw_A 101 41 ls st H Q = (sw_r1 False st fun a r => sw_gf False H (some (9, 2, 1)) a fun v => sw_A 101 44 ls (v :: r) H Q) := sw_A_step (cc := cX9_findClusters) rfl dX9_findClusters_41 rfl ls st H Q
theorem r101_44 : sw_A 101 44 ls st H Q = (sw_ldi False ls 1 fun x => sw_A 101 45 ls (.int x :: st) H Q) := sw_A_step (cc := cX9_findClusters) rfl dX9_findClusters_44 rfl ls st H Q
theorem r101_45 : sw_A 101 45 ls st H Q = (sw_ri False st fun a i r => sw_ald False H 0 a i fun x => sw_A 101 46 ls (.int x :: r) H Q) := sw_A_step (cc := cX9_findClusters) rfl dX9_findClusters_45 rfl ls st H Q
theorem r101_46 : sw_A 101 46 ls st H Q = (sw_A 101 47 ls (.int (Int32.ofInt (-1)) :: st) H Q) := sw_A_step (cc := cX9_findClusters) rfl dX9_findClusters_46 rfl ls st H Q
theorem r101_47 : sw_A 101 47 ls st H Q = (sw_i2 False st fun x y r => if ¬ x = y then sw_A 101 90 ls r H Q else sw_A 101 50 ls r H Q) := sw_A_step (cc := cX9_findClusters) rfl dX9_findClusters_47 rfl ls st H Q
theorem r101_50 : sw_A 101 50 ls st H Q = (sw_lda False ls 0 fun x => sw_A 101 51 ls (.ref x :: st) H Q) := sw_A_step (cc := cX9_findClusters) rfl dX9_findClusters_50 rfl ls st H Q
theorem r101_51 : sw_A 101 51 ls st H Q = (sw_ldi False ls 1 fun x => sw_A 101 52 ls (.int x :: st) H Q) := sw_A_step (cc := cX9_findClusters) rfl dX9_findClusters_51 rfl ls st H Q
theorem r101_52 : sw_A 101 52 ls st H Q = (sw_pop False 2 st [] fun args r => sw_ck False r (sw_rc False H (some 9) args (sw_M 97 args H (sw_K 101 55 none ls r Q)))) := sw_A_step (cc := cX9_findClusters) rfl dX9_findClusters_52 rfl ls st H Q
theorem r101_55 : sw_A 101 55 ls st H Q = (sw_has1 False ls 2 (sw_i1 False st fun x r => sw_A 101 56 (sw_set1 ls 2 (.int x)) r H Q)) := sw_A_step (cc := cX9_findClusters) rfl dX9_findClusters_55 rfl ls st H Q
theorem r101_56 : sw_A 101 56 ls st H Q = (sw_lda False ls 0 fun x => sw_A 101 57 ls (.ref x :: st) H Q) := sw_A_step (cc := cX9_findClusters) rfl dX9_findClusters_56 rfl ls st H Q
theorem r101_57 : sw_A 101 57 ls st H Q = (sw_r1 False st fun a r => sw_A 101 58 ls (.ref a :: .ref a :: r) H Q) := sw_A_step (cc := cX9_findClusters) rfl dX9_findClusters_57 rfl ls st H Q
theorem r101_58 : sw_A 101 58 ls st H Q = (sw_r1 False st fun a r => sw_gf False H (some (9, 4, 0)) a fun v => sw_A 101 61 ls (v :: r) H Q) := sw_A_step (cc := cX9_findClusters) rfl dX9_findClusters_58 rfl ls st H Q
theorem r101_61 : sw_A 101 61 ls st H Q = (sw_A 101 62 ls (.int (Int32.ofInt 1) :: st) H Q) := sw_A_step (cc := cX9_findClusters) rfl dX9_findClusters_61 rfl ls st H Q
theorem r101_62 : sw_A 101 62 ls st H Q = (sw_i2 False st fun x y r => sw_A 101 63 ls (.int (x + y) :: r) H Q) := sw_A_step (cc := cX9_findClusters) rfl dX9_findClusters_62 rfl ls st H Q
theorem r101_63 : sw_A 101 63 ls st H Q = (sw_rv False st fun a v r => sw_pf False H (some (9, 4, 0)) 1 a v fun H1 => sw_A 101 66 ls r H1 Q) := sw_A_step (cc := cX9_findClusters) rfl dX9_findClusters_63 rfl ls st H Q
theorem r101_66 : sw_A 101 66 ls st H Q = (sw_lda False ls 0 fun x => sw_A 101 67 ls (.ref x :: st) H Q) := sw_A_step (cc := cX9_findClusters) rfl dX9_findClusters_66 rfl ls st H Q
theorem r101_67 : sw_A 101 67 ls st H Q = (sw_lda False ls 0 fun x => sw_A 101 68 ls (.ref x :: st) H Q) := sw_A_step (cc := cX9_findClusters) rfl dX9_findClusters_67 rfl ls st H Q
theorem r101_68 : sw_A 101 68 ls st H Q = (sw_r1 False st fun a r => sw_gf False H (some (9, 5, 0)) a fun v => sw_A 101 71 ls (v :: r) H Q) := sw_A_step (cc := cX9_findClusters) rfl dX9_findClusters_68 rfl ls st H Q
theorem r101_71 : sw_A 101 71 ls st H Q = (sw_ldi False ls 2 fun x => sw_A 101 72 ls (.int x :: st) H Q) := sw_A_step (cc := cX9_findClusters) rfl dX9_findClusters_71 rfl ls st H Q
theorem r101_72 : sw_A 101 72 ls st H Q = (sw_i2 False st fun x y r => sw_ck False r (sw_A 101 75 ls (.int (if x < y then y else x) :: r) H Q)) := sw_A_step (cc := cX9_findClusters) rfl dX9_findClusters_72 rfl ls st H Q
theorem r101_75 : sw_A 101 75 ls st H Q = (sw_rv False st fun a v r => sw_pf False H (some (9, 5, 0)) 1 a v fun H1 => sw_A 101 78 ls r H1 Q) := sw_A_step (cc := cX9_findClusters) rfl dX9_findClusters_75 rfl ls st H Q
theorem r101_78 : sw_A 101 78 ls st H Q = (sw_lda False ls 0 fun x => sw_A 101 79 ls (.ref x :: st) H Q) := sw_A_step (cc := cX9_findClusters) rfl dX9_findClusters_78 rfl ls st H Q
theorem r101_79 : sw_A 101 79 ls st H Q = (sw_r1 False st fun a r => sw_A 101 80 ls (.ref a :: .ref a :: r) H Q) := sw_A_step (cc := cX9_findClusters) rfl dX9_findClusters_79 rfl ls st H Q
theorem r101_80 : sw_A 101 80 ls st H Q = (sw_r1 False st fun a r => sw_gf False H (some (9, 6, 0)) a fun v => sw_A 101 83 ls (v :: r) H Q) := sw_A_step (cc := cX9_findClusters) rfl dX9_findClusters_80 rfl ls st H Q
theorem r101_83 : sw_A 101 83 ls st H Q = (sw_ldi False ls 2 fun x => sw_A 101 84 ls (.int x :: st) H Q) := sw_A_step (cc := cX9_findClusters) rfl dX9_findClusters_83 rfl ls st H Q
theorem r101_84 : sw_A 101 84 ls st H Q = (sw_ldi False ls 2 fun x => sw_A 101 85 ls (.int x :: st) H Q) := sw_A_step (cc := cX9_findClusters) rfl dX9_findClusters_84 rfl ls st H Q
theorem r101_85 : sw_A 101 85 ls st H Q = (sw_i2 False st fun x y r => sw_A 101 86 ls (.int (x * y) :: r) H Q) := sw_A_step (cc := cX9_findClusters) rfl dX9_findClusters_85 rfl ls st H Q
theorem r101_86 : sw_A 101 86 ls st H Q = (sw_i2 False st fun x y r => sw_A 101 87 ls (.int (x + y) :: r) H Q) := sw_A_step (cc := cX9_findClusters) rfl dX9_findClusters_86 rfl ls st H Q
theorem r101_87 : sw_A 101 87 ls st H Q = (sw_rv False st fun a v r => sw_pf False H (some (9, 6, 0)) 1 a v fun H1 => sw_A 101 90 ls r H1 Q) := sw_A_step (cc := cX9_findClusters) rfl dX9_findClusters_87 rfl ls st H Q
theorem r101_90 : sw_A 101 90 ls st H Q = (sw_ldi False ls 1 fun x => sw_A 101 93 (sw_set1 ls 1 (.int (x + Int32.ofInt 1))) st H Q) := sw_A_step (cc := cX9_findClusters) rfl dX9_findClusters_90 rfl ls st H Q
theorem r101_93 : sw_A 101 93 ls st H Q = (sw_A 101 25 ls st H Q) := sw_A_step (cc := cX9_findClusters) rfl dX9_findClusters_93 rfl ls st H Q
theorem r101_96 : sw_A 101 96 ls st H Q = (match st with | [] => Q (some none) H | _ => False) := sw_A_step (cc := cX9_findClusters) rfl dX9_findClusters_96 rfl ls st H Q
end sw_R
