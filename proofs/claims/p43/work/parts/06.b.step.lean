section sw_R
variable (ls : sw_LS) (st : List Value) (H : sw_HS) (Q : sw_Ot → sw_HS → Prop)
theorem r36_0 : sw_A 36 0 ls st H Q = (sw_ldi False ls 1 fun x => sw_A 36 1 ls (.int x :: st) H Q) := sw_A_step (cc := cX11_strike) rfl dX11_strike_0 rfl ls st H Q
theorem r36_1 : sw_A 36 1 ls st H Q = (sw_A 36 2 ls (.int (Int32.ofInt 0) :: st) H Q) := sw_A_step (cc := cX11_strike) rfl dX11_strike_1 rfl ls st H Q
theorem r36_2 : sw_A 36 2 ls st H Q = (sw_A 36 4 ls (.int (Int32.ofInt 36) :: st) H Q) := sw_A_step (cc := cX11_strike) rfl dX11_strike_2 rfl ls st H Q
theorem r36_4 : sw_A 36 4 ls st H Q = (sw_pop False 3 st [] fun args r => sw_ck False r (sw_M 17 args H (sw_K 36 7 none ls r Q))) := sw_A_step (cc := cX11_strike) rfl dX11_strike_4 rfl ls st H Q
theorem r36_7 : sw_A 36 7 ls st H Q = (sw_A 36 8 ls (.int (Int32.ofInt 0) :: st) H Q) := sw_A_step (cc := cX11_strike) rfl dX11_strike_7 rfl ls st H Q
theorem r36_8 : sw_A 36 8 ls st H Q = (sw_has1 False ls 2 (sw_i1 False st fun x r => sw_A 36 9 (sw_set1 ls 2 (.int x)) r H Q)) := sw_A_step (cc := cX11_strike) rfl dX11_strike_8 rfl ls st H Q
theorem r36_9 : sw_A 36 9 ls st H Q = (sw_ldi False ls 2 fun x => sw_A 36 10 ls (.int x :: st) H Q) := sw_A_step (cc := cX11_strike) rfl dX11_strike_9 rfl ls st H Q
theorem r36_10 : sw_A 36 10 ls st H Q = (sw_ldi False ls 1 fun x => sw_A 36 11 ls (.int x :: st) H Q) := sw_A_step (cc := cX11_strike) rfl dX11_strike_10 rfl ls st H Q
theorem r36_11 : sw_A 36 11 ls st H Q = (sw_i2 False st fun x y r => if y ≤ x then sw_A 36 41 ls r H Q else sw_A 36 14 ls r H Q) := sw_A_step (cc := cX11_strike) rfl dX11_strike_11 rfl ls st H Q
theorem r36_14 : sw_A 36 14 ls st H Q = (sw_lda False ls 0 fun x => sw_A 36 15 ls (.ref x :: st) H Q) := sw_A_step (cc := cX11_strike) rfl dX11_strike_14 rfl ls st H Q
theorem r36_15 : sw_A 36 15 ls st H Q = (sw_r1 False st fun a r => sw_gf False H (some (11, 2, 1)) a fun v => sw_A 36 18 ls (v :: r) H Q) := sw_A_step (cc := cX11_strike) rfl dX11_strike_15 rfl ls st H Q
theorem r36_18 : sw_A 36 18 ls st H Q = (sw_pop False 1 st [] fun args r => sw_ck False r (sw_rc False H (some 7) args (sw_M 34 args H (sw_K 36 21 none ls r Q)))) := sw_A_step (cc := cX11_strike) rfl dX11_strike_18 rfl ls st H Q
theorem r36_21 : sw_A 36 21 ls st H Q = (sw_has1 False ls 3 (sw_i1 False st fun x r => sw_A 36 22 (sw_set1 ls 3 (.int x)) r H Q)) := sw_A_step (cc := cX11_strike) rfl dX11_strike_21 rfl ls st H Q
theorem r36_22 : sw_A 36 22 ls st H Q = (sw_ldi False ls 3 fun x => sw_A 36 23 ls (.int x :: st) H Q) := sw_A_step (cc := cX11_strike) rfl dX11_strike_22 rfl ls st H Q
theorem r36_23 : sw_A 36 23 ls st H Q = (sw_A 36 24 ls (.int (Int32.ofInt (-1)) :: st) H Q) := sw_A_step (cc := cX11_strike) rfl dX11_strike_23 rfl ls st H Q
theorem r36_24 : sw_A 36 24 ls st H Q = (sw_i2 False st fun x y r => if ¬ x = y then sw_A 36 30 ls r H Q else sw_A 36 27 ls r H Q) := sw_A_step (cc := cX11_strike) rfl dX11_strike_24 rfl ls st H Q
theorem r36_27 : sw_A 36 27 ls st H Q = (sw_A 36 41 ls st H Q) := sw_A_step (cc := cX11_strike) rfl dX11_strike_27 rfl ls st H Q
theorem r36_30 : sw_A 36 30 ls st H Q = (sw_lda False ls 0 fun x => sw_A 36 31 ls (.ref x :: st) H Q) := sw_A_step (cc := cX11_strike) rfl dX11_strike_30 rfl ls st H Q
theorem r36_31 : sw_A 36 31 ls st H Q = (sw_ldi False ls 3 fun x => sw_A 36 32 ls (.int x :: st) H Q) := sw_A_step (cc := cX11_strike) rfl dX11_strike_31 rfl ls st H Q
theorem r36_32 : sw_A 36 32 ls st H Q = (sw_pop False 2 st [] fun args r => sw_ck False r (sw_rc False H (some 11) args (sw_M 28 args H (sw_K 36 35 none ls r Q)))) := sw_A_step (cc := cX11_strike) rfl dX11_strike_32 rfl ls st H Q
theorem r36_35 : sw_A 36 35 ls st H Q = (sw_ldi False ls 2 fun x => sw_A 36 38 (sw_set1 ls 2 (.int (x + Int32.ofInt 1))) st H Q) := sw_A_step (cc := cX11_strike) rfl dX11_strike_35 rfl ls st H Q
theorem r36_38 : sw_A 36 38 ls st H Q = (sw_A 36 9 ls st H Q) := sw_A_step (cc := cX11_strike) rfl dX11_strike_38 rfl ls st H Q
theorem r36_41 : sw_A 36 41 ls st H Q = (sw_lda False ls 0 fun x => sw_A 36 42 ls (.ref x :: st) H Q) := sw_A_step (cc := cX11_strike) rfl dX11_strike_41 rfl ls st H Q
theorem r36_42 : sw_A 36 42 ls st H Q = (sw_r1 False st fun a r => sw_gf False H (some (11, 2, 1)) a fun v => sw_A 36 45 ls (v :: r) H Q) := sw_A_step (cc := cX11_strike) rfl dX11_strike_42 rfl ls st H Q
theorem r36_45 : sw_A 36 45 ls st H Q = (sw_r1 False st fun a r => sw_gf False H (some (7, 0, 3)) a fun v => sw_A 36 48 ls (v :: r) H Q) := sw_A_step (cc := cX11_strike) rfl dX11_strike_45 rfl ls st H Q
theorem r36_48 : sw_A 36 48 ls st H Q = (sw_pop False 1 st [] fun args r => sw_ck False r (sw_M 35 args H (sw_K 36 51 none ls r Q))) := sw_A_step (cc := cX11_strike) rfl dX11_strike_48 rfl ls st H Q
theorem r36_51 : sw_A 36 51 ls st H Q = (match st with | [.int x] => Q (some (some (.int x))) H | _ => False) := sw_A_step (cc := cX11_strike) rfl dX11_strike_51 rfl ls st H Q
theorem r37_0 : sw_A 37 0 ls st H Q = (sw_A 37 1 ls (.int (Int32.ofInt 0) :: st) H Q) := sw_A_step (cc := cL_many) rfl dL_many_0 rfl ls st H Q
theorem r37_1 : sw_A 37 1 ls st H Q = (sw_has1 False ls 2 (sw_i1 False st fun x r => sw_A 37 2 (sw_set1 ls 2 (.int x)) r H Q)) := sw_A_step (cc := cL_many) rfl dL_many_1 rfl ls st H Q
theorem r37_2 : sw_A 37 2 ls st H Q = (sw_A 37 3 ls (.int (Int32.ofInt 0) :: st) H Q) := sw_A_step (cc := cL_many) rfl dL_many_2 rfl ls st H Q
theorem r37_3 : sw_A 37 3 ls st H Q = (sw_has1 False ls 3 (sw_i1 False st fun x r => sw_A 37 4 (sw_set1 ls 3 (.int x)) r H Q)) := sw_A_step (cc := cL_many) rfl dL_many_3 rfl ls st H Q
theorem r37_4 : sw_A 37 4 ls st H Q = (sw_ldi False ls 3 fun x => sw_A 37 5 ls (.int x :: st) H Q) := sw_A_step (cc := cL_many) rfl dL_many_4 rfl ls st H Q
theorem r37_5 : sw_A 37 5 ls st H Q = (sw_A 37 7 ls (.int (Int32.ofInt 36) :: st) H Q) := sw_A_step (cc := cL_many) rfl dL_many_5 rfl ls st H Q
theorem r37_7 : sw_A 37 7 ls st H Q = (sw_i2 False st fun x y r => if y ≤ x then sw_A 37 32 ls r H Q else sw_A 37 10 ls r H Q) := sw_A_step (cc := cL_many) rfl dL_many_7 rfl ls st H Q
theorem r37_10 : sw_A 37 10 ls st H Q = (sw_ldi False ls 2 fun x => sw_A 37 11 ls (.int x :: st) H Q) := sw_A_step (cc := cL_many) rfl dL_many_10 rfl ls st H Q
theorem r37_11 : sw_A 37 11 ls st H Q = (sw_ldl False ls 0 fun x => sw_A 37 12 ls (.long x :: st) H Q) := sw_A_step (cc := cL_many) rfl dL_many_11 rfl ls st H Q
theorem r37_12 : sw_A 37 12 ls st H Q = (sw_ldi False ls 3 fun x => sw_A 37 13 ls (.int x :: st) H Q) := sw_A_step (cc := cL_many) rfl dL_many_12 rfl ls st H Q
theorem r37_13 : sw_A 37 13 ls st H Q = (sw_pop False 2 st [] fun args r => sw_ck False r (sw_M 30 args H (sw_K 37 16 none ls r Q))) := sw_A_step (cc := cL_many) rfl dL_many_13 rfl ls st H Q
theorem r37_16 : sw_A 37 16 ls st H Q = (sw_i1 False st fun x r => if x = 0 then sw_A 37 23 ls r H Q else sw_A 37 19 ls r H Q) := sw_A_step (cc := cL_many) rfl dL_many_16 rfl ls st H Q
theorem r37_19 : sw_A 37 19 ls st H Q = (sw_A 37 20 ls (.int (Int32.ofInt 1) :: st) H Q) := sw_A_step (cc := cL_many) rfl dL_many_19 rfl ls st H Q
theorem r37_20 : sw_A 37 20 ls st H Q = (sw_A 37 24 ls st H Q) := sw_A_step (cc := cL_many) rfl dL_many_20 rfl ls st H Q
theorem r37_23 : sw_A 37 23 ls st H Q = (sw_A 37 24 ls (.int (Int32.ofInt 0) :: st) H Q) := sw_A_step (cc := cL_many) rfl dL_many_23 rfl ls st H Q
theorem r37_24 : sw_A 37 24 ls st H Q = (sw_i2 False st fun x y r => sw_A 37 25 ls (.int (x + y) :: r) H Q) := sw_A_step (cc := cL_many) rfl dL_many_24 rfl ls st H Q
theorem r37_25 : sw_A 37 25 ls st H Q = (sw_has1 False ls 2 (sw_i1 False st fun x r => sw_A 37 26 (sw_set1 ls 2 (.int x)) r H Q)) := sw_A_step (cc := cL_many) rfl dL_many_25 rfl ls st H Q
theorem r37_26 : sw_A 37 26 ls st H Q = (sw_ldi False ls 3 fun x => sw_A 37 29 (sw_set1 ls 3 (.int (x + Int32.ofInt 1))) st H Q) := sw_A_step (cc := cL_many) rfl dL_many_26 rfl ls st H Q
theorem r37_29 : sw_A 37 29 ls st H Q = (sw_A 37 4 ls st H Q) := sw_A_step (cc := cL_many) rfl dL_many_29 rfl ls st H Q
theorem r37_32 : sw_A 37 32 ls st H Q = (sw_ldi False ls 2 fun x => sw_A 37 33 ls (.int x :: st) H Q) := sw_A_step (cc := cL_many) rfl dL_many_32 rfl ls st H Q
theorem r37_33 : sw_A 37 33 ls st H Q = (match st with | [.int x] => Q (some (some (.int x))) H | _ => False) := sw_A_step (cc := cL_many) rfl dL_many_33 rfl ls st H Q
theorem r38_0 : sw_A 38 0 ls st H Q = (sw_lda False ls 0 fun x => sw_A 38 1 ls (.ref x :: st) H Q) := sw_A_step (cc := cX11_needNotShut) rfl dX11_needNotShut_0 rfl ls st H Q
theorem r38_1 : sw_A 38 1 ls st H Q = (sw_r1 False st fun a r => sw_gf False H (some (11, 2, 1)) a fun v => sw_A 38 4 ls (v :: r) H Q) := sw_A_step (cc := cX11_needNotShut) rfl dX11_needNotShut_1 rfl ls st H Q
theorem r38_4 : sw_A 38 4 ls st H Q = (sw_r1 False st fun a r => sw_gf False H (some (7, 0, 3)) a fun v => sw_A 38 7 ls (v :: r) H Q) := sw_A_step (cc := cX11_needNotShut) rfl dX11_needNotShut_4 rfl ls st H Q
theorem r38_7 : sw_A 38 7 ls st H Q = (sw_ldi False ls 1 fun x => sw_A 38 8 ls (.int x :: st) H Q) := sw_A_step (cc := cX11_needNotShut) rfl dX11_needNotShut_7 rfl ls st H Q
theorem r38_8 : sw_A 38 8 ls st H Q = (sw_ri False st fun a i r => sw_ald False H 1 a i fun x => sw_A 38 9 ls (.int x :: r) H Q) := sw_A_step (cc := cX11_needNotShut) rfl dX11_needNotShut_8 rfl ls st H Q
theorem r38_9 : sw_A 38 9 ls st H Q = (sw_i1 False st fun x r => if x = 0 then sw_A 38 23 ls r H Q else sw_A 38 12 ls r H Q) := sw_A_step (cc := cX11_needNotShut) rfl dX11_needNotShut_9 rfl ls st H Q
theorem r38_12 : sw_A 38 12 ls st H Q = (if 38 = 38 ∧ 12 = 12 ∧ st = [] then Q none (sw_ex H) else False) := sw_A_step (cc := cX11_needNotShut) rfl dX11_needNotShut_12 rfl ls st H Q
theorem r38_15 : sw_A 38 15 ls st H Q = (sw_r1 False st fun a r => sw_A 38 16 ls (.ref a :: .ref a :: r) H Q) := sw_A_step (cc := cX11_needNotShut) rfl dX11_needNotShut_15 rfl ls st H Q
theorem r38_16 : sw_A 38 16 ls st H Q = (False) := sw_A_step (cc := cX11_needNotShut) rfl dX11_needNotShut_16 rfl ls st H Q
theorem r38_19 : sw_A 38 19 ls st H Q = (False) := sw_A_step (cc := cX11_needNotShut) rfl dX11_needNotShut_19 rfl ls st H Q
theorem r38_22 : sw_A 38 22 ls st H Q = (False) := sw_A_step (cc := cX11_needNotShut) rfl dX11_needNotShut_22 rfl ls st H Q
theorem r38_23 : sw_A 38 23 ls st H Q = (match st with | [] => Q (some none) H | _ => False) := sw_A_step (cc := cX11_needNotShut) rfl dX11_needNotShut_23 rfl ls st H Q
theorem r39_0 : sw_A 39 0 ls st H Q = (sw_ldi False ls 1 fun x => sw_A 39 1 ls (.int x :: st) H Q) := sw_A_step (cc := cX11_wet) rfl dX11_wet_0 rfl ls st H Q
theorem r39_1 : sw_A 39 1 ls st H Q = (sw_pop False 1 st [] fun args r => sw_ck False r (sw_M 25 args H (sw_K 39 4 none ls r Q))) := sw_A_step (cc := cX11_wet) rfl dX11_wet_1 rfl ls st H Q
theorem r39_4 : sw_A 39 4 ls st H Q = (sw_lda False ls 0 fun x => sw_A 39 5 ls (.ref x :: st) H Q) := sw_A_step (cc := cX11_wet) rfl dX11_wet_4 rfl ls st H Q
theorem r39_5 : sw_A 39 5 ls st H Q = (sw_ldi False ls 1 fun x => sw_A 39 6 ls (.int x :: st) H Q) := sw_A_step (cc := cX11_wet) rfl dX11_wet_5 rfl ls st H Q
theorem r39_6 : sw_A 39 6 ls st H Q = (sw_pop False 2 st [] fun args r => sw_ck False r (sw_rc False H (some 11) args (sw_M 38 args H (sw_K 39 9 none ls r Q)))) := sw_A_step (cc := cX11_wet) rfl dX11_wet_6 rfl ls st H Q
theorem r39_9 : sw_A 39 9 ls st H Q = (sw_lda False ls 0 fun x => sw_A 39 10 ls (.ref x :: st) H Q) := sw_A_step (cc := cX11_wet) rfl dX11_wet_9 rfl ls st H Q
theorem r39_10 : sw_A 39 10 ls st H Q = (sw_r1 False st fun a r => sw_gf False H (some (11, 2, 1)) a fun v => sw_A 39 13 ls (v :: r) H Q) := sw_A_step (cc := cX11_wet) rfl dX11_wet_10 rfl ls st H Q
theorem r39_13 : sw_A 39 13 ls st H Q = (sw_r1 False st fun a r => sw_gf False H (some (7, 1, 3)) a fun v => sw_A 39 16 ls (v :: r) H Q) := sw_A_step (cc := cX11_wet) rfl dX11_wet_13 rfl ls st H Q
theorem r39_16 : sw_A 39 16 ls st H Q = (sw_ldi False ls 1 fun x => sw_A 39 17 ls (.int x :: st) H Q) := sw_A_step (cc := cX11_wet) rfl dX11_wet_16 rfl ls st H Q
theorem r39_17 : sw_A 39 17 ls st H Q = (sw_ri False st fun a i r => sw_ald False H 1 a i fun x => sw_A 39 18 ls (.int x :: r) H Q) := sw_A_step (cc := cX11_wet) rfl dX11_wet_17 rfl ls st H Q
theorem r39_18 : sw_A 39 18 ls st H Q = (sw_has1 False ls 3 (sw_i1 False st fun x r => sw_A 39 19 (sw_set1 ls 3 (.int x)) r H Q)) := sw_A_step (cc := cX11_wet) rfl dX11_wet_18 rfl ls st H Q
theorem r39_19 : sw_A 39 19 ls st H Q = (sw_lda False ls 0 fun x => sw_A 39 20 ls (.ref x :: st) H Q) := sw_A_step (cc := cX11_wet) rfl dX11_wet_19 rfl ls st H Q
theorem r39_20 : sw_A 39 20 ls st H Q = (sw_r1 False st fun a r => sw_gf False H (some (11, 2, 1)) a fun v => sw_A 39 23 ls (v :: r) H Q) := sw_A_step (cc := cX11_wet) rfl dX11_wet_20 rfl ls st H Q
theorem r39_23 : sw_A 39 23 ls st H Q = (sw_r1 False st fun a r => sw_gf False H (some (7, 1, 3)) a fun v => sw_A 39 26 ls (v :: r) H Q) := sw_A_step (cc := cX11_wet) rfl dX11_wet_23 rfl ls st H Q
theorem r39_26 : sw_A 39 26 ls st H Q = (sw_ldi False ls 1 fun x => sw_A 39 27 ls (.int x :: st) H Q) := sw_A_step (cc := cX11_wet) rfl dX11_wet_26 rfl ls st H Q
theorem r39_27 : sw_A 39 27 ls st H Q = (sw_ldi False ls 2 fun x => sw_A 39 28 ls (.int x :: st) H Q) := sw_A_step (cc := cX11_wet) rfl dX11_wet_27 rfl ls st H Q
theorem r39_28 : sw_A 39 28 ls st H Q = (sw_rix False st fun a i x r => sw_ast False H 1 a i (x &&& 1) fun H1 => sw_A 39 29 ls r H1 Q) := sw_A_step (cc := cX11_wet) rfl dX11_wet_28 rfl ls st H Q
theorem r39_29 : sw_A 39 29 ls st H Q = (sw_ldi False ls 3 fun x => sw_A 39 30 ls (.int x :: st) H Q) := sw_A_step (cc := cX11_wet) rfl dX11_wet_29 rfl ls st H Q
theorem r39_30 : sw_A 39 30 ls st H Q = (match st with | [.int x] => (if 2 = 1 ∨ 2 = 2 ∧ (x = 0 ∨ x = 1) then Q (some (some (.int x))) H else False) | _ => False) := sw_A_step (cc := cX11_wet) rfl dX11_wet_30 rfl ls st H Q
theorem r40_0 : sw_A 40 0 ls st H Q = (sw_lda False ls 0 fun x => sw_A 40 1 ls (.ref x :: st) H Q) := sw_A_step (cc := cL_wets) rfl dL_wets_0 rfl ls st H Q
theorem r40_1 : sw_A 40 1 ls st H Q = (sw_ldi False ls 1 fun x => sw_A 40 2 ls (.int x :: st) H Q) := sw_A_step (cc := cL_wets) rfl dL_wets_1 rfl ls st H Q
theorem r40_2 : sw_A 40 2 ls st H Q = (sw_ldi False ls 2 fun x => sw_A 40 3 ls (.int x :: st) H Q) := sw_A_step (cc := cL_wets) rfl dL_wets_2 rfl ls st H Q
theorem r40_3 : sw_A 40 3 ls st H Q = (sw_pop False 3 st [] fun args r => sw_ck False r (sw_rc False H (some 11) args (sw_M 39 args H (sw_K 40 6 (some 16) ls r Q)))) := sw_A_step (cc := cL_wets) rfl dL_wets_3 rfl ls st H Q
theorem r40_6 : sw_A 40 6 ls st H Q = (sw_i1 False st fun x r => if x = 0 then sw_A 40 13 ls r H Q else sw_A 40 9 ls r H Q) := sw_A_step (cc := cL_wets) rfl dL_wets_6 rfl ls st H Q
theorem r40_9 : sw_A 40 9 ls st H Q = (sw_A 40 10 ls (.int (Int32.ofInt 1) :: st) H Q) := sw_A_step (cc := cL_wets) rfl dL_wets_9 rfl ls st H Q
theorem r40_10 : sw_A 40 10 ls st H Q = (sw_A 40 14 ls st H Q) := sw_A_step (cc := cL_wets) rfl dL_wets_10 rfl ls st H Q
theorem r40_13 : sw_A 40 13 ls st H Q = (sw_A 40 14 ls (.int (Int32.ofInt 0) :: st) H Q) := sw_A_step (cc := cL_wets) rfl dL_wets_13 rfl ls st H Q
theorem r40_14 : sw_A 40 14 ls st H Q = (match st with | [.int x] => Q (some (some (.int x))) H | _ => False) := sw_A_step (cc := cL_wets) rfl dL_wets_14 rfl ls st H Q
theorem r40_15 : sw_A 40 15 ls st H Q = (sw_has1 False ls 3 (sw_r1 False st fun x r => sw_A 40 16 (sw_set1 ls 3 (.ref x)) r H Q)) := sw_A_step (cc := cL_wets) rfl dL_wets_15 rfl ls st H Q
theorem r40_16 : sw_A 40 16 ls st H Q = (sw_A 40 18 ls (.int (Int32.ofInt (-9)) :: st) H Q) := sw_A_step (cc := cL_wets) rfl dL_wets_16 rfl ls st H Q
theorem r40_18 : sw_A 40 18 ls st H Q = (match st with | [.int x] => Q (some (some (.int x))) H | _ => False) := sw_A_step (cc := cL_wets) rfl dL_wets_18 rfl ls st H Q
theorem r41_0 : sw_A 41 0 ls st H Q = (sw_A 41 1 ls (.int (Int32.ofInt 0) :: st) H Q) := sw_A_step (cc := cX7_countFilledBeside) rfl dX7_countFilledBeside_0 rfl ls st H Q
theorem r41_1 : sw_A 41 1 ls st H Q = (sw_has1 False ls 2 (sw_i1 False st fun x r => sw_A 41 2 (sw_set1 ls 2 (.int x)) r H Q)) := sw_A_step (cc := cX7_countFilledBeside) rfl dX7_countFilledBeside_1 rfl ls st H Q
theorem r41_2 : sw_A 41 2 ls st H Q = (sw_A 41 3 ls (.int (Int32.ofInt 0) :: st) H Q) := sw_A_step (cc := cX7_countFilledBeside) rfl dX7_countFilledBeside_2 rfl ls st H Q
theorem r41_3 : sw_A 41 3 ls st H Q = (sw_has1 False ls 3 (sw_i1 False st fun x r => sw_A 41 4 (sw_set1 ls 3 (.int x)) r H Q)) := sw_A_step (cc := cX7_countFilledBeside) rfl dX7_countFilledBeside_3 rfl ls st H Q
theorem r41_4 : sw_A 41 4 ls st H Q = (sw_ldi False ls 3 fun x => sw_A 41 5 ls (.int x :: st) H Q) := sw_A_step (cc := cX7_countFilledBeside) rfl dX7_countFilledBeside_4 rfl ls st H Q
theorem r41_5 : sw_A 41 5 ls st H Q = (sw_A 41 6 ls (.int (Int32.ofInt 4) :: st) H Q) := sw_A_step (cc := cX7_countFilledBeside) rfl dX7_countFilledBeside_5 rfl ls st H Q
theorem r41_6 : sw_A 41 6 ls st H Q = (sw_i2 False st fun x y r => if y ≤ x then sw_A 41 41 ls r H Q else sw_A 41 9 ls r H Q) := sw_A_step (cc := cX7_countFilledBeside) rfl dX7_countFilledBeside_6 rfl ls st H Q
theorem r41_9 : sw_A 41 9 ls st H Q = (sw_ldi False ls 1 fun x => sw_A 41 10 ls (.int x :: st) H Q) := sw_A_step (cc := cX7_countFilledBeside) rfl dX7_countFilledBeside_9 rfl ls st H Q
theorem r41_10 : sw_A 41 10 ls st H Q = (sw_ldi False ls 3 fun x => sw_A 41 11 ls (.int x :: st) H Q) := sw_A_step (cc := cX7_countFilledBeside) rfl dX7_countFilledBeside_10 rfl ls st H Q
theorem r41_11 : sw_A 41 11 ls st H Q = (sw_pop False 2 st [] fun args r => sw_ck False r (sw_M 32 args H (sw_K 41 14 none ls r Q))) := sw_A_step (cc := cX7_countFilledBeside) rfl dX7_countFilledBeside_11 rfl ls st H Q
theorem r41_14 : sw_A 41 14 ls st H Q = (sw_has1 False ls 4 (sw_i1 False st fun x r => sw_A 41 16 (sw_set1 ls 4 (.int x)) r H Q)) := sw_A_step (cc := cX7_countFilledBeside) rfl dX7_countFilledBeside_14 rfl ls st H Q
theorem r41_16 : sw_A 41 16 ls st H Q = (sw_ldi False ls 4 fun x => sw_A 41 18 ls (.int x :: st) H Q) := sw_A_step (cc := cX7_countFilledBeside) rfl dX7_countFilledBeside_16 rfl ls st H Q
theorem r41_18 : sw_A 41 18 ls st H Q = (sw_A 41 19 ls (.int (Int32.ofInt (-1)) :: st) H Q) := sw_A_step (cc := cX7_countFilledBeside) rfl dX7_countFilledBeside_18 rfl ls st H Q
theorem r41_19 : sw_A 41 19 ls st H Q = (sw_i2 False st fun x y r => if x = y then sw_A 41 35 ls r H Q else sw_A 41 22 ls r H Q) := sw_A_step (cc := cX7_countFilledBeside) rfl dX7_countFilledBeside_19 rfl ls st H Q
theorem r41_22 : sw_A 41 22 ls st H Q = (sw_lda False ls 0 fun x => sw_A 41 23 ls (.ref x :: st) H Q) := sw_A_step (cc := cX7_countFilledBeside) rfl dX7_countFilledBeside_22 rfl ls st H Q
theorem r41_23 : sw_A 41 23 ls st H Q = (sw_r1 False st fun a r => sw_gf False H (some (7, 4, 1)) a fun v => sw_A 41 26 ls (v :: r) H Q) := sw_A_step (cc := cX7_countFilledBeside) rfl dX7_countFilledBeside_23 rfl ls st H Q
theorem r41_26 : sw_A 41 26 ls st H Q = (sw_ldi False ls 4 fun x => sw_A 41 28 ls (.int x :: st) H Q) := sw_A_step (cc := cX7_countFilledBeside) rfl dX7_countFilledBeside_26 rfl ls st H Q
theorem r41_28 : sw_A 41 28 ls st H Q = (sw_ri False st fun a i r => sw_ald False H 1 a i fun x => sw_A 41 29 ls (.int x :: r) H Q) := sw_A_step (cc := cX7_countFilledBeside) rfl dX7_countFilledBeside_28 rfl ls st H Q
theorem r41_29 : sw_A 41 29 ls st H Q = (sw_i1 False st fun x r => if x = 0 then sw_A 41 35 ls r H Q else sw_A 41 32 ls r H Q) := sw_A_step (cc := cX7_countFilledBeside) rfl dX7_countFilledBeside_29 rfl ls st H Q
theorem r41_32 : sw_A 41 32 ls st H Q = (sw_ldi False ls 2 fun x => sw_A 41 35 (sw_set1 ls 2 (.int (x + Int32.ofInt 1))) st H Q) := sw_A_step (cc := cX7_countFilledBeside) rfl dX7_countFilledBeside_32 rfl ls st H Q
theorem r41_35 : sw_A 41 35 ls st H Q = (sw_ldi False ls 3 fun x => sw_A 41 38 (sw_set1 ls 3 (.int (x + Int32.ofInt 1))) st H Q) := sw_A_step (cc := cX7_countFilledBeside) rfl dX7_countFilledBeside_35 rfl ls st H Q
theorem r41_38 : sw_A 41 38 ls st H Q = (sw_A 41 4 ls st H Q) := sw_A_step (cc := cX7_countFilledBeside) rfl dX7_countFilledBeside_38 rfl ls st H Q
theorem r41_41 : sw_A 41 41 ls st H Q = (sw_ldi False ls 2 fun x => sw_A 41 42 ls (.int x :: st) H Q) := sw_A_step (cc := cX7_countFilledBeside) rfl dX7_countFilledBeside_41 rfl ls st H Q
theorem r41_42 : sw_A 41 42 ls st H Q = (match st with | [.int x] => Q (some (some (.int x))) H | _ => False) := sw_A_step (cc := cX7_countFilledBeside) rfl dX7_countFilledBeside_42 rfl ls st H Q
theorem r42_0 : sw_A 42 0 ls st H Q = (sw_A 42 1 ls (.int (Int32.ofInt 0) :: st) H Q) := sw_A_step (cc := cX7_fillOnce) rfl dX7_fillOnce_0 rfl ls st H Q
theorem r42_1 : sw_A 42 1 ls st H Q = (sw_has1 False ls 2 (sw_i1 False st fun x r => sw_A 42 2 (sw_set1 ls 2 (.int x)) r H Q)) := sw_A_step (cc := cX7_fillOnce) rfl dX7_fillOnce_1 rfl ls st H Q
theorem r42_2 : sw_A 42 2 ls st H Q = (sw_ldi False ls 2 fun x => sw_A 42 3 ls (.int x :: st) H Q) := sw_A_step (cc := cX7_fillOnce) rfl dX7_fillOnce_2 rfl ls st H Q
theorem r42_3 : sw_A 42 3 ls st H Q = (sw_A 42 5 ls (.int (Int32.ofInt 36) :: st) H Q) := sw_A_step (cc := cX7_fillOnce) rfl dX7_fillOnce_3 rfl ls st H Q
theorem r42_5 : sw_A 42 5 ls st H Q = (sw_i2 False st fun x y r => if y ≤ x then sw_A 42 52 ls r H Q else sw_A 42 8 ls r H Q) := sw_A_step (cc := cX7_fillOnce) rfl dX7_fillOnce_5 rfl ls st H Q
theorem r42_8 : sw_A 42 8 ls st H Q = (sw_lda False ls 0 fun x => sw_A 42 9 ls (.ref x :: st) H Q) := sw_A_step (cc := cX7_fillOnce) rfl dX7_fillOnce_8 rfl ls st H Q
theorem r42_9 : sw_A 42 9 ls st H Q = (sw_r1 False st fun a r => sw_gf False H (some (7, 5, 1)) a fun v => sw_A 42 12 ls (v :: r) H Q) := sw_A_step (cc := cX7_fillOnce) rfl dX7_fillOnce_9 rfl ls st H Q
theorem r42_12 : sw_A 42 12 ls st H Q = (sw_ldi False ls 2 fun x => sw_A 42 13 ls (.int x :: st) H Q) := sw_A_step (cc := cX7_fillOnce) rfl dX7_fillOnce_12 rfl ls st H Q
theorem r42_13 : sw_A 42 13 ls st H Q = (sw_lda False ls 0 fun x => sw_A 42 14 ls (.ref x :: st) H Q) := sw_A_step (cc := cX7_fillOnce) rfl dX7_fillOnce_13 rfl ls st H Q
theorem r42_14 : sw_A 42 14 ls st H Q = (sw_r1 False st fun a r => sw_gf False H (some (7, 4, 1)) a fun v => sw_A 42 17 ls (v :: r) H Q) := sw_A_step (cc := cX7_fillOnce) rfl dX7_fillOnce_14 rfl ls st H Q
theorem r42_17 : sw_A 42 17 ls st H Q = (sw_ldi False ls 2 fun x => sw_A 42 18 ls (.int x :: st) H Q) := sw_A_step (cc := cX7_fillOnce) rfl dX7_fillOnce_17 rfl ls st H Q
theorem r42_18 : sw_A 42 18 ls st H Q = (sw_ri False st fun a i r => sw_ald False H 1 a i fun x => sw_A 42 19 ls (.int x :: r) H Q) := sw_A_step (cc := cX7_fillOnce) rfl dX7_fillOnce_18 rfl ls st H Q
theorem r42_19 : sw_A 42 19 ls st H Q = (sw_i1 False st fun x r => if ¬ x = 0 then sw_A 42 44 ls r H Q else sw_A 42 22 ls r H Q) := sw_A_step (cc := cX7_fillOnce) rfl dX7_fillOnce_19 rfl ls st H Q
theorem r42_22 : sw_A 42 22 ls st H Q = (sw_lda False ls 0 fun x => sw_A 42 23 ls (.ref x :: st) H Q) := sw_A_step (cc := cX7_fillOnce) rfl dX7_fillOnce_22 rfl ls st H Q
theorem r42_23 : sw_A 42 23 ls st H Q = (sw_r1 False st fun a r => sw_gf False H (some (7, 0, 1)) a fun v => sw_A 42 26 ls (v :: r) H Q) := sw_A_step (cc := cX7_fillOnce) rfl dX7_fillOnce_23 rfl ls st H Q
theorem r42_26 : sw_A 42 26 ls st H Q = (sw_ldi False ls 2 fun x => sw_A 42 27 ls (.int x :: st) H Q) := sw_A_step (cc := cX7_fillOnce) rfl dX7_fillOnce_26 rfl ls st H Q
theorem r42_27 : sw_A 42 27 ls st H Q = (sw_ri False st fun a i r => sw_ald False H 1 a i fun x => sw_A 42 28 ls (.int x :: r) H Q) := sw_A_step (cc := cX7_fillOnce) rfl dX7_fillOnce_27 rfl ls st H Q
theorem r42_28 : sw_A 42 28 ls st H Q = (sw_i1 False st fun x r => if ¬ x = 0 then sw_A 42 44 ls r H Q else sw_A 42 31 ls r H Q) := sw_A_step (cc := cX7_fillOnce) rfl dX7_fillOnce_28 rfl ls st H Q
theorem r42_31 : sw_A 42 31 ls st H Q = (sw_lda False ls 0 fun x => sw_A 42 32 ls (.ref x :: st) H Q) := sw_A_step (cc := cX7_fillOnce) rfl dX7_fillOnce_31 rfl ls st H Q
theorem r42_32 : sw_A 42 32 ls st H Q = (sw_ldi False ls 2 fun x => sw_A 42 33 ls (.int x :: st) H Q) := sw_A_step (cc := cX7_fillOnce) rfl dX7_fillOnce_32 rfl ls st H Q
theorem r42_33 : sw_A 42 33 ls st H Q = (sw_pop False 2 st [] fun args r => sw_ck False r (sw_rc False H (some 7) args (sw_M 41 args H (sw_K 42 36 none ls r Q)))) := sw_A_step (cc := cX7_fillOnce) rfl dX7_fillOnce_33 rfl ls st H Q
theorem r42_36 : sw_A 42 36 ls st H Q = (sw_ldi False ls 1 fun x => sw_A 42 37 ls (.int x :: st) H Q) := sw_A_step (cc := cX7_fillOnce) rfl dX7_fillOnce_36 rfl ls st H Q
theorem r42_37 : sw_A 42 37 ls st H Q = (sw_i2 False st fun x y r => if x < y then sw_A 42 44 ls r H Q else sw_A 42 40 ls r H Q) := sw_A_step (cc := cX7_fillOnce) rfl dX7_fillOnce_37 rfl ls st H Q
theorem r42_40 : sw_A 42 40 ls st H Q = (sw_A 42 41 ls (.int (Int32.ofInt 1) :: st) H Q) := sw_A_step (cc := cX7_fillOnce) rfl dX7_fillOnce_40 rfl ls st H Q
theorem r42_41 : sw_A 42 41 ls st H Q = (sw_A 42 45 ls st H Q) := sw_A_step (cc := cX7_fillOnce) rfl dX7_fillOnce_41 rfl ls st H Q
theorem r42_44 : sw_A 42 44 ls st H Q = (sw_A 42 45 ls (.int (Int32.ofInt 0) :: st) H Q) := sw_A_step (cc := cX7_fillOnce) rfl dX7_fillOnce_44 rfl ls st H Q
theorem r42_45 : sw_A 42 45 ls st H Q = (sw_rix False st fun a i x r => sw_ast False H 1 a i (x &&& 1) fun H1 => sw_A 42 46 ls r H1 Q) := sw_A_step (cc := cX7_fillOnce) rfl dX7_fillOnce_45 rfl ls st H Q
theorem r42_46 : sw_A 42 46 ls st H Q = (sw_ldi False ls 2 fun x => sw_A 42 49 (sw_set1 ls 2 (.int (x + Int32.ofInt 1))) st H Q) := sw_A_step (cc := cX7_fillOnce) rfl dX7_fillOnce_46 rfl ls st H Q
theorem r42_49 : sw_A 42 49 ls st H Q = (sw_A 42 2 ls st H Q) := sw_A_step (cc := cX7_fillOnce) rfl dX7_fillOnce_49 rfl ls st H Q
theorem r42_52 : sw_A 42 52 ls st H Q = (sw_A 42 53 ls (.int (Int32.ofInt 0) :: st) H Q) := sw_A_step (cc := cX7_fillOnce) rfl dX7_fillOnce_52 rfl ls st H Q
theorem r42_53 : sw_A 42 53 ls st H Q = (sw_has1 False ls 2 (sw_i1 False st fun x r => sw_A 42 54 (sw_set1 ls 2 (.int x)) r H Q)) := sw_A_step (cc := cX7_fillOnce) rfl dX7_fillOnce_53 rfl ls st H Q
theorem r42_54 : sw_A 42 54 ls st H Q = (sw_ldi False ls 2 fun x => sw_A 42 55 ls (.int x :: st) H Q) := sw_A_step (cc := cX7_fillOnce) rfl dX7_fillOnce_54 rfl ls st H Q
theorem r42_55 : sw_A 42 55 ls st H Q = (sw_A 42 57 ls (.int (Int32.ofInt 36) :: st) H Q) := sw_A_step (cc := cX7_fillOnce) rfl dX7_fillOnce_55 rfl ls st H Q
theorem r42_57 : sw_A 42 57 ls st H Q = (sw_i2 False st fun x y r => if y ≤ x then sw_A 42 95 ls r H Q else sw_A 42 60 ls r H Q) := sw_A_step (cc := cX7_fillOnce) rfl dX7_fillOnce_57 rfl ls st H Q
theorem r42_60 : sw_A 42 60 ls st H Q = (sw_lda False ls 0 fun x => sw_A 42 61 ls (.ref x :: st) H Q) := sw_A_step (cc := cX7_fillOnce) rfl dX7_fillOnce_60 rfl ls st H Q
theorem r42_61 : sw_A 42 61 ls st H Q = (sw_r1 False st fun a r => sw_gf False H (some (7, 4, 1)) a fun v => sw_A 42 64 ls (v :: r) H Q) := sw_A_step (cc := cX7_fillOnce) rfl dX7_fillOnce_61 rfl ls st H Q
theorem r42_64 : sw_A 42 64 ls st H Q = (sw_ldi False ls 2 fun x => sw_A 42 65 ls (.int x :: st) H Q) := sw_A_step (cc := cX7_fillOnce) rfl dX7_fillOnce_64 rfl ls st H Q
theorem r42_65 : sw_A 42 65 ls st H Q = (sw_lda False ls 0 fun x => sw_A 42 66 ls (.ref x :: st) H Q) := sw_A_step (cc := cX7_fillOnce) rfl dX7_fillOnce_65 rfl ls st H Q
theorem r42_66 : sw_A 42 66 ls st H Q = (sw_r1 False st fun a r => sw_gf False H (some (7, 4, 1)) a fun v => sw_A 42 69 ls (v :: r) H Q) := sw_A_step (cc := cX7_fillOnce) rfl dX7_fillOnce_66 rfl ls st H Q
theorem r42_69 : sw_A 42 69 ls st H Q = (sw_ldi False ls 2 fun x => sw_A 42 70 ls (.int x :: st) H Q) := sw_A_step (cc := cX7_fillOnce) rfl dX7_fillOnce_69 rfl ls st H Q
theorem r42_70 : sw_A 42 70 ls st H Q = (sw_ri False st fun a i r => sw_ald False H 1 a i fun x => sw_A 42 71 ls (.int x :: r) H Q) := sw_A_step (cc := cX7_fillOnce) rfl dX7_fillOnce_70 rfl ls st H Q
theorem r42_71 : sw_A 42 71 ls st H Q = (sw_i1 False st fun x r => if ¬ x = 0 then sw_A 42 83 ls r H Q else sw_A 42 74 ls r H Q) := sw_A_step (cc := cX7_fillOnce) rfl dX7_fillOnce_71 rfl ls st H Q
theorem r42_74 : sw_A 42 74 ls st H Q = (sw_lda False ls 0 fun x => sw_A 42 75 ls (.ref x :: st) H Q) := sw_A_step (cc := cX7_fillOnce) rfl dX7_fillOnce_74 rfl ls st H Q
theorem r42_75 : sw_A 42 75 ls st H Q = (sw_r1 False st fun a r => sw_gf False H (some (7, 5, 1)) a fun v => sw_A 42 78 ls (v :: r) H Q) := sw_A_step (cc := cX7_fillOnce) rfl dX7_fillOnce_75 rfl ls st H Q
theorem r42_78 : sw_A 42 78 ls st H Q = (sw_ldi False ls 2 fun x => sw_A 42 79 ls (.int x :: st) H Q) := sw_A_step (cc := cX7_fillOnce) rfl dX7_fillOnce_78 rfl ls st H Q
theorem r42_79 : sw_A 42 79 ls st H Q = (sw_ri False st fun a i r => sw_ald False H 1 a i fun x => sw_A 42 80 ls (.int x :: r) H Q) := sw_A_step (cc := cX7_fillOnce) rfl dX7_fillOnce_79 rfl ls st H Q
theorem r42_80 : sw_A 42 80 ls st H Q = (sw_i1 False st fun x r => if x = 0 then sw_A 42 87 ls r H Q else sw_A 42 83 ls r H Q) := sw_A_step (cc := cX7_fillOnce) rfl dX7_fillOnce_80 rfl ls st H Q
theorem r42_83 : sw_A 42 83 ls st H Q = (sw_A 42 84 ls (.int (Int32.ofInt 1) :: st) H Q) := sw_A_step (cc := cX7_fillOnce) rfl dX7_fillOnce_83 rfl ls st H Q
theorem r42_84 : sw_A 42 84 ls st H Q = (sw_A 42 88 ls st H Q) := sw_A_step (cc := cX7_fillOnce) rfl dX7_fillOnce_84 rfl ls st H Q
theorem r42_87 : sw_A 42 87 ls st H Q = (sw_A 42 88 ls (.int (Int32.ofInt 0) :: st) H Q) := sw_A_step (cc := cX7_fillOnce) rfl dX7_fillOnce_87 rfl ls st H Q
theorem r42_88 : sw_A 42 88 ls st H Q = (sw_rix False st fun a i x r => sw_ast False H 1 a i (x &&& 1) fun H1 => sw_A 42 89 ls r H1 Q) := sw_A_step (cc := cX7_fillOnce) rfl dX7_fillOnce_88 rfl ls st H Q
theorem r42_89 : sw_A 42 89 ls st H Q = (sw_ldi False ls 2 fun x => sw_A 42 92 (sw_set1 ls 2 (.int (x + Int32.ofInt 1))) st H Q) := sw_A_step (cc := cX7_fillOnce) rfl dX7_fillOnce_89 rfl ls st H Q
theorem r42_92 : sw_A 42 92 ls st H Q = (sw_A 42 54 ls st H Q) := sw_A_step (cc := cX7_fillOnce) rfl dX7_fillOnce_92 rfl ls st H Q
theorem r42_95 : sw_A 42 95 ls st H Q = (sw_lda False ls 0 fun x => sw_A 42 96 ls (.ref x :: st) H Q) := sw_A_step (cc := cX7_fillOnce) rfl dX7_fillOnce_95 rfl ls st H Q
theorem r42_96 : sw_A 42 96 ls st H Q = (sw_r1 False st fun a r => sw_gf False H (some (7, 5, 1)) a fun v => sw_A 42 99 ls (v :: r) H Q) := sw_A_step (cc := cX7_fillOnce) rfl dX7_fillOnce_96 rfl ls st H Q
theorem r42_99 : sw_A 42 99 ls st H Q = (sw_pop False 1 st [] fun args r => sw_ck False r (sw_M 35 args H (sw_K 42 102 none ls r Q))) := sw_A_step (cc := cX7_fillOnce) rfl dX7_fillOnce_99 rfl ls st H Q
theorem r42_102 : sw_A 42 102 ls st H Q = (match st with | [.int x] => Q (some (some (.int x))) H | _ => False) := sw_A_step (cc := cX7_fillOnce) rfl dX7_fillOnce_102 rfl ls st H Q
theorem r43_0 : sw_A 43 0 ls st H Q = (sw_A 43 1 ls (.int (Int32.ofInt 0) :: st) H Q) := sw_A_step (cc := cX7_fill) rfl dX7_fill_0 rfl ls st H Q
theorem r43_1 : sw_A 43 1 ls st H Q = (sw_has1 False ls 2 (sw_i1 False st fun x r => sw_A 43 2 (sw_set1 ls 2 (.int x)) r H Q)) := sw_A_step (cc := cX7_fill) rfl dX7_fill_1 rfl ls st H Q
theorem r43_2 : sw_A 43 2 ls st H Q = (sw_ldi False ls 2 fun x => sw_A 43 3 ls (.int x :: st) H Q) := sw_A_step (cc := cX7_fill) rfl dX7_fill_2 rfl ls st H Q
theorem r43_3 : sw_A 43 3 ls st H Q = (sw_A 43 5 ls (.int (Int32.ofInt 36) :: st) H Q) := sw_A_step (cc := cX7_fill) rfl dX7_fill_3 rfl ls st H Q
theorem r43_5 : sw_A 43 5 ls st H Q = (sw_i2 False st fun x y r => if y ≤ x then sw_A 43 26 ls r H Q else sw_A 43 8 ls r H Q) := sw_A_step (cc := cX7_fill) rfl dX7_fill_5 rfl ls st H Q
theorem r43_8 : sw_A 43 8 ls st H Q = (sw_lda False ls 0 fun x => sw_A 43 9 ls (.ref x :: st) H Q) := sw_A_step (cc := cX7_fill) rfl dX7_fill_8 rfl ls st H Q
theorem r43_9 : sw_A 43 9 ls st H Q = (sw_r1 False st fun a r => sw_gf False H (some (7, 4, 1)) a fun v => sw_A 43 12 ls (v :: r) H Q) := sw_A_step (cc := cX7_fill) rfl dX7_fill_9 rfl ls st H Q
theorem r43_12 : sw_A 43 12 ls st H Q = (sw_ldi False ls 2 fun x => sw_A 43 13 ls (.int x :: st) H Q) := sw_A_step (cc := cX7_fill) rfl dX7_fill_12 rfl ls st H Q
theorem r43_13 : sw_A 43 13 ls st H Q = (sw_lda False ls 0 fun x => sw_A 43 14 ls (.ref x :: st) H Q) := sw_A_step (cc := cX7_fill) rfl dX7_fill_13 rfl ls st H Q
theorem r43_14 : sw_A 43 14 ls st H Q = (sw_r1 False st fun a r => sw_gf False H (some (7, 1, 1)) a fun v => sw_A 43 17 ls (v :: r) H Q) := sw_A_step (cc := cX7_fill) rfl dX7_fill_14 rfl ls st H Q
theorem r43_17 : sw_A 43 17 ls st H Q = (sw_ldi False ls 2 fun x => sw_A 43 18 ls (.int x :: st) H Q) := sw_A_step (cc := cX7_fill) rfl dX7_fill_17 rfl ls st H Q
theorem r43_18 : sw_A 43 18 ls st H Q = (sw_ri False st fun a i r => sw_ald False H 1 a i fun x => sw_A 43 19 ls (.int x :: r) H Q) := sw_A_step (cc := cX7_fill) rfl dX7_fill_18 rfl ls st H Q
theorem r43_19 : sw_A 43 19 ls st H Q = (sw_rix False st fun a i x r => sw_ast False H 1 a i (x &&& 1) fun H1 => sw_A 43 20 ls r H1 Q) := sw_A_step (cc := cX7_fill) rfl dX7_fill_19 rfl ls st H Q
theorem r43_20 : sw_A 43 20 ls st H Q = (sw_ldi False ls 2 fun x => sw_A 43 23 (sw_set1 ls 2 (.int (x + Int32.ofInt 1))) st H Q) := sw_A_step (cc := cX7_fill) rfl dX7_fill_20 rfl ls st H Q
theorem r43_23 : sw_A 43 23 ls st H Q = (sw_A 43 2 ls st H Q) := sw_A_step (cc := cX7_fill) rfl dX7_fill_23 rfl ls st H Q
theorem r43_26 : sw_A 43 26 ls st H Q = (sw_lda False ls 0 fun x => sw_A 43 27 ls (.ref x :: st) H Q) := sw_A_step (cc := cX7_fill) rfl dX7_fill_26 rfl ls st H Q
theorem r43_27 : sw_A 43 27 ls st H Q = (sw_lda False ls 0 fun x => sw_A 43 28 ls (.ref x :: st) H Q) := sw_A_step (cc := cX7_fill) rfl dX7_fill_27 rfl ls st H Q
theorem r43_28 : sw_A 43 28 ls st H Q = (sw_r1 False st fun a r => sw_gf False H (some (7, 1, 1)) a fun v => sw_A 43 31 ls (v :: r) H Q) := sw_A_step (cc := cX7_fill) rfl dX7_fill_28 rfl ls st H Q
theorem r43_31 : sw_A 43 31 ls st H Q = (sw_pop False 1 st [] fun args r => sw_ck False r (sw_M 35 args H (sw_K 43 34 none ls r Q))) := sw_A_step (cc := cX7_fill) rfl dX7_fill_31 rfl ls st H Q
theorem r43_34 : sw_A 43 34 ls st H Q = (sw_rv False st fun a v r => sw_pf False H (some (7, 6, 0)) 1 a v fun H1 => sw_A 43 37 ls r H1 Q) := sw_A_step (cc := cX7_fill) rfl dX7_fill_34 rfl ls st H Q
theorem r43_37 : sw_A 43 37 ls st H Q = (sw_lda False ls 0 fun x => sw_A 43 38 ls (.ref x :: st) H Q) := sw_A_step (cc := cX7_fill) rfl dX7_fill_37 rfl ls st H Q
theorem r43_38 : sw_A 43 38 ls st H Q = (sw_A 43 39 ls (.int (Int32.ofInt 0) :: st) H Q) := sw_A_step (cc := cX7_fill) rfl dX7_fill_38 rfl ls st H Q
theorem r43_39 : sw_A 43 39 ls st H Q = (sw_rv False st fun a v r => sw_pf False H (some (7, 7, 0)) 1 a v fun H1 => sw_A 43 42 ls r H1 Q) := sw_A_step (cc := cX7_fill) rfl dX7_fill_39 rfl ls st H Q
theorem r43_42 : sw_A 43 42 ls st H Q = (sw_A 43 43 ls (.int (Int32.ofInt 0) :: st) H Q) := sw_A_step (cc := cX7_fill) rfl dX7_fill_42 rfl ls st H Q
theorem r43_43 : sw_A 43 43 ls st H Q = (sw_has1 False ls 2 (sw_i1 False st fun x r => sw_A 43 44 (sw_set1 ls 2 (.int x)) r H Q)) := sw_A_step (cc := cX7_fill) rfl dX7_fill_43 rfl ls st H Q
theorem r43_44 : sw_A 43 44 ls st H Q = (sw_ldi False ls 2 fun x => sw_A 43 45 ls (.int x :: st) H Q) := sw_A_step (cc := cX7_fill) rfl dX7_fill_44 rfl ls st H Q
theorem r43_45 : sw_A 43 45 ls st H Q = (sw_A 43 47 ls (.int (Int32.ofInt 36) :: st) H Q) := sw_A_step (cc := cX7_fill) rfl dX7_fill_45 rfl ls st H Q
theorem r43_47 : sw_A 43 47 ls st H Q = (sw_i2 False st fun x y r => if y ≤ x then sw_A 43 89 ls r H Q else sw_A 43 50 ls r H Q) := sw_A_step (cc := cX7_fill) rfl dX7_fill_47 rfl ls st H Q
theorem r43_50 : sw_A 43 50 ls st H Q = (sw_lda False ls 0 fun x => sw_A 43 51 ls (.ref x :: st) H Q) := sw_A_step (cc := cX7_fill) rfl dX7_fill_50 rfl ls st H Q
theorem r43_51 : sw_A 43 51 ls st H Q = (sw_ldi False ls 1 fun x => sw_A 43 52 ls (.int x :: st) H Q) := sw_A_step (cc := cX7_fill) rfl dX7_fill_51 rfl ls st H Q
theorem r43_52 : sw_A 43 52 ls st H Q = (sw_pop False 2 st [] fun args r => sw_ck False r (sw_rc False H (some 7) args (sw_M 42 args H (sw_K 43 55 none ls r Q)))) := sw_A_step (cc := cX7_fill) rfl dX7_fill_52 rfl ls st H Q
theorem r43_55 : sw_A 43 55 ls st H Q = (sw_has1 False ls 3 (sw_i1 False st fun x r => sw_A 43 56 (sw_set1 ls 3 (.int x)) r H Q)) := sw_A_step (cc := cX7_fill) rfl dX7_fill_55 rfl ls st H Q
theorem r43_56 : sw_A 43 56 ls st H Q = (sw_ldi False ls 3 fun x => sw_A 43 57 ls (.int x :: st) H Q) := sw_A_step (cc := cX7_fill) rfl dX7_fill_56 rfl ls st H Q
theorem r43_57 : sw_A 43 57 ls st H Q = (sw_i1 False st fun x r => if ¬ x = 0 then sw_A 43 63 ls r H Q else sw_A 43 60 ls r H Q) := sw_A_step (cc := cX7_fill) rfl dX7_fill_57 rfl ls st H Q
theorem r43_60 : sw_A 43 60 ls st H Q = (sw_A 43 89 ls st H Q) := sw_A_step (cc := cX7_fill) rfl dX7_fill_60 rfl ls st H Q
theorem r43_63 : sw_A 43 63 ls st H Q = (sw_lda False ls 0 fun x => sw_A 43 64 ls (.ref x :: st) H Q) := sw_A_step (cc := cX7_fill) rfl dX7_fill_63 rfl ls st H Q
theorem r43_64 : sw_A 43 64 ls st H Q = (sw_r1 False st fun a r => sw_A 43 65 ls (.ref a :: .ref a :: r) H Q) := sw_A_step (cc := cX7_fill) rfl dX7_fill_64 rfl ls st H Q
theorem r43_65 : sw_A 43 65 ls st H Q = (sw_r1 False st fun a r => sw_gf False H (some (7, 6, 0)) a fun v => sw_A 43 68 ls (v :: r) H Q) := sw_A_step (cc := cX7_fill) rfl dX7_fill_65 rfl ls st H Q
theorem r43_68 : sw_A 43 68 ls st H Q = (sw_ldi False ls 3 fun x => sw_A 43 69 ls (.int x :: st) H Q) := sw_A_step (cc := cX7_fill) rfl dX7_fill_68 rfl ls st H Q
theorem r43_69 : sw_A 43 69 ls st H Q = (sw_i2 False st fun x y r => sw_A 43 70 ls (.int (x + y) :: r) H Q) := sw_A_step (cc := cX7_fill) rfl dX7_fill_69 rfl ls st H Q
theorem r43_70 : sw_A 43 70 ls st H Q = (sw_rv False st fun a v r => sw_pf False H (some (7, 6, 0)) 1 a v fun H1 => sw_A 43 73 ls r H1 Q) := sw_A_step (cc := cX7_fill) rfl dX7_fill_70 rfl ls st H Q
theorem r43_73 : sw_A 43 73 ls st H Q = (sw_lda False ls 0 fun x => sw_A 43 74 ls (.ref x :: st) H Q) := sw_A_step (cc := cX7_fill) rfl dX7_fill_73 rfl ls st H Q
theorem r43_74 : sw_A 43 74 ls st H Q = (sw_r1 False st fun a r => sw_A 43 75 ls (.ref a :: .ref a :: r) H Q) := sw_A_step (cc := cX7_fill) rfl dX7_fill_74 rfl ls st H Q
theorem r43_75 : sw_A 43 75 ls st H Q = (sw_r1 False st fun a r => sw_gf False H (some (7, 7, 0)) a fun v => sw_A 43 78 ls (v :: r) H Q) := sw_A_step (cc := cX7_fill) rfl dX7_fill_75 rfl ls st H Q
theorem r43_78 : sw_A 43 78 ls st H Q = (sw_A 43 79 ls (.int (Int32.ofInt 1) :: st) H Q) := sw_A_step (cc := cX7_fill) rfl dX7_fill_78 rfl ls st H Q
theorem r43_79 : sw_A 43 79 ls st H Q = (sw_i2 False st fun x y r => sw_A 43 80 ls (.int (x + y) :: r) H Q) := sw_A_step (cc := cX7_fill) rfl dX7_fill_79 rfl ls st H Q
theorem r43_80 : sw_A 43 80 ls st H Q = (sw_rv False st fun a v r => sw_pf False H (some (7, 7, 0)) 1 a v fun H1 => sw_A 43 83 ls r H1 Q) := sw_A_step (cc := cX7_fill) rfl dX7_fill_80 rfl ls st H Q
theorem r43_83 : sw_A 43 83 ls st H Q = (sw_ldi False ls 2 fun x => sw_A 43 86 (sw_set1 ls 2 (.int (x + Int32.ofInt 1))) st H Q) := sw_A_step (cc := cX7_fill) rfl dX7_fill_83 rfl ls st H Q
theorem r43_86 : sw_A 43 86 ls st H Q = (sw_A 43 44 ls st H Q) := sw_A_step (cc := cX7_fill) rfl dX7_fill_86 rfl ls st H Q
theorem r43_89 : sw_A 43 89 ls st H Q = (match st with | [] => Q (some none) H | _ => False) := sw_A_step (cc := cX7_fill) rfl dX7_fill_89 rfl ls st H Q
theorem r44_0 : sw_A 44 0 ls st H Q = (sw_ldi False ls 1 fun x => sw_A 44 1 ls (.int x :: st) H Q) := sw_A_step (cc := cX11_filled) rfl dX11_filled_0 rfl ls st H Q
theorem r44_1 : sw_A 44 1 ls st H Q = (sw_A 44 2 ls (.int (Int32.ofInt 1) :: st) H Q) := sw_A_step (cc := cX11_filled) rfl dX11_filled_1 rfl ls st H Q
theorem r44_2 : sw_A 44 2 ls st H Q = (sw_A 44 3 ls (.int (Int32.ofInt 4) :: st) H Q) := sw_A_step (cc := cX11_filled) rfl dX11_filled_2 rfl ls st H Q
theorem r44_3 : sw_A 44 3 ls st H Q = (sw_pop False 3 st [] fun args r => sw_ck False r (sw_M 17 args H (sw_K 44 6 none ls r Q))) := sw_A_step (cc := cX11_filled) rfl dX11_filled_3 rfl ls st H Q
theorem r44_6 : sw_A 44 6 ls st H Q = (sw_ldi False ls 2 fun x => sw_A 44 7 ls (.int x :: st) H Q) := sw_A_step (cc := cX11_filled) rfl dX11_filled_6 rfl ls st H Q
theorem r44_7 : sw_A 44 7 ls st H Q = (sw_A 44 8 ls (.int (Int32.ofInt 0) :: st) H Q) := sw_A_step (cc := cX11_filled) rfl dX11_filled_7 rfl ls st H Q
theorem r44_8 : sw_A 44 8 ls st H Q = (sw_A 44 9 ls (.int (Int32.ofInt 1) :: st) H Q) := sw_A_step (cc := cX11_filled) rfl dX11_filled_8 rfl ls st H Q
theorem r44_9 : sw_A 44 9 ls st H Q = (sw_pop False 3 st [] fun args r => sw_ck False r (sw_M 17 args H (sw_K 44 12 none ls r Q))) := sw_A_step (cc := cX11_filled) rfl dX11_filled_9 rfl ls st H Q
theorem r44_12 : sw_A 44 12 ls st H Q = (sw_lda False ls 0 fun x => sw_A 44 13 ls (.ref x :: st) H Q) := sw_A_step (cc := cX11_filled) rfl dX11_filled_12 rfl ls st H Q
theorem r44_13 : sw_A 44 13 ls st H Q = (sw_r1 False st fun a r => sw_gf False H (some (11, 2, 1)) a fun v => sw_A 44 16 ls (v :: r) H Q) := sw_A_step (cc := cX11_filled) rfl dX11_filled_13 rfl ls st H Q
theorem r44_16 : sw_A 44 16 ls st H Q = (sw_ldi False ls 1 fun x => sw_A 44 17 ls (.int x :: st) H Q) := sw_A_step (cc := cX11_filled) rfl dX11_filled_16 rfl ls st H Q
theorem r44_17 : sw_A 44 17 ls st H Q = (sw_pop False 2 st [] fun args r => sw_ck False r (sw_rc False H (some 7) args (sw_M 43 args H (sw_K 44 20 none ls r Q)))) := sw_A_step (cc := cX11_filled) rfl dX11_filled_17 rfl ls st H Q
theorem r44_20 : sw_A 44 20 ls st H Q = (sw_ldi False ls 2 fun x => sw_A 44 21 ls (.int x :: st) H Q) := sw_A_step (cc := cX11_filled) rfl dX11_filled_20 rfl ls st H Q
theorem r44_21 : sw_A 44 21 ls st H Q = (sw_i1 False st fun x r => if ¬ x = 0 then sw_A 44 34 ls r H Q else sw_A 44 24 ls r H Q) := sw_A_step (cc := cX11_filled) rfl dX11_filled_21 rfl ls st H Q
theorem r44_24 : sw_A 44 24 ls st H Q = (sw_lda False ls 0 fun x => sw_A 44 25 ls (.ref x :: st) H Q) := sw_A_step (cc := cX11_filled) rfl dX11_filled_24 rfl ls st H Q
theorem r44_25 : sw_A 44 25 ls st H Q = (sw_r1 False st fun a r => sw_gf False H (some (11, 2, 1)) a fun v => sw_A 44 28 ls (v :: r) H Q) := sw_A_step (cc := cX11_filled) rfl dX11_filled_25 rfl ls st H Q
theorem r44_28 : sw_A 44 28 ls st H Q = (sw_r1 False st fun a r => sw_gf False H (some (7, 6, 3)) a fun v => sw_A 44 31 ls (v :: r) H Q) := sw_A_step (cc := cX11_filled) rfl dX11_filled_28 rfl ls st H Q
theorem r44_31 : sw_A 44 31 ls st H Q = (sw_A 44 41 ls st H Q) := sw_A_step (cc := cX11_filled) rfl dX11_filled_31 rfl ls st H Q
theorem r44_34 : sw_A 44 34 ls st H Q = (sw_lda False ls 0 fun x => sw_A 44 35 ls (.ref x :: st) H Q) := sw_A_step (cc := cX11_filled) rfl dX11_filled_34 rfl ls st H Q
theorem r44_35 : sw_A 44 35 ls st H Q = (sw_r1 False st fun a r => sw_gf False H (some (11, 2, 1)) a fun v => sw_A 44 38 ls (v :: r) H Q) := sw_A_step (cc := cX11_filled) rfl dX11_filled_35 rfl ls st H Q
theorem r44_38 : sw_A 44 38 ls st H Q = (sw_r1 False st fun a r => sw_gf False H (some (7, 7, 3)) a fun v => sw_A 44 41 ls (v :: r) H Q) := sw_A_step (cc := cX11_filled) rfl dX11_filled_38 rfl ls st H Q
theorem r44_41 : sw_A 44 41 ls st H Q = (match st with | [.int x] => Q (some (some (.int x))) H | _ => False) := sw_A_step (cc := cX11_filled) rfl dX11_filled_41 rfl ls st H Q
theorem r45_0 : sw_A 45 0 ls st H Q = (sw_A 45 1 ls (.int (Int32.ofInt 1) :: st) H Q) := sw_A_step (cc := cL_filling) rfl dL_filling_0 rfl ls st H Q
theorem r45_1 : sw_A 45 1 ls st H Q = (sw_has1 False ls 5 (sw_i1 False st fun x r => sw_A 45 3 (sw_set1 ls 5 (.int x)) r H Q)) := sw_A_step (cc := cL_filling) rfl dL_filling_1 rfl ls st H Q
theorem r45_3 : sw_A 45 3 ls st H Q = (sw_ldi False ls 5 fun x => sw_A 45 5 ls (.int x :: st) H Q) := sw_A_step (cc := cL_filling) rfl dL_filling_3 rfl ls st H Q
theorem r45_5 : sw_A 45 5 ls st H Q = (sw_A 45 6 ls (.int (Int32.ofInt 5) :: st) H Q) := sw_A_step (cc := cL_filling) rfl dL_filling_5 rfl ls st H Q
theorem r45_6 : sw_A 45 6 ls st H Q = (sw_i2 False st fun x y r => if y ≤ x then sw_A 45 145 ls r H Q else sw_A 45 9 ls r H Q) := sw_A_step (cc := cL_filling) rfl dL_filling_6 rfl ls st H Q
theorem r45_9 : sw_A 45 9 ls st H Q = (sw_ldl False ls 3 fun x => sw_A 45 10 ls (.long x :: st) H Q) := sw_A_step (cc := cL_filling) rfl dL_filling_9 rfl ls st H Q
theorem r45_10 : sw_A 45 10 ls st H Q = (sw_has1 False ls 7 (sw_l1 False st fun x r => sw_A 45 12 (sw_set2 ls 6 (.long x)) r H Q)) := sw_A_step (cc := cL_filling) rfl dL_filling_10 rfl ls st H Q
theorem r45_12 : sw_A 45 12 ls st H Q = (sw_A 45 13 ls (.int (Int32.ofInt 0) :: st) H Q) := sw_A_step (cc := cL_filling) rfl dL_filling_12 rfl ls st H Q
theorem r45_13 : sw_A 45 13 ls st H Q = (sw_has1 False ls 8 (sw_i1 False st fun x r => sw_A 45 15 (sw_set1 ls 8 (.int x)) r H Q)) := sw_A_step (cc := cL_filling) rfl dL_filling_13 rfl ls st H Q
theorem r45_15 : sw_A 45 15 ls st H Q = (sw_A 45 16 ls (.int (Int32.ofInt 1) :: st) H Q) := sw_A_step (cc := cL_filling) rfl dL_filling_15 rfl ls st H Q
theorem r45_16 : sw_A 45 16 ls st H Q = (sw_has1 False ls 9 (sw_i1 False st fun x r => sw_A 45 18 (sw_set1 ls 9 (.int x)) r H Q)) := sw_A_step (cc := cL_filling) rfl dL_filling_16 rfl ls st H Q
theorem r45_18 : sw_A 45 18 ls st H Q = (sw_ldi False ls 9 fun x => sw_A 45 20 ls (.int x :: st) H Q) := sw_A_step (cc := cL_filling) rfl dL_filling_18 rfl ls st H Q
theorem r45_20 : sw_A 45 20 ls st H Q = (sw_i1 False st fun x r => if x = 0 then sw_A 45 110 ls r H Q else sw_A 45 23 ls r H Q) := sw_A_step (cc := cL_filling) rfl dL_filling_20 rfl ls st H Q
theorem r45_23 : sw_A 45 23 ls st H Q = (sw_ldl False ls 6 fun x => sw_A 45 25 ls (.long x :: st) H Q) := sw_A_step (cc := cL_filling) rfl dL_filling_23 rfl ls st H Q
theorem r45_25 : sw_A 45 25 ls st H Q = (sw_has1 False ls 11 (sw_l1 False st fun x r => sw_A 45 27 (sw_set2 ls 10 (.long x)) r H Q)) := sw_A_step (cc := cL_filling) rfl dL_filling_25 rfl ls st H Q
theorem r45_27 : sw_A 45 27 ls st H Q = (sw_A 45 28 ls (.int (Int32.ofInt 0) :: st) H Q) := sw_A_step (cc := cL_filling) rfl dL_filling_27 rfl ls st H Q
theorem r45_28 : sw_A 45 28 ls st H Q = (sw_has1 False ls 12 (sw_i1 False st fun x r => sw_A 45 30 (sw_set1 ls 12 (.int x)) r H Q)) := sw_A_step (cc := cL_filling) rfl dL_filling_28 rfl ls st H Q
theorem r45_30 : sw_A 45 30 ls st H Q = (sw_ldi False ls 12 fun x => sw_A 45 32 ls (.int x :: st) H Q) := sw_A_step (cc := cL_filling) rfl dL_filling_30 rfl ls st H Q
theorem r45_32 : sw_A 45 32 ls st H Q = (sw_A 45 34 ls (.int (Int32.ofInt 36) :: st) H Q) := sw_A_step (cc := cL_filling) rfl dL_filling_32 rfl ls st H Q
theorem r45_34 : sw_A 45 34 ls st H Q = (sw_i2 False st fun x y r => if y ≤ x then sw_A 45 73 ls r H Q else sw_A 45 37 ls r H Q) := sw_A_step (cc := cL_filling) rfl dL_filling_34 rfl ls st H Q
theorem r45_37 : sw_A 45 37 ls st H Q = (sw_ldl False ls 1 fun x => sw_A 45 38 ls (.long x :: st) H Q) := sw_A_step (cc := cL_filling) rfl dL_filling_37 rfl ls st H Q
theorem r45_38 : sw_A 45 38 ls st H Q = (sw_ldi False ls 12 fun x => sw_A 45 40 ls (.int x :: st) H Q) := sw_A_step (cc := cL_filling) rfl dL_filling_38 rfl ls st H Q
theorem r45_40 : sw_A 45 40 ls st H Q = (sw_pop False 2 st [] fun args r => sw_ck False r (sw_M 30 args H (sw_K 45 43 none ls r Q))) := sw_A_step (cc := cL_filling) rfl dL_filling_40 rfl ls st H Q
theorem r45_43 : sw_A 45 43 ls st H Q = (sw_i1 False st fun x r => if ¬ x = 0 then sw_A 45 67 ls r H Q else sw_A 45 46 ls r H Q) := sw_A_step (cc := cL_filling) rfl dL_filling_43 rfl ls st H Q
theorem r45_46 : sw_A 45 46 ls st H Q = (sw_ldl False ls 6 fun x => sw_A 45 48 ls (.long x :: st) H Q) := sw_A_step (cc := cL_filling) rfl dL_filling_46 rfl ls st H Q
theorem r45_48 : sw_A 45 48 ls st H Q = (sw_ldi False ls 12 fun x => sw_A 45 50 ls (.int x :: st) H Q) := sw_A_step (cc := cL_filling) rfl dL_filling_48 rfl ls st H Q
theorem r45_50 : sw_A 45 50 ls st H Q = (sw_pop False 2 st [] fun args r => sw_ck False r (sw_M 31 args H (sw_K 45 53 none ls r Q))) := sw_A_step (cc := cL_filling) rfl dL_filling_50 rfl ls st H Q
theorem r45_53 : sw_A 45 53 ls st H Q = (sw_ldi False ls 5 fun x => sw_A 45 55 ls (.int x :: st) H Q) := sw_A_step (cc := cL_filling) rfl dL_filling_53 rfl ls st H Q
theorem r45_55 : sw_A 45 55 ls st H Q = (sw_i2 False st fun x y r => if x < y then sw_A 45 67 ls r H Q else sw_A 45 58 ls r H Q) := sw_A_step (cc := cL_filling) rfl dL_filling_55 rfl ls st H Q
theorem r45_58 : sw_A 45 58 ls st H Q = (sw_ldl False ls 10 fun x => sw_A 45 60 ls (.long x :: st) H Q) := sw_A_step (cc := cL_filling) rfl dL_filling_58 rfl ls st H Q
theorem r45_60 : sw_A 45 60 ls st H Q = (sw_A 45 61 ls (.long (Int64.ofNat 1) :: st) H Q) := sw_A_step (cc := cL_filling) rfl dL_filling_60 rfl ls st H Q
theorem r45_61 : sw_A 45 61 ls st H Q = (sw_ldi False ls 12 fun x => sw_A 45 63 ls (.int x :: st) H Q) := sw_A_step (cc := cL_filling) rfl dL_filling_61 rfl ls st H Q
theorem r45_63 : sw_A 45 63 ls st H Q = (sw_li False st fun x y r => sw_A 45 64 ls (.long (x <<< (y.toInt64 &&& 63)) :: r) H Q) := sw_A_step (cc := cL_filling) rfl dL_filling_63 rfl ls st H Q
theorem r45_64 : sw_A 45 64 ls st H Q = (sw_l2 False st fun x y r => sw_A 45 65 ls (.long (x ||| y) :: r) H Q) := sw_A_step (cc := cL_filling) rfl dL_filling_64 rfl ls st H Q
theorem r45_65 : sw_A 45 65 ls st H Q = (sw_has1 False ls 11 (sw_l1 False st fun x r => sw_A 45 67 (sw_set2 ls 10 (.long x)) r H Q)) := sw_A_step (cc := cL_filling) rfl dL_filling_65 rfl ls st H Q
theorem r45_67 : sw_A 45 67 ls st H Q = (sw_ldi False ls 12 fun x => sw_A 45 70 (sw_set1 ls 12 (.int (x + Int32.ofInt 1))) st H Q) := sw_A_step (cc := cL_filling) rfl dL_filling_67 rfl ls st H Q
theorem r45_70 : sw_A 45 70 ls st H Q = (sw_A 45 30 ls st H Q) := sw_A_step (cc := cL_filling) rfl dL_filling_70 rfl ls st H Q
theorem r45_73 : sw_A 45 73 ls st H Q = (sw_ldl False ls 10 fun x => sw_A 45 75 ls (.long x :: st) H Q) := sw_A_step (cc := cL_filling) rfl dL_filling_73 rfl ls st H Q
theorem r45_75 : sw_A 45 75 ls st H Q = (sw_ldl False ls 6 fun x => sw_A 45 77 ls (.long x :: st) H Q) := sw_A_step (cc := cL_filling) rfl dL_filling_75 rfl ls st H Q
theorem r45_77 : sw_A 45 77 ls st H Q = (sw_l2 False st fun x y r => sw_A 45 78 ls (.int (lg_cmp x y) :: r) H Q) := sw_A_step (cc := cL_filling) rfl dL_filling_77 rfl ls st H Q
theorem r45_78 : sw_A 45 78 ls st H Q = (sw_i1 False st fun x r => if x = 0 then sw_A 45 85 ls r H Q else sw_A 45 81 ls r H Q) := sw_A_step (cc := cL_filling) rfl dL_filling_78 rfl ls st H Q
theorem r45_81 : sw_A 45 81 ls st H Q = (sw_A 45 82 ls (.int (Int32.ofInt 1) :: st) H Q) := sw_A_step (cc := cL_filling) rfl dL_filling_81 rfl ls st H Q
theorem r45_82 : sw_A 45 82 ls st H Q = (sw_A 45 86 ls st H Q) := sw_A_step (cc := cL_filling) rfl dL_filling_82 rfl ls st H Q
theorem r45_85 : sw_A 45 85 ls st H Q = (sw_A 45 86 ls (.int (Int32.ofInt 0) :: st) H Q) := sw_A_step (cc := cL_filling) rfl dL_filling_85 rfl ls st H Q
theorem r45_86 : sw_A 45 86 ls st H Q = (sw_has1 False ls 9 (sw_i1 False st fun x r => sw_A 45 88 (sw_set1 ls 9 (.int x)) r H Q)) := sw_A_step (cc := cL_filling) rfl dL_filling_86 rfl ls st H Q
theorem r45_88 : sw_A 45 88 ls st H Q = (sw_ldi False ls 8 fun x => sw_A 45 90 ls (.int x :: st) H Q) := sw_A_step (cc := cL_filling) rfl dL_filling_88 rfl ls st H Q
theorem r45_90 : sw_A 45 90 ls st H Q = (sw_ldi False ls 9 fun x => sw_A 45 92 ls (.int x :: st) H Q) := sw_A_step (cc := cL_filling) rfl dL_filling_90 rfl ls st H Q
theorem r45_92 : sw_A 45 92 ls st H Q = (sw_i1 False st fun x r => if x = 0 then sw_A 45 99 ls r H Q else sw_A 45 95 ls r H Q) := sw_A_step (cc := cL_filling) rfl dL_filling_92 rfl ls st H Q
theorem r45_95 : sw_A 45 95 ls st H Q = (sw_A 45 96 ls (.int (Int32.ofInt 1) :: st) H Q) := sw_A_step (cc := cL_filling) rfl dL_filling_95 rfl ls st H Q
theorem r45_96 : sw_A 45 96 ls st H Q = (sw_A 45 100 ls st H Q) := sw_A_step (cc := cL_filling) rfl dL_filling_96 rfl ls st H Q
theorem r45_99 : sw_A 45 99 ls st H Q = (sw_A 45 100 ls (.int (Int32.ofInt 0) :: st) H Q) := sw_A_step (cc := cL_filling) rfl dL_filling_99 rfl ls st H Q
theorem r45_100 : sw_A 45 100 ls st H Q = (sw_i2 False st fun x y r => sw_A 45 101 ls (.int (x + y) :: r) H Q) := sw_A_step (cc := cL_filling) rfl dL_filling_100 rfl ls st H Q
theorem r45_101 : sw_A 45 101 ls st H Q = (sw_has1 False ls 8 (sw_i1 False st fun x r => sw_A 45 103 (sw_set1 ls 8 (.int x)) r H Q)) := sw_A_step (cc := cL_filling) rfl dL_filling_101 rfl ls st H Q
theorem r45_103 : sw_A 45 103 ls st H Q = (sw_ldl False ls 10 fun x => sw_A 45 105 ls (.long x :: st) H Q) := sw_A_step (cc := cL_filling) rfl dL_filling_103 rfl ls st H Q
theorem r45_105 : sw_A 45 105 ls st H Q = (sw_has1 False ls 7 (sw_l1 False st fun x r => sw_A 45 107 (sw_set2 ls 6 (.long x)) r H Q)) := sw_A_step (cc := cL_filling) rfl dL_filling_105 rfl ls st H Q
theorem r45_107 : sw_A 45 107 ls st H Q = (sw_A 45 18 ls st H Q) := sw_A_step (cc := cL_filling) rfl dL_filling_107 rfl ls st H Q
theorem r45_110 : sw_A 45 110 ls st H Q = (sw_lda False ls 0 fun x => sw_A 45 111 ls (.ref x :: st) H Q) := sw_A_step (cc := cL_filling) rfl dL_filling_110 rfl ls st H Q
theorem r45_111 : sw_A 45 111 ls st H Q = (sw_ldi False ls 5 fun x => sw_A 45 113 ls (.int x :: st) H Q) := sw_A_step (cc := cL_filling) rfl dL_filling_111 rfl ls st H Q
theorem r45_113 : sw_A 45 113 ls st H Q = (sw_A 45 114 ls (.int (Int32.ofInt 0) :: st) H Q) := sw_A_step (cc := cL_filling) rfl dL_filling_113 rfl ls st H Q
theorem r45_114 : sw_A 45 114 ls st H Q = (sw_pop False 3 st [] fun args r => sw_ck False r (sw_rc False H (some 11) args (sw_M 44 args H (sw_K 45 117 none ls r Q)))) := sw_A_step (cc := cL_filling) rfl dL_filling_114 rfl ls st H Q
theorem r45_117 : sw_A 45 117 ls st H Q = (sw_ldl False ls 6 fun x => sw_A 45 119 ls (.long x :: st) H Q) := sw_A_step (cc := cL_filling) rfl dL_filling_117 rfl ls st H Q
theorem r45_119 : sw_A 45 119 ls st H Q = (sw_pop False 1 st [] fun args r => sw_ck False r (sw_M 37 args H (sw_K 45 122 none ls r Q))) := sw_A_step (cc := cL_filling) rfl dL_filling_119 rfl ls st H Q
theorem r45_122 : sw_A 45 122 ls st H Q = (sw_i2 False st fun x y r => if ¬ x = y then sw_A 45 137 ls r H Q else sw_A 45 125 ls r H Q) := sw_A_step (cc := cL_filling) rfl dL_filling_122 rfl ls st H Q
theorem r45_125 : sw_A 45 125 ls st H Q = (sw_lda False ls 0 fun x => sw_A 45 126 ls (.ref x :: st) H Q) := sw_A_step (cc := cL_filling) rfl dL_filling_125 rfl ls st H Q
theorem r45_126 : sw_A 45 126 ls st H Q = (sw_ldi False ls 5 fun x => sw_A 45 128 ls (.int x :: st) H Q) := sw_A_step (cc := cL_filling) rfl dL_filling_126 rfl ls st H Q
theorem r45_128 : sw_A 45 128 ls st H Q = (sw_A 45 129 ls (.int (Int32.ofInt 1) :: st) H Q) := sw_A_step (cc := cL_filling) rfl dL_filling_128 rfl ls st H Q
theorem r45_129 : sw_A 45 129 ls st H Q = (sw_pop False 3 st [] fun args r => sw_ck False r (sw_rc False H (some 11) args (sw_M 44 args H (sw_K 45 132 none ls r Q)))) := sw_A_step (cc := cL_filling) rfl dL_filling_129 rfl ls st H Q
theorem r45_132 : sw_A 45 132 ls st H Q = (sw_ldi False ls 8 fun x => sw_A 45 134 ls (.int x :: st) H Q) := sw_A_step (cc := cL_filling) rfl dL_filling_132 rfl ls st H Q
theorem r45_134 : sw_A 45 134 ls st H Q = (sw_i2 False st fun x y r => if x = y then sw_A 45 139 ls r H Q else sw_A 45 137 ls r H Q) := sw_A_step (cc := cL_filling) rfl dL_filling_134 rfl ls st H Q
theorem r45_137 : sw_A 45 137 ls st H Q = (sw_A 45 138 ls (.int (Int32.ofInt 0) :: st) H Q) := sw_A_step (cc := cL_filling) rfl dL_filling_137 rfl ls st H Q
theorem r45_138 : sw_A 45 138 ls st H Q = (match st with | [.int x] => (if 2 = 1 ∨ 2 = 2 ∧ (x = 0 ∨ x = 1) then Q (some (some (.int x))) H else False) | _ => False) := sw_A_step (cc := cL_filling) rfl dL_filling_138 rfl ls st H Q
theorem r45_139 : sw_A 45 139 ls st H Q = (sw_ldi False ls 5 fun x => sw_A 45 142 (sw_set1 ls 5 (.int (x + Int32.ofInt 1))) st H Q) := sw_A_step (cc := cL_filling) rfl dL_filling_139 rfl ls st H Q
theorem r45_142 : sw_A 45 142 ls st H Q = (sw_A 45 3 ls st H Q) := sw_A_step (cc := cL_filling) rfl dL_filling_142 rfl ls st H Q
theorem r45_145 : sw_A 45 145 ls st H Q = (sw_A 45 146 ls (.int (Int32.ofInt 1) :: st) H Q) := sw_A_step (cc := cL_filling) rfl dL_filling_145 rfl ls st H Q
theorem r45_146 : sw_A 45 146 ls st H Q = (match st with | [.int x] => (if 2 = 1 ∨ 2 = 2 ∧ (x = 0 ∨ x = 1) then Q (some (some (.int x))) H else False) | _ => False) := sw_A_step (cc := cL_filling) rfl dL_filling_146 rfl ls st H Q
theorem r46_0 : sw_A 46 0 ls st H Q = (sw_A 46 1 ls (.int (Int32.ofInt 0) :: st) H Q) := sw_A_step (cc := cX7_plant) rfl dX7_plant_0 rfl ls st H Q
theorem r46_1 : sw_A 46 1 ls st H Q = (sw_has1 False ls 2 (sw_i1 False st fun x r => sw_A 46 2 (sw_set1 ls 2 (.int x)) r H Q)) := sw_A_step (cc := cX7_plant) rfl dX7_plant_1 rfl ls st H Q
theorem r46_2 : sw_A 46 2 ls st H Q = (sw_ldi False ls 2 fun x => sw_A 46 3 ls (.int x :: st) H Q) := sw_A_step (cc := cX7_plant) rfl dX7_plant_2 rfl ls st H Q
theorem r46_3 : sw_A 46 3 ls st H Q = (sw_ldi False ls 1 fun x => sw_A 46 4 ls (.int x :: st) H Q) := sw_A_step (cc := cX7_plant) rfl dX7_plant_3 rfl ls st H Q
theorem r46_4 : sw_A 46 4 ls st H Q = (sw_i2 False st fun x y r => if y ≤ x then sw_A 46 48 ls r H Q else sw_A 46 7 ls r H Q) := sw_A_step (cc := cX7_plant) rfl dX7_plant_4 rfl ls st H Q
theorem r46_7 : sw_A 46 7 ls st H Q = (sw_lda False ls 0 fun x => sw_A 46 8 ls (.ref x :: st) H Q) := sw_A_step (cc := cX7_plant) rfl dX7_plant_7 rfl ls st H Q
theorem r46_8 : sw_A 46 8 ls st H Q = (sw_lda False ls 0 fun x => sw_A 46 9 ls (.ref x :: st) H Q) := sw_A_step (cc := cX7_plant) rfl dX7_plant_8 rfl ls st H Q
theorem r46_9 : sw_A 46 9 ls st H Q = (sw_r1 False st fun a r => sw_gf False H (some (7, 3, 0)) a fun v => sw_A 46 12 ls (v :: r) H Q) := sw_A_step (cc := cX7_plant) rfl dX7_plant_9 rfl ls st H Q
theorem r46_12 : sw_A 46 12 ls st H Q = (sw_pop False 1 st [] fun args r => sw_ck False r (sw_M 18 args H (sw_K 46 15 none ls r Q))) := sw_A_step (cc := cX7_plant) rfl dX7_plant_12 rfl ls st H Q
theorem r46_15 : sw_A 46 15 ls st H Q = (sw_rv False st fun a v r => sw_pf False H (some (7, 3, 0)) 1 a v fun H1 => sw_A 46 18 ls r H1 Q) := sw_A_step (cc := cX7_plant) rfl dX7_plant_15 rfl ls st H Q
theorem r46_18 : sw_A 46 18 ls st H Q = (sw_lda False ls 0 fun x => sw_A 46 19 ls (.ref x :: st) H Q) := sw_A_step (cc := cX7_plant) rfl dX7_plant_18 rfl ls st H Q
theorem r46_19 : sw_A 46 19 ls st H Q = (sw_r1 False st fun a r => sw_gf False H (some (7, 3, 0)) a fun v => sw_A 46 22 ls (v :: r) H Q) := sw_A_step (cc := cX7_plant) rfl dX7_plant_19 rfl ls st H Q
theorem r46_22 : sw_A 46 22 ls st H Q = (sw_A 46 24 ls (.int (Int32.ofInt 36) :: st) H Q) := sw_A_step (cc := cX7_plant) rfl dX7_plant_22 rfl ls st H Q
theorem r46_24 : sw_A 46 24 ls st H Q = (sw_i2 False st fun x y r => if y = 0 then False else sw_A 46 25 ls (.int (x - x / y * y) :: r) H Q) := sw_A_step (cc := cX7_plant) rfl dX7_plant_24 rfl ls st H Q
theorem r46_25 : sw_A 46 25 ls st H Q = (sw_has1 False ls 3 (sw_i1 False st fun x r => sw_A 46 26 (sw_set1 ls 3 (.int x)) r H Q)) := sw_A_step (cc := cX7_plant) rfl dX7_plant_25 rfl ls st H Q
theorem r46_26 : sw_A 46 26 ls st H Q = (sw_lda False ls 0 fun x => sw_A 46 27 ls (.ref x :: st) H Q) := sw_A_step (cc := cX7_plant) rfl dX7_plant_26 rfl ls st H Q
theorem r46_27 : sw_A 46 27 ls st H Q = (sw_r1 False st fun a r => sw_gf False H (some (7, 0, 1)) a fun v => sw_A 46 30 ls (v :: r) H Q) := sw_A_step (cc := cX7_plant) rfl dX7_plant_27 rfl ls st H Q
theorem r46_30 : sw_A 46 30 ls st H Q = (sw_ldi False ls 3 fun x => sw_A 46 31 ls (.int x :: st) H Q) := sw_A_step (cc := cX7_plant) rfl dX7_plant_30 rfl ls st H Q
theorem r46_31 : sw_A 46 31 ls st H Q = (sw_ri False st fun a i r => sw_ald False H 1 a i fun x => sw_A 46 32 ls (.int x :: r) H Q) := sw_A_step (cc := cX7_plant) rfl dX7_plant_31 rfl ls st H Q
theorem r46_32 : sw_A 46 32 ls st H Q = (sw_i1 False st fun x r => if ¬ x = 0 then sw_A 46 42 ls r H Q else sw_A 46 35 ls r H Q) := sw_A_step (cc := cX7_plant) rfl dX7_plant_32 rfl ls st H Q
theorem r46_35 : sw_A 46 35 ls st H Q = (sw_lda False ls 0 fun x => sw_A 46 36 ls (.ref x :: st) H Q) := sw_A_step (cc := cX7_plant) rfl dX7_plant_35 rfl ls st H Q
theorem r46_36 : sw_A 46 36 ls st H Q = (sw_r1 False st fun a r => sw_gf False H (some (7, 2, 1)) a fun v => sw_A 46 39 ls (v :: r) H Q) := sw_A_step (cc := cX7_plant) rfl dX7_plant_36 rfl ls st H Q
theorem r46_39 : sw_A 46 39 ls st H Q = (sw_ldi False ls 3 fun x => sw_A 46 40 ls (.int x :: st) H Q) := sw_A_step (cc := cX7_plant) rfl dX7_plant_39 rfl ls st H Q
theorem r46_40 : sw_A 46 40 ls st H Q = (sw_A 46 41 ls (.int (Int32.ofInt 1) :: st) H Q) := sw_A_step (cc := cX7_plant) rfl dX7_plant_40 rfl ls st H Q
theorem r46_41 : sw_A 46 41 ls st H Q = (sw_rix False st fun a i x r => sw_ast False H 1 a i (x &&& 1) fun H1 => sw_A 46 42 ls r H1 Q) := sw_A_step (cc := cX7_plant) rfl dX7_plant_41 rfl ls st H Q
theorem r46_42 : sw_A 46 42 ls st H Q = (sw_ldi False ls 2 fun x => sw_A 46 45 (sw_set1 ls 2 (.int (x + Int32.ofInt 1))) st H Q) := sw_A_step (cc := cX7_plant) rfl dX7_plant_42 rfl ls st H Q
theorem r46_45 : sw_A 46 45 ls st H Q = (sw_A 46 2 ls st H Q) := sw_A_step (cc := cX7_plant) rfl dX7_plant_45 rfl ls st H Q
theorem r46_48 : sw_A 46 48 ls st H Q = (match st with | [] => Q (some none) H | _ => False) := sw_A_step (cc := cX7_plant) rfl dX7_plant_48 rfl ls st H Q
theorem r47_0 : sw_A 47 0 ls st H Q = (sw_ldi False ls 1 fun x => sw_A 47 1 ls (.int x :: st) H Q) := sw_A_step (cc := cX11_grow) rfl dX11_grow_0 rfl ls st H Q
theorem r47_1 : sw_A 47 1 ls st H Q = (sw_A 47 2 ls (.int (Int32.ofInt 1) :: st) H Q) := sw_A_step (cc := cX11_grow) rfl dX11_grow_1 rfl ls st H Q
theorem r47_2 : sw_A 47 2 ls st H Q = (sw_A 47 5 ls (.int (Int32.ofInt 200) :: st) H Q) := sw_A_step (cc := cX11_grow) rfl dX11_grow_2 rfl ls st H Q
theorem r47_5 : sw_A 47 5 ls st H Q = (sw_pop False 3 st [] fun args r => sw_ck False r (sw_M 17 args H (sw_K 47 8 none ls r Q))) := sw_A_step (cc := cX11_grow) rfl dX11_grow_5 rfl ls st H Q
theorem r47_8 : sw_A 47 8 ls st H Q = (sw_lda False ls 0 fun x => sw_A 47 9 ls (.ref x :: st) H Q) := sw_A_step (cc := cX11_grow) rfl dX11_grow_8 rfl ls st H Q
theorem r47_9 : sw_A 47 9 ls st H Q = (sw_r1 False st fun a r => sw_gf False H (some (11, 2, 1)) a fun v => sw_A 47 12 ls (v :: r) H Q) := sw_A_step (cc := cX11_grow) rfl dX11_grow_9 rfl ls st H Q
theorem r47_12 : sw_A 47 12 ls st H Q = (sw_ldi False ls 1 fun x => sw_A 47 13 ls (.int x :: st) H Q) := sw_A_step (cc := cX11_grow) rfl dX11_grow_12 rfl ls st H Q
theorem r47_13 : sw_A 47 13 ls st H Q = (sw_pop False 2 st [] fun args r => sw_ck False r (sw_rc False H (some 7) args (sw_M 46 args H (sw_K 47 16 none ls r Q)))) := sw_A_step (cc := cX11_grow) rfl dX11_grow_13 rfl ls st H Q
theorem r47_16 : sw_A 47 16 ls st H Q = (sw_lda False ls 0 fun x => sw_A 47 17 ls (.ref x :: st) H Q) := sw_A_step (cc := cX11_grow) rfl dX11_grow_16 rfl ls st H Q
theorem r47_17 : sw_A 47 17 ls st H Q = (sw_r1 False st fun a r => sw_gf False H (some (11, 2, 1)) a fun v => sw_A 47 20 ls (v :: r) H Q) := sw_A_step (cc := cX11_grow) rfl dX11_grow_17 rfl ls st H Q
theorem r47_20 : sw_A 47 20 ls st H Q = (sw_r1 False st fun a r => sw_gf False H (some (7, 2, 3)) a fun v => sw_A 47 23 ls (v :: r) H Q) := sw_A_step (cc := cX11_grow) rfl dX11_grow_20 rfl ls st H Q
theorem r47_23 : sw_A 47 23 ls st H Q = (sw_pop False 1 st [] fun args r => sw_ck False r (sw_M 35 args H (sw_K 47 26 none ls r Q))) := sw_A_step (cc := cX11_grow) rfl dX11_grow_23 rfl ls st H Q
theorem r47_26 : sw_A 47 26 ls st H Q = (match st with | [.int x] => Q (some (some (.int x))) H | _ => False) := sw_A_step (cc := cX11_grow) rfl dX11_grow_26 rfl ls st H Q
theorem r48_0 : sw_A 48 0 ls st H Q = (sw_ldl False ls 0 fun x => sw_A 48 1 ls (.long x :: st) H Q) := sw_A_step (cc := cL_flood) rfl dL_flood_0 rfl ls st H Q
theorem r48_1 : sw_A 48 1 ls st H Q = (sw_ldl False ls 2 fun x => sw_A 48 2 ls (.long x :: st) H Q) := sw_A_step (cc := cL_flood) rfl dL_flood_1 rfl ls st H Q
theorem r48_2 : sw_A 48 2 ls st H Q = (sw_l2 False st fun x y r => sw_A 48 3 ls (.long (x &&& y) :: r) H Q) := sw_A_step (cc := cL_flood) rfl dL_flood_2 rfl ls st H Q
theorem r48_3 : sw_A 48 3 ls st H Q = (sw_has1 False ls 5 (sw_l1 False st fun x r => sw_A 48 5 (sw_set2 ls 4 (.long x)) r H Q)) := sw_A_step (cc := cL_flood) rfl dL_flood_3 rfl ls st H Q
theorem r48_5 : sw_A 48 5 ls st H Q = (sw_A 48 8 ls (.long (Int64.ofInt (-1)) :: st) H Q) := sw_A_step (cc := cL_flood) rfl dL_flood_5 rfl ls st H Q
theorem r48_8 : sw_A 48 8 ls st H Q = (sw_has1 False ls 7 (sw_l1 False st fun x r => sw_A 48 10 (sw_set2 ls 6 (.long x)) r H Q)) := sw_A_step (cc := cL_flood) rfl dL_flood_8 rfl ls st H Q
theorem r48_10 : sw_A 48 10 ls st H Q = (sw_ldl False ls 6 fun x => sw_A 48 12 ls (.long x :: st) H Q) := sw_A_step (cc := cL_flood) rfl dL_flood_10 rfl ls st H Q
theorem r48_12 : sw_A 48 12 ls st H Q = (sw_ldl False ls 4 fun x => sw_A 48 14 ls (.long x :: st) H Q) := sw_A_step (cc := cL_flood) rfl dL_flood_12 rfl ls st H Q
theorem r48_14 : sw_A 48 14 ls st H Q = (sw_l2 False st fun x y r => sw_A 48 15 ls (.int (lg_cmp x y) :: r) H Q) := sw_A_step (cc := cL_flood) rfl dL_flood_14 rfl ls st H Q
theorem r48_15 : sw_A 48 15 ls st H Q = (sw_i1 False st fun x r => if x = 0 then sw_A 48 69 ls r H Q else sw_A 48 18 ls r H Q) := sw_A_step (cc := cL_flood) rfl dL_flood_15 rfl ls st H Q
theorem r48_18 : sw_A 48 18 ls st H Q = (sw_ldl False ls 4 fun x => sw_A 48 20 ls (.long x :: st) H Q) := sw_A_step (cc := cL_flood) rfl dL_flood_18 rfl ls st H Q
theorem r48_20 : sw_A 48 20 ls st H Q = (sw_has1 False ls 7 (sw_l1 False st fun x r => sw_A 48 22 (sw_set2 ls 6 (.long x)) r H Q)) := sw_A_step (cc := cL_flood) rfl dL_flood_20 rfl ls st H Q
theorem r48_22 : sw_A 48 22 ls st H Q = (sw_A 48 23 ls (.int (Int32.ofInt 0) :: st) H Q) := sw_A_step (cc := cL_flood) rfl dL_flood_22 rfl ls st H Q
theorem r48_23 : sw_A 48 23 ls st H Q = (sw_has1 False ls 8 (sw_i1 False st fun x r => sw_A 48 25 (sw_set1 ls 8 (.int x)) r H Q)) := sw_A_step (cc := cL_flood) rfl dL_flood_23 rfl ls st H Q
theorem r48_25 : sw_A 48 25 ls st H Q = (sw_ldi False ls 8 fun x => sw_A 48 27 ls (.int x :: st) H Q) := sw_A_step (cc := cL_flood) rfl dL_flood_25 rfl ls st H Q
theorem r48_27 : sw_A 48 27 ls st H Q = (sw_A 48 29 ls (.int (Int32.ofInt 36) :: st) H Q) := sw_A_step (cc := cL_flood) rfl dL_flood_27 rfl ls st H Q
theorem r48_29 : sw_A 48 29 ls st H Q = (sw_i2 False st fun x y r => if y ≤ x then sw_A 48 66 ls r H Q else sw_A 48 32 ls r H Q) := sw_A_step (cc := cL_flood) rfl dL_flood_29 rfl ls st H Q
theorem r48_32 : sw_A 48 32 ls st H Q = (sw_ldl False ls 0 fun x => sw_A 48 33 ls (.long x :: st) H Q) := sw_A_step (cc := cL_flood) rfl dL_flood_32 rfl ls st H Q
theorem r48_33 : sw_A 48 33 ls st H Q = (sw_ldi False ls 8 fun x => sw_A 48 35 ls (.int x :: st) H Q) := sw_A_step (cc := cL_flood) rfl dL_flood_33 rfl ls st H Q
theorem r48_35 : sw_A 48 35 ls st H Q = (sw_pop False 2 st [] fun args r => sw_ck False r (sw_M 30 args H (sw_K 48 38 none ls r Q))) := sw_A_step (cc := cL_flood) rfl dL_flood_35 rfl ls st H Q
theorem r48_38 : sw_A 48 38 ls st H Q = (sw_i1 False st fun x r => if x = 0 then sw_A 48 60 ls r H Q else sw_A 48 41 ls r H Q) := sw_A_step (cc := cL_flood) rfl dL_flood_38 rfl ls st H Q
theorem r48_41 : sw_A 48 41 ls st H Q = (sw_ldl False ls 4 fun x => sw_A 48 43 ls (.long x :: st) H Q) := sw_A_step (cc := cL_flood) rfl dL_flood_41 rfl ls st H Q
theorem r48_43 : sw_A 48 43 ls st H Q = (sw_ldi False ls 8 fun x => sw_A 48 45 ls (.int x :: st) H Q) := sw_A_step (cc := cL_flood) rfl dL_flood_43 rfl ls st H Q
theorem r48_45 : sw_A 48 45 ls st H Q = (sw_pop False 2 st [] fun args r => sw_ck False r (sw_M 31 args H (sw_K 48 48 none ls r Q))) := sw_A_step (cc := cL_flood) rfl dL_flood_45 rfl ls st H Q
theorem r48_48 : sw_A 48 48 ls st H Q = (sw_i1 False st fun x r => if x ≤ 0 then sw_A 48 60 ls r H Q else sw_A 48 51 ls r H Q) := sw_A_step (cc := cL_flood) rfl dL_flood_48 rfl ls st H Q
theorem r48_51 : sw_A 48 51 ls st H Q = (sw_ldl False ls 4 fun x => sw_A 48 53 ls (.long x :: st) H Q) := sw_A_step (cc := cL_flood) rfl dL_flood_51 rfl ls st H Q
theorem r48_53 : sw_A 48 53 ls st H Q = (sw_A 48 54 ls (.long (Int64.ofNat 1) :: st) H Q) := sw_A_step (cc := cL_flood) rfl dL_flood_53 rfl ls st H Q
theorem r48_54 : sw_A 48 54 ls st H Q = (sw_ldi False ls 8 fun x => sw_A 48 56 ls (.int x :: st) H Q) := sw_A_step (cc := cL_flood) rfl dL_flood_54 rfl ls st H Q
theorem r48_56 : sw_A 48 56 ls st H Q = (sw_li False st fun x y r => sw_A 48 57 ls (.long (x <<< (y.toInt64 &&& 63)) :: r) H Q) := sw_A_step (cc := cL_flood) rfl dL_flood_56 rfl ls st H Q
theorem r48_57 : sw_A 48 57 ls st H Q = (sw_l2 False st fun x y r => sw_A 48 58 ls (.long (x ||| y) :: r) H Q) := sw_A_step (cc := cL_flood) rfl dL_flood_57 rfl ls st H Q
theorem r48_58 : sw_A 48 58 ls st H Q = (sw_has1 False ls 5 (sw_l1 False st fun x r => sw_A 48 60 (sw_set2 ls 4 (.long x)) r H Q)) := sw_A_step (cc := cL_flood) rfl dL_flood_58 rfl ls st H Q
theorem r48_60 : sw_A 48 60 ls st H Q = (sw_ldi False ls 8 fun x => sw_A 48 63 (sw_set1 ls 8 (.int (x + Int32.ofInt 1))) st H Q) := sw_A_step (cc := cL_flood) rfl dL_flood_60 rfl ls st H Q
theorem r48_63 : sw_A 48 63 ls st H Q = (sw_A 48 25 ls st H Q) := sw_A_step (cc := cL_flood) rfl dL_flood_63 rfl ls st H Q
theorem r48_66 : sw_A 48 66 ls st H Q = (sw_A 48 10 ls st H Q) := sw_A_step (cc := cL_flood) rfl dL_flood_66 rfl ls st H Q
theorem r48_69 : sw_A 48 69 ls st H Q = (sw_ldl False ls 4 fun x => sw_A 48 71 ls (.long x :: st) H Q) := sw_A_step (cc := cL_flood) rfl dL_flood_69 rfl ls st H Q
theorem r48_71 : sw_A 48 71 ls st H Q = (match st with | [.long x] => Q (some (some (.long x))) H | _ => False) := sw_A_step (cc := cL_flood) rfl dL_flood_71 rfl ls st H Q
theorem r49_0 : sw_A 49 0 ls st H Q = (sw_lda False ls 0 fun x => sw_A 49 1 ls (.ref x :: st) H Q) := sw_A_step (cc := cX10_forget) rfl dX10_forget_0 rfl ls st H Q
theorem r49_1 : sw_A 49 1 ls st H Q = (sw_A 49 2 ls (.int (Int32.ofInt 0) :: st) H Q) := sw_A_step (cc := cX10_forget) rfl dX10_forget_1 rfl ls st H Q
theorem r49_2 : sw_A 49 2 ls st H Q = (sw_rv False st fun a v r => sw_pf False H (some (10, 1, 0)) 1 a v fun H1 => sw_A 49 5 ls r H1 Q) := sw_A_step (cc := cX10_forget) rfl dX10_forget_2 rfl ls st H Q
theorem r49_5 : sw_A 49 5 ls st H Q = (sw_lda False ls 0 fun x => sw_A 49 6 ls (.ref x :: st) H Q) := sw_A_step (cc := cX10_forget) rfl dX10_forget_5 rfl ls st H Q
theorem r49_6 : sw_A 49 6 ls st H Q = (sw_A 49 7 ls (.int (Int32.ofInt 0) :: st) H Q) := sw_A_step (cc := cX10_forget) rfl dX10_forget_6 rfl ls st H Q
theorem r49_7 : sw_A 49 7 ls st H Q = (sw_rv False st fun a v r => sw_pf False H (some (10, 2, 0)) 1 a v fun H1 => sw_A 49 10 ls r H1 Q) := sw_A_step (cc := cX10_forget) rfl dX10_forget_7 rfl ls st H Q
theorem r49_10 : sw_A 49 10 ls st H Q = (match st with | [] => Q (some none) H | _ => False) := sw_A_step (cc := cX10_forget) rfl dX10_forget_10 rfl ls st H Q
theorem r50_0 : sw_A 50 0 ls st H Q = (sw_lda False ls 0 fun x => sw_A 50 1 ls (.ref x :: st) H Q) := sw_A_step (cc := cX10_add) rfl dX10_add_0 rfl ls st H Q
theorem r50_1 : sw_A 50 1 ls st H Q = (sw_r1 False st fun a r => sw_gf False H (some (10, 2, 0)) a fun v => sw_A 50 4 ls (v :: r) H Q) := sw_A_step (cc := cX10_add) rfl dX10_add_1 rfl ls st H Q
theorem r50_4 : sw_A 50 4 ls st H Q = (sw_A 50 6 ls (.int (Int32.ofInt 36) :: st) H Q) := sw_A_step (cc := cX10_add) rfl dX10_add_4 rfl ls st H Q
theorem r50_6 : sw_A 50 6 ls st H Q = (sw_i2 False st fun x y r => if y ≤ x then sw_A 50 29 ls r H Q else sw_A 50 9 ls r H Q) := sw_A_step (cc := cX10_add) rfl dX10_add_6 rfl ls st H Q
theorem r50_9 : sw_A 50 9 ls st H Q = (sw_lda False ls 0 fun x => sw_A 50 10 ls (.ref x :: st) H Q) := sw_A_step (cc := cX10_add) rfl dX10_add_9 rfl ls st H Q
theorem r50_10 : sw_A 50 10 ls st H Q = (sw_r1 False st fun a r => sw_gf False H (some (10, 0, 1)) a fun v => sw_A 50 13 ls (v :: r) H Q) := sw_A_step (cc := cX10_add) rfl dX10_add_10 rfl ls st H Q
theorem r50_13 : sw_A 50 13 ls st H Q = (sw_lda False ls 0 fun x => sw_A 50 14 ls (.ref x :: st) H Q) := sw_A_step (cc := cX10_add) rfl dX10_add_13 rfl ls st H Q
theorem r50_14 : sw_A 50 14 ls st H Q = (sw_r1 False st fun a r => sw_gf False H (some (10, 2, 0)) a fun v => sw_A 50 17 ls (v :: r) H Q) := sw_A_step (cc := cX10_add) rfl dX10_add_14 rfl ls st H Q
theorem r50_17 : sw_A 50 17 ls st H Q = (sw_ldi False ls 1 fun x => sw_A 50 18 ls (.int x :: st) H Q) := sw_A_step (cc := cX10_add) rfl dX10_add_17 rfl ls st H Q
theorem r50_18 : sw_A 50 18 ls st H Q = (sw_rix False st fun a i x r => sw_ast False H 0 a i x fun H1 => sw_A 50 19 ls r H1 Q) := sw_A_step (cc := cX10_add) rfl dX10_add_18 rfl ls st H Q
theorem r50_19 : sw_A 50 19 ls st H Q = (sw_lda False ls 0 fun x => sw_A 50 20 ls (.ref x :: st) H Q) := sw_A_step (cc := cX10_add) rfl dX10_add_19 rfl ls st H Q
theorem r50_20 : sw_A 50 20 ls st H Q = (sw_r1 False st fun a r => sw_A 50 21 ls (.ref a :: .ref a :: r) H Q) := sw_A_step (cc := cX10_add) rfl dX10_add_20 rfl ls st H Q
theorem r50_21 : sw_A 50 21 ls st H Q = (sw_r1 False st fun a r => sw_gf False H (some (10, 2, 0)) a fun v => sw_A 50 24 ls (v :: r) H Q) := sw_A_step (cc := cX10_add) rfl dX10_add_21 rfl ls st H Q
theorem r50_24 : sw_A 50 24 ls st H Q = (sw_A 50 25 ls (.int (Int32.ofInt 1) :: st) H Q) := sw_A_step (cc := cX10_add) rfl dX10_add_24 rfl ls st H Q
theorem r50_25 : sw_A 50 25 ls st H Q = (sw_i2 False st fun x y r => sw_A 50 26 ls (.int (x + y) :: r) H Q) := sw_A_step (cc := cX10_add) rfl dX10_add_25 rfl ls st H Q
theorem r50_26 : sw_A 50 26 ls st H Q = (sw_rv False st fun a v r => sw_pf False H (some (10, 2, 0)) 1 a v fun H1 => sw_A 50 29 ls r H1 Q) := sw_A_step (cc := cX10_add) rfl dX10_add_26 rfl ls st H Q
theorem r50_29 : sw_A 50 29 ls st H Q = (match st with | [] => Q (some none) H | _ => False) := sw_A_step (cc := cX10_add) rfl dX10_add_29 rfl ls st H Q
theorem r51_0 : sw_A 51 0 ls st H Q = (sw_ldi False ls 1 fun x => sw_A 51 1 ls (.int x :: st) H Q) := sw_A_step (cc := cX7_kindle) rfl dX7_kindle_0 rfl ls st H Q
theorem r51_1 : sw_A 51 1 ls st H Q = (sw_A 51 2 ls (.int (Int32.ofInt (-1)) :: st) H Q) := sw_A_step (cc := cX7_kindle) rfl dX7_kindle_1 rfl ls st H Q
theorem r51_2 : sw_A 51 2 ls st H Q = (sw_i2 False st fun x y r => if x = y then sw_A 51 29 ls r H Q else sw_A 51 5 ls r H Q) := sw_A_step (cc := cX7_kindle) rfl dX7_kindle_2 rfl ls st H Q
theorem r51_5 : sw_A 51 5 ls st H Q = (sw_lda False ls 0 fun x => sw_A 51 6 ls (.ref x :: st) H Q) := sw_A_step (cc := cX7_kindle) rfl dX7_kindle_5 rfl ls st H Q
theorem r51_6 : sw_A 51 6 ls st H Q = (sw_r1 False st fun a r => sw_gf False H (some (7, 2, 1)) a fun v => sw_A 51 9 ls (v :: r) H Q) := sw_A_step (cc := cX7_kindle) rfl dX7_kindle_6 rfl ls st H Q
theorem r51_9 : sw_A 51 9 ls st H Q = (sw_ldi False ls 1 fun x => sw_A 51 10 ls (.int x :: st) H Q) := sw_A_step (cc := cX7_kindle) rfl dX7_kindle_9 rfl ls st H Q
theorem r51_10 : sw_A 51 10 ls st H Q = (sw_ri False st fun a i r => sw_ald False H 1 a i fun x => sw_A 51 11 ls (.int x :: r) H Q) := sw_A_step (cc := cX7_kindle) rfl dX7_kindle_10 rfl ls st H Q
theorem r51_11 : sw_A 51 11 ls st H Q = (sw_i1 False st fun x r => if x = 0 then sw_A 51 29 ls r H Q else sw_A 51 14 ls r H Q) := sw_A_step (cc := cX7_kindle) rfl dX7_kindle_11 rfl ls st H Q
theorem r51_14 : sw_A 51 14 ls st H Q = (sw_lda False ls 0 fun x => sw_A 51 15 ls (.ref x :: st) H Q) := sw_A_step (cc := cX7_kindle) rfl dX7_kindle_14 rfl ls st H Q
theorem r51_15 : sw_A 51 15 ls st H Q = (sw_r1 False st fun a r => sw_gf False H (some (7, 2, 1)) a fun v => sw_A 51 18 ls (v :: r) H Q) := sw_A_step (cc := cX7_kindle) rfl dX7_kindle_15 rfl ls st H Q
theorem r51_18 : sw_A 51 18 ls st H Q = (sw_ldi False ls 1 fun x => sw_A 51 19 ls (.int x :: st) H Q) := sw_A_step (cc := cX7_kindle) rfl dX7_kindle_18 rfl ls st H Q
theorem r51_19 : sw_A 51 19 ls st H Q = (sw_A 51 20 ls (.int (Int32.ofInt 0) :: st) H Q) := sw_A_step (cc := cX7_kindle) rfl dX7_kindle_19 rfl ls st H Q
theorem r51_20 : sw_A 51 20 ls st H Q = (sw_rix False st fun a i x r => sw_ast False H 1 a i (x &&& 1) fun H1 => sw_A 51 21 ls r H1 Q) := sw_A_step (cc := cX7_kindle) rfl dX7_kindle_20 rfl ls st H Q
theorem r51_21 : sw_A 51 21 ls st H Q = (sw_lda False ls 0 fun x => sw_A 51 22 ls (.ref x :: st) H Q) := sw_A_step (cc := cX7_kindle) rfl dX7_kindle_21 rfl ls st H Q
theorem r51_22 : sw_A 51 22 ls st H Q = (sw_r1 False st fun a r => sw_gf False H (some (7, 8, 1)) a fun v => sw_A 51 25 ls (v :: r) H Q) := sw_A_step (cc := cX7_kindle) rfl dX7_kindle_22 rfl ls st H Q
theorem r51_25 : sw_A 51 25 ls st H Q = (sw_ldi False ls 1 fun x => sw_A 51 26 ls (.int x :: st) H Q) := sw_A_step (cc := cX7_kindle) rfl dX7_kindle_25 rfl ls st H Q
theorem r51_26 : sw_A 51 26 ls st H Q = (sw_pop False 2 st [] fun args r => sw_ck False r (sw_rc False H (some 10) args (sw_M 50 args H (sw_K 51 29 none ls r Q)))) := sw_A_step (cc := cX7_kindle) rfl dX7_kindle_26 rfl ls st H Q
theorem r51_29 : sw_A 51 29 ls st H Q = (match st with | [] => Q (some none) H | _ => False) := sw_A_step (cc := cX7_kindle) rfl dX7_kindle_29 rfl ls st H Q
theorem r52_0 : sw_A 52 0 ls st H Q = (sw_lda False ls 0 fun x => sw_A 52 1 ls (.ref x :: st) H Q) := sw_A_step (cc := cX10_next) rfl dX10_next_0 rfl ls st H Q
theorem r52_1 : sw_A 52 1 ls st H Q = (sw_r1 False st fun a r => sw_gf False H (some (10, 1, 0)) a fun v => sw_A 52 4 ls (v :: r) H Q) := sw_A_step (cc := cX10_next) rfl dX10_next_1 rfl ls st H Q
theorem r52_4 : sw_A 52 4 ls st H Q = (sw_lda False ls 0 fun x => sw_A 52 5 ls (.ref x :: st) H Q) := sw_A_step (cc := cX10_next) rfl dX10_next_4 rfl ls st H Q
theorem r52_5 : sw_A 52 5 ls st H Q = (sw_r1 False st fun a r => sw_gf False H (some (10, 2, 0)) a fun v => sw_A 52 8 ls (v :: r) H Q) := sw_A_step (cc := cX10_next) rfl dX10_next_5 rfl ls st H Q
theorem r52_8 : sw_A 52 8 ls st H Q = (sw_i2 False st fun x y r => if x < y then sw_A 52 13 ls r H Q else sw_A 52 11 ls r H Q) := sw_A_step (cc := cX10_next) rfl dX10_next_8 rfl ls st H Q
theorem r52_11 : sw_A 52 11 ls st H Q = (sw_A 52 12 ls (.int (Int32.ofInt (-1)) :: st) H Q) := sw_A_step (cc := cX10_next) rfl dX10_next_11 rfl ls st H Q
theorem r52_12 : sw_A 52 12 ls st H Q = (match st with | [.int x] => Q (some (some (.int x))) H | _ => False) := sw_A_step (cc := cX10_next) rfl dX10_next_12 rfl ls st H Q
theorem r52_13 : sw_A 52 13 ls st H Q = (sw_lda False ls 0 fun x => sw_A 52 14 ls (.ref x :: st) H Q) := sw_A_step (cc := cX10_next) rfl dX10_next_13 rfl ls st H Q
theorem r52_14 : sw_A 52 14 ls st H Q = (sw_r1 False st fun a r => sw_gf False H (some (10, 0, 1)) a fun v => sw_A 52 17 ls (v :: r) H Q) := sw_A_step (cc := cX10_next) rfl dX10_next_14 rfl ls st H Q
theorem r52_17 : sw_A 52 17 ls st H Q = (sw_lda False ls 0 fun x => sw_A 52 18 ls (.ref x :: st) H Q) := sw_A_step (cc := cX10_next) rfl dX10_next_17 rfl ls st H Q
theorem r52_18 : sw_A 52 18 ls st H Q = (sw_r1 False st fun a r => sw_gf False H (some (10, 1, 0)) a fun v => sw_A 52 21 ls (v :: r) H Q) := sw_A_step (cc := cX10_next) rfl dX10_next_18 rfl ls st H Q
theorem r52_21 : sw_A 52 21 ls st H Q = (sw_ri False st fun a i r => sw_ald False H 0 a i fun x => sw_A 52 22 ls (.int x :: r) H Q) := sw_A_step (cc := cX10_next) rfl dX10_next_21 rfl ls st H Q
theorem r52_22 : sw_A 52 22 ls st H Q = (sw_has1 False ls 1 (sw_i1 False st fun x r => sw_A 52 23 (sw_set1 ls 1 (.int x)) r H Q)) := sw_A_step (cc := cX10_next) rfl dX10_next_22 rfl ls st H Q
theorem r52_23 : sw_A 52 23 ls st H Q = (sw_lda False ls 0 fun x => sw_A 52 24 ls (.ref x :: st) H Q) := sw_A_step (cc := cX10_next) rfl dX10_next_23 rfl ls st H Q
theorem r52_24 : sw_A 52 24 ls st H Q = (sw_r1 False st fun a r => sw_A 52 25 ls (.ref a :: .ref a :: r) H Q) := sw_A_step (cc := cX10_next) rfl dX10_next_24 rfl ls st H Q
theorem r52_25 : sw_A 52 25 ls st H Q = (sw_r1 False st fun a r => sw_gf False H (some (10, 1, 0)) a fun v => sw_A 52 28 ls (v :: r) H Q) := sw_A_step (cc := cX10_next) rfl dX10_next_25 rfl ls st H Q
theorem r52_28 : sw_A 52 28 ls st H Q = (sw_A 52 29 ls (.int (Int32.ofInt 1) :: st) H Q) := sw_A_step (cc := cX10_next) rfl dX10_next_28 rfl ls st H Q
theorem r52_29 : sw_A 52 29 ls st H Q = (sw_i2 False st fun x y r => sw_A 52 30 ls (.int (x + y) :: r) H Q) := sw_A_step (cc := cX10_next) rfl dX10_next_29 rfl ls st H Q
theorem r52_30 : sw_A 52 30 ls st H Q = (sw_rv False st fun a v r => sw_pf False H (some (10, 1, 0)) 1 a v fun H1 => sw_A 52 33 ls r H1 Q) := sw_A_step (cc := cX10_next) rfl dX10_next_30 rfl ls st H Q
theorem r52_33 : sw_A 52 33 ls st H Q = (sw_ldi False ls 1 fun x => sw_A 52 34 ls (.int x :: st) H Q) := sw_A_step (cc := cX10_next) rfl dX10_next_33 rfl ls st H Q
theorem r52_34 : sw_A 52 34 ls st H Q = (match st with | [.int x] => Q (some (some (.int x))) H | _ => False) := sw_A_step (cc := cX10_next) rfl dX10_next_34 rfl ls st H Q
theorem r53_0 : sw_A 53 0 ls st H Q = (sw_lda False ls 0 fun x => sw_A 53 1 ls (.ref x :: st) H Q) := sw_A_step (cc := cX7_burn) rfl dX7_burn_0 rfl ls st H Q
theorem r53_1 : sw_A 53 1 ls st H Q = (sw_r1 False st fun a r => sw_gf False H (some (7, 8, 1)) a fun v => sw_A 53 4 ls (v :: r) H Q) := sw_A_step (cc := cX7_burn) rfl dX7_burn_1 rfl ls st H Q
theorem r53_4 : sw_A 53 4 ls st H Q = (sw_pop False 1 st [] fun args r => sw_ck False r (sw_rc False H (some 10) args (sw_M 49 args H (sw_K 53 7 none ls r Q)))) := sw_A_step (cc := cX7_burn) rfl dX7_burn_4 rfl ls st H Q
theorem r53_7 : sw_A 53 7 ls st H Q = (sw_lda False ls 0 fun x => sw_A 53 8 ls (.ref x :: st) H Q) := sw_A_step (cc := cX7_burn) rfl dX7_burn_7 rfl ls st H Q
theorem r53_8 : sw_A 53 8 ls st H Q = (sw_ldi False ls 1 fun x => sw_A 53 9 ls (.int x :: st) H Q) := sw_A_step (cc := cX7_burn) rfl dX7_burn_8 rfl ls st H Q
theorem r53_9 : sw_A 53 9 ls st H Q = (sw_pop False 2 st [] fun args r => sw_ck False r (sw_rc False H (some 7) args (sw_M 51 args H (sw_K 53 12 none ls r Q)))) := sw_A_step (cc := cX7_burn) rfl dX7_burn_9 rfl ls st H Q
theorem r53_12 : sw_A 53 12 ls st H Q = (sw_A 53 13 ls (.int (Int32.ofInt 0) :: st) H Q) := sw_A_step (cc := cX7_burn) rfl dX7_burn_12 rfl ls st H Q
theorem r53_13 : sw_A 53 13 ls st H Q = (sw_has1 False ls 2 (sw_i1 False st fun x r => sw_A 53 14 (sw_set1 ls 2 (.int x)) r H Q)) := sw_A_step (cc := cX7_burn) rfl dX7_burn_13 rfl ls st H Q
theorem r53_14 : sw_A 53 14 ls st H Q = (sw_ldi False ls 2 fun x => sw_A 53 15 ls (.int x :: st) H Q) := sw_A_step (cc := cX7_burn) rfl dX7_burn_14 rfl ls st H Q
theorem r53_15 : sw_A 53 15 ls st H Q = (sw_A 53 17 ls (.int (Int32.ofInt 36) :: st) H Q) := sw_A_step (cc := cX7_burn) rfl dX7_burn_15 rfl ls st H Q
theorem r53_17 : sw_A 53 17 ls st H Q = (sw_i2 False st fun x y r => if y ≤ x then sw_A 53 67 ls r H Q else sw_A 53 20 ls r H Q) := sw_A_step (cc := cX7_burn) rfl dX7_burn_17 rfl ls st H Q
theorem r53_20 : sw_A 53 20 ls st H Q = (sw_lda False ls 0 fun x => sw_A 53 21 ls (.ref x :: st) H Q) := sw_A_step (cc := cX7_burn) rfl dX7_burn_20 rfl ls st H Q
theorem r53_21 : sw_A 53 21 ls st H Q = (sw_r1 False st fun a r => sw_gf False H (some (7, 8, 1)) a fun v => sw_A 53 24 ls (v :: r) H Q) := sw_A_step (cc := cX7_burn) rfl dX7_burn_21 rfl ls st H Q
theorem r53_24 : sw_A 53 24 ls st H Q = (sw_pop False 1 st [] fun args r => sw_ck False r (sw_rc False H (some 10) args (sw_M 52 args H (sw_K 53 27 none ls r Q)))) := sw_A_step (cc := cX7_burn) rfl dX7_burn_24 rfl ls st H Q
theorem r53_27 : sw_A 53 27 ls st H Q = (sw_has1 False ls 3 (sw_i1 False st fun x r => sw_A 53 28 (sw_set1 ls 3 (.int x)) r H Q)) := sw_A_step (cc := cX7_burn) rfl dX7_burn_27 rfl ls st H Q
theorem r53_28 : sw_A 53 28 ls st H Q = (sw_ldi False ls 3 fun x => sw_A 53 29 ls (.int x :: st) H Q) := sw_A_step (cc := cX7_burn) rfl dX7_burn_28 rfl ls st H Q
theorem r53_29 : sw_A 53 29 ls st H Q = (sw_A 53 30 ls (.int (Int32.ofInt (-1)) :: st) H Q) := sw_A_step (cc := cX7_burn) rfl dX7_burn_29 rfl ls st H Q
theorem r53_30 : sw_A 53 30 ls st H Q = (sw_i2 False st fun x y r => if ¬ x = y then sw_A 53 36 ls r H Q else sw_A 53 33 ls r H Q) := sw_A_step (cc := cX7_burn) rfl dX7_burn_30 rfl ls st H Q
theorem r53_33 : sw_A 53 33 ls st H Q = (sw_A 53 67 ls st H Q) := sw_A_step (cc := cX7_burn) rfl dX7_burn_33 rfl ls st H Q
theorem r53_36 : sw_A 53 36 ls st H Q = (sw_A 53 37 ls (.int (Int32.ofInt 0) :: st) H Q) := sw_A_step (cc := cX7_burn) rfl dX7_burn_36 rfl ls st H Q
theorem r53_37 : sw_A 53 37 ls st H Q = (sw_has1 False ls 4 (sw_i1 False st fun x r => sw_A 53 39 (sw_set1 ls 4 (.int x)) r H Q)) := sw_A_step (cc := cX7_burn) rfl dX7_burn_37 rfl ls st H Q
theorem r53_39 : sw_A 53 39 ls st H Q = (sw_ldi False ls 4 fun x => sw_A 53 41 ls (.int x :: st) H Q) := sw_A_step (cc := cX7_burn) rfl dX7_burn_39 rfl ls st H Q
theorem r53_41 : sw_A 53 41 ls st H Q = (sw_A 53 42 ls (.int (Int32.ofInt 4) :: st) H Q) := sw_A_step (cc := cX7_burn) rfl dX7_burn_41 rfl ls st H Q
theorem r53_42 : sw_A 53 42 ls st H Q = (sw_i2 False st fun x y r => if y ≤ x then sw_A 53 61 ls r H Q else sw_A 53 45 ls r H Q) := sw_A_step (cc := cX7_burn) rfl dX7_burn_42 rfl ls st H Q
theorem r53_45 : sw_A 53 45 ls st H Q = (sw_lda False ls 0 fun x => sw_A 53 46 ls (.ref x :: st) H Q) := sw_A_step (cc := cX7_burn) rfl dX7_burn_45 rfl ls st H Q
theorem r53_46 : sw_A 53 46 ls st H Q = (sw_ldi False ls 3 fun x => sw_A 53 47 ls (.int x :: st) H Q) := sw_A_step (cc := cX7_burn) rfl dX7_burn_46 rfl ls st H Q
theorem r53_47 : sw_A 53 47 ls st H Q = (sw_ldi False ls 4 fun x => sw_A 53 49 ls (.int x :: st) H Q) := sw_A_step (cc := cX7_burn) rfl dX7_burn_47 rfl ls st H Q
theorem r53_49 : sw_A 53 49 ls st H Q = (sw_pop False 2 st [] fun args r => sw_ck False r (sw_M 32 args H (sw_K 53 52 none ls r Q))) := sw_A_step (cc := cX7_burn) rfl dX7_burn_49 rfl ls st H Q
theorem r53_52 : sw_A 53 52 ls st H Q = (sw_pop False 2 st [] fun args r => sw_ck False r (sw_rc False H (some 7) args (sw_M 51 args H (sw_K 53 55 none ls r Q)))) := sw_A_step (cc := cX7_burn) rfl dX7_burn_52 rfl ls st H Q
theorem r53_55 : sw_A 53 55 ls st H Q = (sw_ldi False ls 4 fun x => sw_A 53 58 (sw_set1 ls 4 (.int (x + Int32.ofInt 1))) st H Q) := sw_A_step (cc := cX7_burn) rfl dX7_burn_55 rfl ls st H Q
theorem r53_58 : sw_A 53 58 ls st H Q = (sw_A 53 39 ls st H Q) := sw_A_step (cc := cX7_burn) rfl dX7_burn_58 rfl ls st H Q
theorem r53_61 : sw_A 53 61 ls st H Q = (sw_ldi False ls 2 fun x => sw_A 53 64 (sw_set1 ls 2 (.int (x + Int32.ofInt 1))) st H Q) := sw_A_step (cc := cX7_burn) rfl dX7_burn_61 rfl ls st H Q
theorem r53_64 : sw_A 53 64 ls st H Q = (sw_A 53 14 ls st H Q) := sw_A_step (cc := cX7_burn) rfl dX7_burn_64 rfl ls st H Q
theorem r53_67 : sw_A 53 67 ls st H Q = (sw_lda False ls 0 fun x => sw_A 53 68 ls (.ref x :: st) H Q) := sw_A_step (cc := cX7_burn) rfl dX7_burn_67 rfl ls st H Q
theorem r53_68 : sw_A 53 68 ls st H Q = (sw_r1 False st fun a r => sw_gf False H (some (7, 8, 1)) a fun v => sw_A 53 71 ls (v :: r) H Q) := sw_A_step (cc := cX7_burn) rfl dX7_burn_68 rfl ls st H Q
theorem r53_71 : sw_A 53 71 ls st H Q = (sw_r1 False st fun a r => sw_gf False H (some (10, 2, 3)) a fun v => sw_A 53 74 ls (v :: r) H Q) := sw_A_step (cc := cX7_burn) rfl dX7_burn_71 rfl ls st H Q
theorem r53_74 : sw_A 53 74 ls st H Q = (match st with | [.int x] => Q (some (some (.int x))) H | _ => False) := sw_A_step (cc := cX7_burn) rfl dX7_burn_74 rfl ls st H Q
theorem r54_0 : sw_A 54 0 ls st H Q = (sw_ldi False ls 1 fun x => sw_A 54 1 ls (.int x :: st) H Q) := sw_A_step (cc := cX11_lightning) rfl dX11_lightning_0 rfl ls st H Q
theorem r54_1 : sw_A 54 1 ls st H Q = (sw_pop False 1 st [] fun args r => sw_ck False r (sw_M 25 args H (sw_K 54 4 none ls r Q))) := sw_A_step (cc := cX11_lightning) rfl dX11_lightning_1 rfl ls st H Q
theorem r54_4 : sw_A 54 4 ls st H Q = (sw_lda False ls 0 fun x => sw_A 54 5 ls (.ref x :: st) H Q) := sw_A_step (cc := cX11_lightning) rfl dX11_lightning_4 rfl ls st H Q
theorem r54_5 : sw_A 54 5 ls st H Q = (sw_r1 False st fun a r => sw_gf False H (some (11, 2, 1)) a fun v => sw_A 54 8 ls (v :: r) H Q) := sw_A_step (cc := cX11_lightning) rfl dX11_lightning_5 rfl ls st H Q
theorem r54_8 : sw_A 54 8 ls st H Q = (sw_ldi False ls 1 fun x => sw_A 54 9 ls (.int x :: st) H Q) := sw_A_step (cc := cX11_lightning) rfl dX11_lightning_8 rfl ls st H Q
theorem r54_9 : sw_A 54 9 ls st H Q = (sw_pop False 2 st [] fun args r => sw_ck False r (sw_rc False H (some 7) args (sw_M 53 args H (sw_K 54 12 none ls r Q)))) := sw_A_step (cc := cX11_lightning) rfl dX11_lightning_9 rfl ls st H Q
theorem r54_12 : sw_A 54 12 ls st H Q = (match st with | [.int x] => Q (some (some (.int x))) H | _ => False) := sw_A_step (cc := cX11_lightning) rfl dX11_lightning_12 rfl ls st H Q
theorem r55_0 : sw_A 55 0 ls st H Q = (sw_ldi False ls 0 fun x => sw_A 55 1 ls (.int x :: st) H Q) := sw_A_step (cc := cX11_needFibre) rfl dX11_needFibre_0 rfl ls st H Q
theorem r55_1 : sw_A 55 1 ls st H Q = (sw_i1 False st fun x r => if x < 0 then sw_A 55 10 ls r H Q else sw_A 55 4 ls r H Q) := sw_A_step (cc := cX11_needFibre) rfl dX11_needFibre_1 rfl ls st H Q
theorem r55_4 : sw_A 55 4 ls st H Q = (sw_ldi False ls 0 fun x => sw_A 55 5 ls (.int x :: st) H Q) := sw_A_step (cc := cX11_needFibre) rfl dX11_needFibre_4 rfl ls st H Q
theorem r55_5 : sw_A 55 5 ls st H Q = (sw_A 55 7 ls (.int (Int32.ofInt 12) :: st) H Q) := sw_A_step (cc := cX11_needFibre) rfl dX11_needFibre_5 rfl ls st H Q
theorem r55_7 : sw_A 55 7 ls st H Q = (sw_i2 False st fun x y r => if x < y then sw_A 55 21 ls r H Q else sw_A 55 10 ls r H Q) := sw_A_step (cc := cX11_needFibre) rfl dX11_needFibre_7 rfl ls st H Q
theorem r55_10 : sw_A 55 10 ls st H Q = (False) := sw_A_step (cc := cX11_needFibre) rfl dX11_needFibre_10 rfl ls st H Q
theorem r55_13 : sw_A 55 13 ls st H Q = (sw_r1 False st fun a r => sw_A 55 14 ls (.ref a :: .ref a :: r) H Q) := sw_A_step (cc := cX11_needFibre) rfl dX11_needFibre_13 rfl ls st H Q
theorem r55_14 : sw_A 55 14 ls st H Q = (False) := sw_A_step (cc := cX11_needFibre) rfl dX11_needFibre_14 rfl ls st H Q
theorem r55_17 : sw_A 55 17 ls st H Q = (False) := sw_A_step (cc := cX11_needFibre) rfl dX11_needFibre_17 rfl ls st H Q
theorem r55_20 : sw_A 55 20 ls st H Q = (False) := sw_A_step (cc := cX11_needFibre) rfl dX11_needFibre_20 rfl ls st H Q
theorem r55_21 : sw_A 55 21 ls st H Q = (match st with | [] => Q (some none) H | _ => False) := sw_A_step (cc := cX11_needFibre) rfl dX11_needFibre_21 rfl ls st H Q
theorem r56_0 : sw_A 56 0 ls st H Q = (sw_ldi False ls 1 fun x => sw_A 56 1 ls (.int x :: st) H Q) := sw_A_step (cc := cX11_fibre) rfl dX11_fibre_0 rfl ls st H Q
theorem r56_1 : sw_A 56 1 ls st H Q = (sw_pop False 1 st [] fun args r => sw_ck False r (sw_M 55 args H (sw_K 56 4 none ls r Q))) := sw_A_step (cc := cX11_fibre) rfl dX11_fibre_1 rfl ls st H Q
theorem r56_4 : sw_A 56 4 ls st H Q = (sw_ldi False ls 2 fun x => sw_A 56 5 ls (.int x :: st) H Q) := sw_A_step (cc := cX11_fibre) rfl dX11_fibre_4 rfl ls st H Q
theorem r56_5 : sw_A 56 5 ls st H Q = (sw_A 56 6 ls (.int (Int32.ofInt 1) :: st) H Q) := sw_A_step (cc := cX11_fibre) rfl dX11_fibre_5 rfl ls st H Q
theorem r56_6 : sw_A 56 6 ls st H Q = (sw_A 56 9 ls (.int (Int32.ofInt 1000) :: st) H Q) := sw_A_step (cc := cX11_fibre) rfl dX11_fibre_6 rfl ls st H Q
theorem r56_9 : sw_A 56 9 ls st H Q = (sw_pop False 3 st [] fun args r => sw_ck False r (sw_M 17 args H (sw_K 56 12 none ls r Q))) := sw_A_step (cc := cX11_fibre) rfl dX11_fibre_9 rfl ls st H Q
theorem r56_12 : sw_A 56 12 ls st H Q = (sw_lda False ls 0 fun x => sw_A 56 13 ls (.ref x :: st) H Q) := sw_A_step (cc := cX11_fibre) rfl dX11_fibre_12 rfl ls st H Q
theorem r56_13 : sw_A 56 13 ls st H Q = (sw_r1 False st fun a r => sw_gf False H (some (11, 9, 1)) a fun v => sw_A 56 16 ls (v :: r) H Q) := sw_A_step (cc := cX11_fibre) rfl dX11_fibre_13 rfl ls st H Q
theorem r56_16 : sw_A 56 16 ls st H Q = (sw_r1 False st fun a r => sw_gf False H (some (1, 0, 3)) a fun v => sw_A 56 19 ls (v :: r) H Q) := sw_A_step (cc := cX11_fibre) rfl dX11_fibre_16 rfl ls st H Q
theorem r56_19 : sw_A 56 19 ls st H Q = (sw_ldi False ls 1 fun x => sw_A 56 20 ls (.int x :: st) H Q) := sw_A_step (cc := cX11_fibre) rfl dX11_fibre_19 rfl ls st H Q
theorem r56_20 : sw_A 56 20 ls st H Q = (sw_ri False st fun a i r => sw_ald False H 0 a i fun x => sw_A 56 21 ls (.int x :: r) H Q) := sw_A_step (cc := cX11_fibre) rfl dX11_fibre_20 rfl ls st H Q
theorem r56_21 : sw_A 56 21 ls st H Q = (sw_has1 False ls 3 (sw_i1 False st fun x r => sw_A 56 22 (sw_set1 ls 3 (.int x)) r H Q)) := sw_A_step (cc := cX11_fibre) rfl dX11_fibre_21 rfl ls st H Q
theorem r56_22 : sw_A 56 22 ls st H Q = (sw_lda False ls 0 fun x => sw_A 56 23 ls (.ref x :: st) H Q) := sw_A_step (cc := cX11_fibre) rfl dX11_fibre_22 rfl ls st H Q
theorem r56_23 : sw_A 56 23 ls st H Q = (sw_r1 False st fun a r => sw_gf False H (some (11, 9, 1)) a fun v => sw_A 56 26 ls (v :: r) H Q) := sw_A_step (cc := cX11_fibre) rfl dX11_fibre_23 rfl ls st H Q
theorem r56_26 : sw_A 56 26 ls st H Q = (sw_r1 False st fun a r => sw_gf False H (some (1, 0, 3)) a fun v => sw_A 56 29 ls (v :: r) H Q) := sw_A_step (cc := cX11_fibre) rfl dX11_fibre_26 rfl ls st H Q
theorem r56_29 : sw_A 56 29 ls st H Q = (sw_ldi False ls 1 fun x => sw_A 56 30 ls (.int x :: st) H Q) := sw_A_step (cc := cX11_fibre) rfl dX11_fibre_29 rfl ls st H Q
theorem r56_30 : sw_A 56 30 ls st H Q = (sw_ldi False ls 2 fun x => sw_A 56 31 ls (.int x :: st) H Q) := sw_A_step (cc := cX11_fibre) rfl dX11_fibre_30 rfl ls st H Q
theorem r56_31 : sw_A 56 31 ls st H Q = (sw_rix False st fun a i x r => sw_ast False H 0 a i x fun H1 => sw_A 56 32 ls r H1 Q) := sw_A_step (cc := cX11_fibre) rfl dX11_fibre_31 rfl ls st H Q
theorem r56_32 : sw_A 56 32 ls st H Q = (sw_ldi False ls 3 fun x => sw_A 56 33 ls (.int x :: st) H Q) := sw_A_step (cc := cX11_fibre) rfl dX11_fibre_32 rfl ls st H Q
theorem r56_33 : sw_A 56 33 ls st H Q = (match st with | [.int x] => Q (some (some (.int x))) H | _ => False) := sw_A_step (cc := cX11_fibre) rfl dX11_fibre_33 rfl ls st H Q
theorem r57_0 : sw_A 57 0 ls st H Q = (sw_A 57 1 ls (.int (Int32.ofInt 0) :: st) H Q) := sw_A_step (cc := cX1_mend) rfl dX1_mend_0 rfl ls st H Q
theorem r57_1 : sw_A 57 1 ls st H Q = (sw_has1 False ls 1 (sw_i1 False st fun x r => sw_A 57 2 (sw_set1 ls 1 (.int x)) r H Q)) := sw_A_step (cc := cX1_mend) rfl dX1_mend_1 rfl ls st H Q
theorem r57_2 : sw_A 57 2 ls st H Q = (sw_ldi False ls 1 fun x => sw_A 57 3 ls (.int x :: st) H Q) := sw_A_step (cc := cX1_mend) rfl dX1_mend_2 rfl ls st H Q
theorem r57_3 : sw_A 57 3 ls st H Q = (sw_A 57 5 ls (.int (Int32.ofInt 12) :: st) H Q) := sw_A_step (cc := cX1_mend) rfl dX1_mend_3 rfl ls st H Q
theorem r57_5 : sw_A 57 5 ls st H Q = (sw_i2 False st fun x y r => if y ≤ x then sw_A 57 21 ls r H Q else sw_A 57 8 ls r H Q) := sw_A_step (cc := cX1_mend) rfl dX1_mend_5 rfl ls st H Q
theorem r57_8 : sw_A 57 8 ls st H Q = (sw_lda False ls 0 fun x => sw_A 57 9 ls (.ref x :: st) H Q) := sw_A_step (cc := cX1_mend) rfl dX1_mend_8 rfl ls st H Q
theorem r57_9 : sw_A 57 9 ls st H Q = (sw_r1 False st fun a r => sw_gf False H (some (1, 1, 1)) a fun v => sw_A 57 12 ls (v :: r) H Q) := sw_A_step (cc := cX1_mend) rfl dX1_mend_9 rfl ls st H Q
theorem r57_12 : sw_A 57 12 ls st H Q = (sw_ldi False ls 1 fun x => sw_A 57 13 ls (.int x :: st) H Q) := sw_A_step (cc := cX1_mend) rfl dX1_mend_12 rfl ls st H Q
theorem r57_13 : sw_A 57 13 ls st H Q = (sw_A 57 14 ls (.int (Int32.ofInt 1) :: st) H Q) := sw_A_step (cc := cX1_mend) rfl dX1_mend_13 rfl ls st H Q
theorem r57_14 : sw_A 57 14 ls st H Q = (sw_rix False st fun a i x r => sw_ast False H 1 a i (x &&& 1) fun H1 => sw_A 57 15 ls r H1 Q) := sw_A_step (cc := cX1_mend) rfl dX1_mend_14 rfl ls st H Q
theorem r57_15 : sw_A 57 15 ls st H Q = (sw_ldi False ls 1 fun x => sw_A 57 18 (sw_set1 ls 1 (.int (x + Int32.ofInt 1))) st H Q) := sw_A_step (cc := cX1_mend) rfl dX1_mend_15 rfl ls st H Q
theorem r57_18 : sw_A 57 18 ls st H Q = (sw_A 57 2 ls st H Q) := sw_A_step (cc := cX1_mend) rfl dX1_mend_18 rfl ls st H Q
theorem r57_21 : sw_A 57 21 ls st H Q = (sw_lda False ls 0 fun x => sw_A 57 22 ls (.ref x :: st) H Q) := sw_A_step (cc := cX1_mend) rfl dX1_mend_21 rfl ls st H Q
theorem r57_22 : sw_A 57 22 ls st H Q = (sw_A 57 24 ls (.int (Int32.ofInt 12) :: st) H Q) := sw_A_step (cc := cX1_mend) rfl dX1_mend_22 rfl ls st H Q
theorem r57_24 : sw_A 57 24 ls st H Q = (sw_rv False st fun a v r => sw_pf False H (some (1, 4, 0)) 1 a v fun H1 => sw_A 57 27 ls r H1 Q) := sw_A_step (cc := cX1_mend) rfl dX1_mend_24 rfl ls st H Q
theorem r57_27 : sw_A 57 27 ls st H Q = (match st with | [] => Q (some none) H | _ => False) := sw_A_step (cc := cX1_mend) rfl dX1_mend_27 rfl ls st H Q
theorem r58_0 : sw_A 58 0 ls st H Q = (sw_A 58 1 ls (.int (Int32.ofInt 0) :: st) H Q) := sw_A_step (cc := cX1_breakOnce) rfl dX1_breakOnce_0 rfl ls st H Q
theorem r58_1 : sw_A 58 1 ls st H Q = (sw_has1 False ls 1 (sw_i1 False st fun x r => sw_A 58 2 (sw_set1 ls 1 (.int x)) r H Q)) := sw_A_step (cc := cX1_breakOnce) rfl dX1_breakOnce_1 rfl ls st H Q
theorem r58_2 : sw_A 58 2 ls st H Q = (sw_ldi False ls 1 fun x => sw_A 58 3 ls (.int x :: st) H Q) := sw_A_step (cc := cX1_breakOnce) rfl dX1_breakOnce_2 rfl ls st H Q
theorem r58_3 : sw_A 58 3 ls st H Q = (sw_A 58 5 ls (.int (Int32.ofInt 12) :: st) H Q) := sw_A_step (cc := cX1_breakOnce) rfl dX1_breakOnce_3 rfl ls st H Q
theorem r58_5 : sw_A 58 5 ls st H Q = (sw_i2 False st fun x y r => if y ≤ x then sw_A 58 78 ls r H Q else sw_A 58 8 ls r H Q) := sw_A_step (cc := cX1_breakOnce) rfl dX1_breakOnce_5 rfl ls st H Q
theorem r58_8 : sw_A 58 8 ls st H Q = (sw_lda False ls 0 fun x => sw_A 58 9 ls (.ref x :: st) H Q) := sw_A_step (cc := cX1_breakOnce) rfl dX1_breakOnce_8 rfl ls st H Q
theorem r58_9 : sw_A 58 9 ls st H Q = (sw_r1 False st fun a r => sw_gf False H (some (1, 2, 1)) a fun v => sw_A 58 12 ls (v :: r) H Q) := sw_A_step (cc := cX1_breakOnce) rfl dX1_breakOnce_9 rfl ls st H Q
theorem r58_12 : sw_A 58 12 ls st H Q = (sw_ldi False ls 1 fun x => sw_A 58 13 ls (.int x :: st) H Q) := sw_A_step (cc := cX1_breakOnce) rfl dX1_breakOnce_12 rfl ls st H Q
theorem r58_13 : sw_A 58 13 ls st H Q = (sw_lda False ls 0 fun x => sw_A 58 14 ls (.ref x :: st) H Q) := sw_A_step (cc := cX1_breakOnce) rfl dX1_breakOnce_13 rfl ls st H Q
theorem r58_14 : sw_A 58 14 ls st H Q = (sw_r1 False st fun a r => sw_gf False H (some (1, 1, 1)) a fun v => sw_A 58 17 ls (v :: r) H Q) := sw_A_step (cc := cX1_breakOnce) rfl dX1_breakOnce_14 rfl ls st H Q
theorem r58_17 : sw_A 58 17 ls st H Q = (sw_ldi False ls 1 fun x => sw_A 58 18 ls (.int x :: st) H Q) := sw_A_step (cc := cX1_breakOnce) rfl dX1_breakOnce_17 rfl ls st H Q
theorem r58_18 : sw_A 58 18 ls st H Q = (sw_ri False st fun a i r => sw_ald False H 1 a i fun x => sw_A 58 19 ls (.int x :: r) H Q) := sw_A_step (cc := cX1_breakOnce) rfl dX1_breakOnce_18 rfl ls st H Q
theorem r58_19 : sw_A 58 19 ls st H Q = (sw_i1 False st fun x r => if x = 0 then sw_A 58 41 ls r H Q else sw_A 58 22 ls r H Q) := sw_A_step (cc := cX1_breakOnce) rfl dX1_breakOnce_19 rfl ls st H Q
theorem r58_22 : sw_A 58 22 ls st H Q = (sw_lda False ls 0 fun x => sw_A 58 23 ls (.ref x :: st) H Q) := sw_A_step (cc := cX1_breakOnce) rfl dX1_breakOnce_22 rfl ls st H Q
theorem r58_23 : sw_A 58 23 ls st H Q = (sw_r1 False st fun a r => sw_gf False H (some (1, 3, 1)) a fun v => sw_A 58 26 ls (v :: r) H Q) := sw_A_step (cc := cX1_breakOnce) rfl dX1_breakOnce_23 rfl ls st H Q
theorem r58_26 : sw_A 58 26 ls st H Q = (sw_ldi False ls 1 fun x => sw_A 58 27 ls (.int x :: st) H Q) := sw_A_step (cc := cX1_breakOnce) rfl dX1_breakOnce_26 rfl ls st H Q
theorem r58_27 : sw_A 58 27 ls st H Q = (sw_ri False st fun a i r => sw_ald False H 0 a i fun x => sw_A 58 28 ls (.int x :: r) H Q) := sw_A_step (cc := cX1_breakOnce) rfl dX1_breakOnce_27 rfl ls st H Q
theorem r58_28 : sw_A 58 28 ls st H Q = (sw_lda False ls 0 fun x => sw_A 58 29 ls (.ref x :: st) H Q) := sw_A_step (cc := cX1_breakOnce) rfl dX1_breakOnce_28 rfl ls st H Q
theorem r58_29 : sw_A 58 29 ls st H Q = (sw_r1 False st fun a r => sw_gf False H (some (1, 0, 1)) a fun v => sw_A 58 32 ls (v :: r) H Q) := sw_A_step (cc := cX1_breakOnce) rfl dX1_breakOnce_29 rfl ls st H Q
theorem r58_32 : sw_A 58 32 ls st H Q = (sw_ldi False ls 1 fun x => sw_A 58 33 ls (.int x :: st) H Q) := sw_A_step (cc := cX1_breakOnce) rfl dX1_breakOnce_32 rfl ls st H Q
theorem r58_33 : sw_A 58 33 ls st H Q = (sw_ri False st fun a i r => sw_ald False H 0 a i fun x => sw_A 58 34 ls (.int x :: r) H Q) := sw_A_step (cc := cX1_breakOnce) rfl dX1_breakOnce_33 rfl ls st H Q
theorem r58_34 : sw_A 58 34 ls st H Q = (sw_i2 False st fun x y r => if x ≤ y then sw_A 58 41 ls r H Q else sw_A 58 37 ls r H Q) := sw_A_step (cc := cX1_breakOnce) rfl dX1_breakOnce_34 rfl ls st H Q
theorem r58_37 : sw_A 58 37 ls st H Q = (sw_A 58 38 ls (.int (Int32.ofInt 1) :: st) H Q) := sw_A_step (cc := cX1_breakOnce) rfl dX1_breakOnce_37 rfl ls st H Q
theorem r58_38 : sw_A 58 38 ls st H Q = (sw_A 58 42 ls st H Q) := sw_A_step (cc := cX1_breakOnce) rfl dX1_breakOnce_38 rfl ls st H Q
theorem r58_41 : sw_A 58 41 ls st H Q = (sw_A 58 42 ls (.int (Int32.ofInt 0) :: st) H Q) := sw_A_step (cc := cX1_breakOnce) rfl dX1_breakOnce_41 rfl ls st H Q
theorem r58_42 : sw_A 58 42 ls st H Q = (sw_rix False st fun a i x r => sw_ast False H 1 a i (x &&& 1) fun H1 => sw_A 58 43 ls r H1 Q) := sw_A_step (cc := cX1_breakOnce) rfl dX1_breakOnce_42 rfl ls st H Q
theorem r58_43 : sw_A 58 43 ls st H Q = (sw_lda False ls 0 fun x => sw_A 58 44 ls (.ref x :: st) H Q) := sw_A_step (cc := cX1_breakOnce) rfl dX1_breakOnce_43 rfl ls st H Q
theorem r58_44 : sw_A 58 44 ls st H Q = (sw_r1 False st fun a r => sw_gf False H (some (1, 1, 1)) a fun v => sw_A 58 47 ls (v :: r) H Q) := sw_A_step (cc := cX1_breakOnce) rfl dX1_breakOnce_44 rfl ls st H Q
theorem r58_47 : sw_A 58 47 ls st H Q = (sw_ldi False ls 1 fun x => sw_A 58 48 ls (.int x :: st) H Q) := sw_A_step (cc := cX1_breakOnce) rfl dX1_breakOnce_47 rfl ls st H Q
theorem r58_48 : sw_A 58 48 ls st H Q = (sw_lda False ls 0 fun x => sw_A 58 49 ls (.ref x :: st) H Q) := sw_A_step (cc := cX1_breakOnce) rfl dX1_breakOnce_48 rfl ls st H Q
theorem r58_49 : sw_A 58 49 ls st H Q = (sw_r1 False st fun a r => sw_gf False H (some (1, 1, 1)) a fun v => sw_A 58 52 ls (v :: r) H Q) := sw_A_step (cc := cX1_breakOnce) rfl dX1_breakOnce_49 rfl ls st H Q
theorem r58_52 : sw_A 58 52 ls st H Q = (sw_ldi False ls 1 fun x => sw_A 58 53 ls (.int x :: st) H Q) := sw_A_step (cc := cX1_breakOnce) rfl dX1_breakOnce_52 rfl ls st H Q
theorem r58_53 : sw_A 58 53 ls st H Q = (sw_ri False st fun a i r => sw_ald False H 1 a i fun x => sw_A 58 54 ls (.int x :: r) H Q) := sw_A_step (cc := cX1_breakOnce) rfl dX1_breakOnce_53 rfl ls st H Q
theorem r58_54 : sw_A 58 54 ls st H Q = (sw_i1 False st fun x r => if x = 0 then sw_A 58 70 ls r H Q else sw_A 58 57 ls r H Q) := sw_A_step (cc := cX1_breakOnce) rfl dX1_breakOnce_54 rfl ls st H Q
theorem r58_57 : sw_A 58 57 ls st H Q = (sw_lda False ls 0 fun x => sw_A 58 58 ls (.ref x :: st) H Q) := sw_A_step (cc := cX1_breakOnce) rfl dX1_breakOnce_57 rfl ls st H Q
theorem r58_58 : sw_A 58 58 ls st H Q = (sw_r1 False st fun a r => sw_gf False H (some (1, 2, 1)) a fun v => sw_A 58 61 ls (v :: r) H Q) := sw_A_step (cc := cX1_breakOnce) rfl dX1_breakOnce_58 rfl ls st H Q
theorem r58_61 : sw_A 58 61 ls st H Q = (sw_ldi False ls 1 fun x => sw_A 58 62 ls (.int x :: st) H Q) := sw_A_step (cc := cX1_breakOnce) rfl dX1_breakOnce_61 rfl ls st H Q
theorem r58_62 : sw_A 58 62 ls st H Q = (sw_ri False st fun a i r => sw_ald False H 1 a i fun x => sw_A 58 63 ls (.int x :: r) H Q) := sw_A_step (cc := cX1_breakOnce) rfl dX1_breakOnce_62 rfl ls st H Q
theorem r58_63 : sw_A 58 63 ls st H Q = (sw_i1 False st fun x r => if ¬ x = 0 then sw_A 58 70 ls r H Q else sw_A 58 66 ls r H Q) := sw_A_step (cc := cX1_breakOnce) rfl dX1_breakOnce_63 rfl ls st H Q
theorem r58_66 : sw_A 58 66 ls st H Q = (sw_A 58 67 ls (.int (Int32.ofInt 1) :: st) H Q) := sw_A_step (cc := cX1_breakOnce) rfl dX1_breakOnce_66 rfl ls st H Q
theorem r58_67 : sw_A 58 67 ls st H Q = (sw_A 58 71 ls st H Q) := sw_A_step (cc := cX1_breakOnce) rfl dX1_breakOnce_67 rfl ls st H Q
theorem r58_70 : sw_A 58 70 ls st H Q = (sw_A 58 71 ls (.int (Int32.ofInt 0) :: st) H Q) := sw_A_step (cc := cX1_breakOnce) rfl dX1_breakOnce_70 rfl ls st H Q
theorem r58_71 : sw_A 58 71 ls st H Q = (sw_rix False st fun a i x r => sw_ast False H 1 a i (x &&& 1) fun H1 => sw_A 58 72 ls r H1 Q) := sw_A_step (cc := cX1_breakOnce) rfl dX1_breakOnce_71 rfl ls st H Q
theorem r58_72 : sw_A 58 72 ls st H Q = (sw_ldi False ls 1 fun x => sw_A 58 75 (sw_set1 ls 1 (.int (x + Int32.ofInt 1))) st H Q) := sw_A_step (cc := cX1_breakOnce) rfl dX1_breakOnce_72 rfl ls st H Q
theorem r58_75 : sw_A 58 75 ls st H Q = (sw_A 58 2 ls st H Q) := sw_A_step (cc := cX1_breakOnce) rfl dX1_breakOnce_75 rfl ls st H Q
theorem r58_78 : sw_A 58 78 ls st H Q = (sw_lda False ls 0 fun x => sw_A 58 79 ls (.ref x :: st) H Q) := sw_A_step (cc := cX1_breakOnce) rfl dX1_breakOnce_78 rfl ls st H Q
theorem r58_79 : sw_A 58 79 ls st H Q = (sw_r1 False st fun a r => sw_gf False H (some (1, 2, 1)) a fun v => sw_A 58 82 ls (v :: r) H Q) := sw_A_step (cc := cX1_breakOnce) rfl dX1_breakOnce_79 rfl ls st H Q
theorem r58_82 : sw_A 58 82 ls st H Q = (sw_pop False 1 st [] fun args r => sw_ck False r (sw_M 35 args H (sw_K 58 85 none ls r Q))) := sw_A_step (cc := cX1_breakOnce) rfl dX1_breakOnce_82 rfl ls st H Q
theorem r58_85 : sw_A 58 85 ls st H Q = (sw_has1 False ls 1 (sw_i1 False st fun x r => sw_A 58 86 (sw_set1 ls 1 (.int x)) r H Q)) := sw_A_step (cc := cX1_breakOnce) rfl dX1_breakOnce_85 rfl ls st H Q
theorem r58_86 : sw_A 58 86 ls st H Q = (sw_lda False ls 0 fun x => sw_A 58 87 ls (.ref x :: st) H Q) := sw_A_step (cc := cX1_breakOnce) rfl dX1_breakOnce_86 rfl ls st H Q
theorem r58_87 : sw_A 58 87 ls st H Q = (sw_r1 False st fun a r => sw_A 58 88 ls (.ref a :: .ref a :: r) H Q) := sw_A_step (cc := cX1_breakOnce) rfl dX1_breakOnce_87 rfl ls st H Q
theorem r58_88 : sw_A 58 88 ls st H Q = (sw_r1 False st fun a r => sw_gf False H (some (1, 4, 0)) a fun v => sw_A 58 91 ls (v :: r) H Q) := sw_A_step (cc := cX1_breakOnce) rfl dX1_breakOnce_88 rfl ls st H Q
theorem r58_91 : sw_A 58 91 ls st H Q = (sw_ldi False ls 1 fun x => sw_A 58 92 ls (.int x :: st) H Q) := sw_A_step (cc := cX1_breakOnce) rfl dX1_breakOnce_91 rfl ls st H Q
theorem r58_92 : sw_A 58 92 ls st H Q = (sw_i2 False st fun x y r => sw_A 58 93 ls (.int (x - y) :: r) H Q) := sw_A_step (cc := cX1_breakOnce) rfl dX1_breakOnce_92 rfl ls st H Q
theorem r58_93 : sw_A 58 93 ls st H Q = (sw_rv False st fun a v r => sw_pf False H (some (1, 4, 0)) 1 a v fun H1 => sw_A 58 96 ls r H1 Q) := sw_A_step (cc := cX1_breakOnce) rfl dX1_breakOnce_93 rfl ls st H Q
theorem r58_96 : sw_A 58 96 ls st H Q = (sw_ldi False ls 1 fun x => sw_A 58 97 ls (.int x :: st) H Q) := sw_A_step (cc := cX1_breakOnce) rfl dX1_breakOnce_96 rfl ls st H Q
theorem r58_97 : sw_A 58 97 ls st H Q = (match st with | [.int x] => Q (some (some (.int x))) H | _ => False) := sw_A_step (cc := cX1_breakOnce) rfl dX1_breakOnce_97 rfl ls st H Q
theorem r59_0 : sw_A 59 0 ls st H Q = (sw_ldi False ls 1 fun x => sw_A 59 1 ls (.int x :: st) H Q) := sw_A_step (cc := cX1_nextWhole) rfl dX1_nextWhole_0 rfl ls st H Q
theorem r59_1 : sw_A 59 1 ls st H Q = (sw_has1 False ls 3 (sw_i1 False st fun x r => sw_A 59 2 (sw_set1 ls 3 (.int x)) r H Q)) := sw_A_step (cc := cX1_nextWhole) rfl dX1_nextWhole_1 rfl ls st H Q
theorem r59_2 : sw_A 59 2 ls st H Q = (sw_A 59 3 ls (.int (Int32.ofInt 1) :: st) H Q) := sw_A_step (cc := cX1_nextWhole) rfl dX1_nextWhole_2 rfl ls st H Q
theorem r59_3 : sw_A 59 3 ls st H Q = (sw_has1 False ls 4 (sw_i1 False st fun x r => sw_A 59 5 (sw_set1 ls 4 (.int x)) r H Q)) := sw_A_step (cc := cX1_nextWhole) rfl dX1_nextWhole_3 rfl ls st H Q
theorem r59_5 : sw_A 59 5 ls st H Q = (sw_ldi False ls 4 fun x => sw_A 59 7 ls (.int x :: st) H Q) := sw_A_step (cc := cX1_nextWhole) rfl dX1_nextWhole_5 rfl ls st H Q
theorem r59_7 : sw_A 59 7 ls st H Q = (sw_A 59 9 ls (.int (Int32.ofInt 12) :: st) H Q) := sw_A_step (cc := cX1_nextWhole) rfl dX1_nextWhole_7 rfl ls st H Q
theorem r59_9 : sw_A 59 9 ls st H Q = (sw_i2 False st fun x y r => if y ≤ x then sw_A 59 36 ls r H Q else sw_A 59 12 ls r H Q) := sw_A_step (cc := cX1_nextWhole) rfl dX1_nextWhole_9 rfl ls st H Q
theorem r59_12 : sw_A 59 12 ls st H Q = (sw_ldi False ls 3 fun x => sw_A 59 13 ls (.int x :: st) H Q) := sw_A_step (cc := cX1_nextWhole) rfl dX1_nextWhole_12 rfl ls st H Q
theorem r59_13 : sw_A 59 13 ls st H Q = (sw_ldi False ls 2 fun x => sw_A 59 14 ls (.int x :: st) H Q) := sw_A_step (cc := cX1_nextWhole) rfl dX1_nextWhole_13 rfl ls st H Q
theorem r59_14 : sw_A 59 14 ls st H Q = (sw_i2 False st fun x y r => sw_A 59 15 ls (.int (x + y) :: r) H Q) := sw_A_step (cc := cX1_nextWhole) rfl dX1_nextWhole_14 rfl ls st H Q
theorem r59_15 : sw_A 59 15 ls st H Q = (sw_A 59 17 ls (.int (Int32.ofInt 12) :: st) H Q) := sw_A_step (cc := cX1_nextWhole) rfl dX1_nextWhole_15 rfl ls st H Q
theorem r59_17 : sw_A 59 17 ls st H Q = (sw_i2 False st fun x y r => if y = 0 then False else sw_A 59 18 ls (.int (x - x / y * y) :: r) H Q) := sw_A_step (cc := cX1_nextWhole) rfl dX1_nextWhole_17 rfl ls st H Q
theorem r59_18 : sw_A 59 18 ls st H Q = (sw_has1 False ls 3 (sw_i1 False st fun x r => sw_A 59 19 (sw_set1 ls 3 (.int x)) r H Q)) := sw_A_step (cc := cX1_nextWhole) rfl dX1_nextWhole_18 rfl ls st H Q
theorem r59_19 : sw_A 59 19 ls st H Q = (sw_lda False ls 0 fun x => sw_A 59 20 ls (.ref x :: st) H Q) := sw_A_step (cc := cX1_nextWhole) rfl dX1_nextWhole_19 rfl ls st H Q
theorem r59_20 : sw_A 59 20 ls st H Q = (sw_r1 False st fun a r => sw_gf False H (some (1, 1, 1)) a fun v => sw_A 59 23 ls (v :: r) H Q) := sw_A_step (cc := cX1_nextWhole) rfl dX1_nextWhole_20 rfl ls st H Q
theorem r59_23 : sw_A 59 23 ls st H Q = (sw_ldi False ls 3 fun x => sw_A 59 24 ls (.int x :: st) H Q) := sw_A_step (cc := cX1_nextWhole) rfl dX1_nextWhole_23 rfl ls st H Q
theorem r59_24 : sw_A 59 24 ls st H Q = (sw_ri False st fun a i r => sw_ald False H 1 a i fun x => sw_A 59 25 ls (.int x :: r) H Q) := sw_A_step (cc := cX1_nextWhole) rfl dX1_nextWhole_24 rfl ls st H Q
theorem r59_25 : sw_A 59 25 ls st H Q = (sw_i1 False st fun x r => if x = 0 then sw_A 59 30 ls r H Q else sw_A 59 28 ls r H Q) := sw_A_step (cc := cX1_nextWhole) rfl dX1_nextWhole_25 rfl ls st H Q
theorem r59_28 : sw_A 59 28 ls st H Q = (sw_ldi False ls 3 fun x => sw_A 59 29 ls (.int x :: st) H Q) := sw_A_step (cc := cX1_nextWhole) rfl dX1_nextWhole_28 rfl ls st H Q
theorem r59_29 : sw_A 59 29 ls st H Q = (match st with | [.int x] => Q (some (some (.int x))) H | _ => False) := sw_A_step (cc := cX1_nextWhole) rfl dX1_nextWhole_29 rfl ls st H Q
theorem r59_30 : sw_A 59 30 ls st H Q = (sw_ldi False ls 4 fun x => sw_A 59 33 (sw_set1 ls 4 (.int (x + Int32.ofInt 1))) st H Q) := sw_A_step (cc := cX1_nextWhole) rfl dX1_nextWhole_30 rfl ls st H Q
theorem r59_33 : sw_A 59 33 ls st H Q = (sw_A 59 5 ls st H Q) := sw_A_step (cc := cX1_nextWhole) rfl dX1_nextWhole_33 rfl ls st H Q
theorem r59_36 : sw_A 59 36 ls st H Q = (sw_A 59 37 ls (.int (Int32.ofInt (-1)) :: st) H Q) := sw_A_step (cc := cX1_nextWhole) rfl dX1_nextWhole_36 rfl ls st H Q
theorem r59_37 : sw_A 59 37 ls st H Q = (match st with | [.int x] => Q (some (some (.int x))) H | _ => False) := sw_A_step (cc := cX1_nextWhole) rfl dX1_nextWhole_37 rfl ls st H Q
theorem r60_0 : sw_A 60 0 ls st H Q = (sw_A 60 1 ls (.int (Int32.ofInt 0) :: st) H Q) := sw_A_step (cc := cX1_passOn) rfl dX1_passOn_0 rfl ls st H Q
theorem r60_1 : sw_A 60 1 ls st H Q = (sw_has1 False ls 1 (sw_i1 False st fun x r => sw_A 60 2 (sw_set1 ls 1 (.int x)) r H Q)) := sw_A_step (cc := cX1_passOn) rfl dX1_passOn_1 rfl ls st H Q
theorem r60_2 : sw_A 60 2 ls st H Q = (sw_ldi False ls 1 fun x => sw_A 60 3 ls (.int x :: st) H Q) := sw_A_step (cc := cX1_passOn) rfl dX1_passOn_2 rfl ls st H Q
theorem r60_3 : sw_A 60 3 ls st H Q = (sw_A 60 5 ls (.int (Int32.ofInt 12) :: st) H Q) := sw_A_step (cc := cX1_passOn) rfl dX1_passOn_3 rfl ls st H Q
theorem r60_5 : sw_A 60 5 ls st H Q = (sw_i2 False st fun x y r => if y ≤ x then sw_A 60 87 ls r H Q else sw_A 60 8 ls r H Q) := sw_A_step (cc := cX1_passOn) rfl dX1_passOn_5 rfl ls st H Q
theorem r60_8 : sw_A 60 8 ls st H Q = (sw_lda False ls 0 fun x => sw_A 60 9 ls (.ref x :: st) H Q) := sw_A_step (cc := cX1_passOn) rfl dX1_passOn_8 rfl ls st H Q
theorem r60_9 : sw_A 60 9 ls st H Q = (sw_ldi False ls 1 fun x => sw_A 60 10 ls (.int x :: st) H Q) := sw_A_step (cc := cX1_passOn) rfl dX1_passOn_9 rfl ls st H Q
theorem r60_10 : sw_A 60 10 ls st H Q = (sw_A 60 12 ls (.int (Int32.ofInt 11) :: st) H Q) := sw_A_step (cc := cX1_passOn) rfl dX1_passOn_10 rfl ls st H Q
theorem r60_12 : sw_A 60 12 ls st H Q = (sw_pop False 3 st [] fun args r => sw_ck False r (sw_rc False H (some 1) args (sw_M 59 args H (sw_K 60 15 none ls r Q)))) := sw_A_step (cc := cX1_passOn) rfl dX1_passOn_12 rfl ls st H Q
theorem r60_15 : sw_A 60 15 ls st H Q = (sw_has1 False ls 2 (sw_i1 False st fun x r => sw_A 60 16 (sw_set1 ls 2 (.int x)) r H Q)) := sw_A_step (cc := cX1_passOn) rfl dX1_passOn_15 rfl ls st H Q
theorem r60_16 : sw_A 60 16 ls st H Q = (sw_lda False ls 0 fun x => sw_A 60 17 ls (.ref x :: st) H Q) := sw_A_step (cc := cX1_passOn) rfl dX1_passOn_16 rfl ls st H Q
theorem r60_17 : sw_A 60 17 ls st H Q = (sw_ldi False ls 1 fun x => sw_A 60 18 ls (.int x :: st) H Q) := sw_A_step (cc := cX1_passOn) rfl dX1_passOn_17 rfl ls st H Q
theorem r60_18 : sw_A 60 18 ls st H Q = (sw_A 60 19 ls (.int (Int32.ofInt 1) :: st) H Q) := sw_A_step (cc := cX1_passOn) rfl dX1_passOn_18 rfl ls st H Q
theorem r60_19 : sw_A 60 19 ls st H Q = (sw_pop False 3 st [] fun args r => sw_ck False r (sw_rc False H (some 1) args (sw_M 59 args H (sw_K 60 22 none ls r Q)))) := sw_A_step (cc := cX1_passOn) rfl dX1_passOn_19 rfl ls st H Q
theorem r60_22 : sw_A 60 22 ls st H Q = (sw_has1 False ls 3 (sw_i1 False st fun x r => sw_A 60 23 (sw_set1 ls 3 (.int x)) r H Q)) := sw_A_step (cc := cX1_passOn) rfl dX1_passOn_22 rfl ls st H Q
theorem r60_23 : sw_A 60 23 ls st H Q = (sw_lda False ls 0 fun x => sw_A 60 24 ls (.ref x :: st) H Q) := sw_A_step (cc := cX1_passOn) rfl dX1_passOn_23 rfl ls st H Q
theorem r60_24 : sw_A 60 24 ls st H Q = (sw_r1 False st fun a r => sw_gf False H (some (1, 2, 1)) a fun v => sw_A 60 27 ls (v :: r) H Q) := sw_A_step (cc := cX1_passOn) rfl dX1_passOn_24 rfl ls st H Q
theorem r60_27 : sw_A 60 27 ls st H Q = (sw_ldi False ls 1 fun x => sw_A 60 28 ls (.int x :: st) H Q) := sw_A_step (cc := cX1_passOn) rfl dX1_passOn_27 rfl ls st H Q
theorem r60_28 : sw_A 60 28 ls st H Q = (sw_ri False st fun a i r => sw_ald False H 1 a i fun x => sw_A 60 29 ls (.int x :: r) H Q) := sw_A_step (cc := cX1_passOn) rfl dX1_passOn_28 rfl ls st H Q
theorem r60_29 : sw_A 60 29 ls st H Q = (sw_i1 False st fun x r => if x = 0 then sw_A 60 81 ls r H Q else sw_A 60 32 ls r H Q) := sw_A_step (cc := cX1_passOn) rfl dX1_passOn_29 rfl ls st H Q
theorem r60_32 : sw_A 60 32 ls st H Q = (sw_ldi False ls 2 fun x => sw_A 60 33 ls (.int x :: st) H Q) := sw_A_step (cc := cX1_passOn) rfl dX1_passOn_32 rfl ls st H Q
theorem r60_33 : sw_A 60 33 ls st H Q = (sw_A 60 34 ls (.int (Int32.ofInt (-1)) :: st) H Q) := sw_A_step (cc := cX1_passOn) rfl dX1_passOn_33 rfl ls st H Q
theorem r60_34 : sw_A 60 34 ls st H Q = (sw_i2 False st fun x y r => if x = y then sw_A 60 81 ls r H Q else sw_A 60 37 ls r H Q) := sw_A_step (cc := cX1_passOn) rfl dX1_passOn_34 rfl ls st H Q
theorem r60_37 : sw_A 60 37 ls st H Q = (sw_ldi False ls 3 fun x => sw_A 60 38 ls (.int x :: st) H Q) := sw_A_step (cc := cX1_passOn) rfl dX1_passOn_37 rfl ls st H Q
theorem r60_38 : sw_A 60 38 ls st H Q = (sw_A 60 39 ls (.int (Int32.ofInt (-1)) :: st) H Q) := sw_A_step (cc := cX1_passOn) rfl dX1_passOn_38 rfl ls st H Q
theorem r60_39 : sw_A 60 39 ls st H Q = (sw_i2 False st fun x y r => if x = y then sw_A 60 81 ls r H Q else sw_A 60 42 ls r H Q) := sw_A_step (cc := cX1_passOn) rfl dX1_passOn_39 rfl ls st H Q
theorem r60_42 : sw_A 60 42 ls st H Q = (sw_lda False ls 0 fun x => sw_A 60 43 ls (.ref x :: st) H Q) := sw_A_step (cc := cX1_passOn) rfl dX1_passOn_42 rfl ls st H Q
theorem r60_43 : sw_A 60 43 ls st H Q = (sw_r1 False st fun a r => sw_gf False H (some (1, 3, 1)) a fun v => sw_A 60 46 ls (v :: r) H Q) := sw_A_step (cc := cX1_passOn) rfl dX1_passOn_43 rfl ls st H Q
theorem r60_46 : sw_A 60 46 ls st H Q = (sw_ldi False ls 1 fun x => sw_A 60 47 ls (.int x :: st) H Q) := sw_A_step (cc := cX1_passOn) rfl dX1_passOn_46 rfl ls st H Q
theorem r60_47 : sw_A 60 47 ls st H Q = (sw_ri False st fun a i r => sw_ald False H 0 a i fun x => sw_A 60 48 ls (.int x :: r) H Q) := sw_A_step (cc := cX1_passOn) rfl dX1_passOn_47 rfl ls st H Q
theorem r60_48 : sw_A 60 48 ls st H Q = (sw_A 60 49 ls (.int (Int32.ofInt 2) :: st) H Q) := sw_A_step (cc := cX1_passOn) rfl dX1_passOn_48 rfl ls st H Q
theorem r60_49 : sw_A 60 49 ls st H Q = (sw_i2 False st fun x y r => if y = 0 then False else sw_A 60 50 ls (.int (x / y) :: r) H Q) := sw_A_step (cc := cX1_passOn) rfl dX1_passOn_49 rfl ls st H Q
theorem r60_50 : sw_A 60 50 ls st H Q = (sw_has1 False ls 4 (sw_i1 False st fun x r => sw_A 60 52 (sw_set1 ls 4 (.int x)) r H Q)) := sw_A_step (cc := cX1_passOn) rfl dX1_passOn_50 rfl ls st H Q
theorem r60_52 : sw_A 60 52 ls st H Q = (sw_lda False ls 0 fun x => sw_A 60 53 ls (.ref x :: st) H Q) := sw_A_step (cc := cX1_passOn) rfl dX1_passOn_52 rfl ls st H Q
theorem r60_53 : sw_A 60 53 ls st H Q = (sw_r1 False st fun a r => sw_gf False H (some (1, 3, 1)) a fun v => sw_A 60 56 ls (v :: r) H Q) := sw_A_step (cc := cX1_passOn) rfl dX1_passOn_53 rfl ls st H Q
theorem r60_56 : sw_A 60 56 ls st H Q = (sw_ldi False ls 2 fun x => sw_A 60 57 ls (.int x :: st) H Q) := sw_A_step (cc := cX1_passOn) rfl dX1_passOn_56 rfl ls st H Q
theorem r60_57 : sw_A 60 57 ls st H Q = (sw_ri False st fun a i r => sw_A 60 58 ls (.int i :: .ref a :: .int i :: .ref a :: r) H Q) := sw_A_step (cc := cX1_passOn) rfl dX1_passOn_57 rfl ls st H Q
theorem r60_58 : sw_A 60 58 ls st H Q = (sw_ri False st fun a i r => sw_ald False H 0 a i fun x => sw_A 60 59 ls (.int x :: r) H Q) := sw_A_step (cc := cX1_passOn) rfl dX1_passOn_58 rfl ls st H Q
theorem r60_59 : sw_A 60 59 ls st H Q = (sw_ldi False ls 4 fun x => sw_A 60 61 ls (.int x :: st) H Q) := sw_A_step (cc := cX1_passOn) rfl dX1_passOn_59 rfl ls st H Q
theorem r60_61 : sw_A 60 61 ls st H Q = (sw_i2 False st fun x y r => sw_A 60 62 ls (.int (x + y) :: r) H Q) := sw_A_step (cc := cX1_passOn) rfl dX1_passOn_61 rfl ls st H Q
theorem r60_62 : sw_A 60 62 ls st H Q = (sw_rix False st fun a i x r => sw_ast False H 0 a i x fun H1 => sw_A 60 63 ls r H1 Q) := sw_A_step (cc := cX1_passOn) rfl dX1_passOn_62 rfl ls st H Q
theorem r60_63 : sw_A 60 63 ls st H Q = (sw_lda False ls 0 fun x => sw_A 60 64 ls (.ref x :: st) H Q) := sw_A_step (cc := cX1_passOn) rfl dX1_passOn_63 rfl ls st H Q
theorem r60_64 : sw_A 60 64 ls st H Q = (sw_r1 False st fun a r => sw_gf False H (some (1, 3, 1)) a fun v => sw_A 60 67 ls (v :: r) H Q) := sw_A_step (cc := cX1_passOn) rfl dX1_passOn_64 rfl ls st H Q
theorem r60_67 : sw_A 60 67 ls st H Q = (sw_ldi False ls 3 fun x => sw_A 60 68 ls (.int x :: st) H Q) := sw_A_step (cc := cX1_passOn) rfl dX1_passOn_67 rfl ls st H Q
theorem r60_68 : sw_A 60 68 ls st H Q = (sw_ri False st fun a i r => sw_A 60 69 ls (.int i :: .ref a :: .int i :: .ref a :: r) H Q) := sw_A_step (cc := cX1_passOn) rfl dX1_passOn_68 rfl ls st H Q
theorem r60_69 : sw_A 60 69 ls st H Q = (sw_ri False st fun a i r => sw_ald False H 0 a i fun x => sw_A 60 70 ls (.int x :: r) H Q) := sw_A_step (cc := cX1_passOn) rfl dX1_passOn_69 rfl ls st H Q
theorem r60_70 : sw_A 60 70 ls st H Q = (sw_lda False ls 0 fun x => sw_A 60 71 ls (.ref x :: st) H Q) := sw_A_step (cc := cX1_passOn) rfl dX1_passOn_70 rfl ls st H Q
theorem r60_71 : sw_A 60 71 ls st H Q = (sw_r1 False st fun a r => sw_gf False H (some (1, 3, 1)) a fun v => sw_A 60 74 ls (v :: r) H Q) := sw_A_step (cc := cX1_passOn) rfl dX1_passOn_71 rfl ls st H Q
theorem r60_74 : sw_A 60 74 ls st H Q = (sw_ldi False ls 1 fun x => sw_A 60 75 ls (.int x :: st) H Q) := sw_A_step (cc := cX1_passOn) rfl dX1_passOn_74 rfl ls st H Q
theorem r60_75 : sw_A 60 75 ls st H Q = (sw_ri False st fun a i r => sw_ald False H 0 a i fun x => sw_A 60 76 ls (.int x :: r) H Q) := sw_A_step (cc := cX1_passOn) rfl dX1_passOn_75 rfl ls st H Q
theorem r60_76 : sw_A 60 76 ls st H Q = (sw_ldi False ls 4 fun x => sw_A 60 78 ls (.int x :: st) H Q) := sw_A_step (cc := cX1_passOn) rfl dX1_passOn_76 rfl ls st H Q
theorem r60_78 : sw_A 60 78 ls st H Q = (sw_i2 False st fun x y r => sw_A 60 79 ls (.int (x - y) :: r) H Q) := sw_A_step (cc := cX1_passOn) rfl dX1_passOn_78 rfl ls st H Q
theorem r60_79 : sw_A 60 79 ls st H Q = (sw_i2 False st fun x y r => sw_A 60 80 ls (.int (x + y) :: r) H Q) := sw_A_step (cc := cX1_passOn) rfl dX1_passOn_79 rfl ls st H Q
theorem r60_80 : sw_A 60 80 ls st H Q = (sw_rix False st fun a i x r => sw_ast False H 0 a i x fun H1 => sw_A 60 81 ls r H1 Q) := sw_A_step (cc := cX1_passOn) rfl dX1_passOn_80 rfl ls st H Q
theorem r60_81 : sw_A 60 81 ls st H Q = (sw_ldi False ls 1 fun x => sw_A 60 84 (sw_set1 ls 1 (.int (x + Int32.ofInt 1))) st H Q) := sw_A_step (cc := cX1_passOn) rfl dX1_passOn_81 rfl ls st H Q
theorem r60_84 : sw_A 60 84 ls st H Q = (sw_A 60 2 ls st H Q) := sw_A_step (cc := cX1_passOn) rfl dX1_passOn_84 rfl ls st H Q
theorem r60_87 : sw_A 60 87 ls st H Q = (match st with | [] => Q (some none) H | _ => False) := sw_A_step (cc := cX1_passOn) rfl dX1_passOn_87 rfl ls st H Q
theorem r61_0 : sw_A 61 0 ls st H Q = (sw_lda False ls 0 fun x => sw_A 61 1 ls (.ref x :: st) H Q) := sw_A_step (cc := cX1_breakByNeighbours) rfl dX1_breakByNeighbours_0 rfl ls st H Q
theorem r61_1 : sw_A 61 1 ls st H Q = (sw_pop False 1 st [] fun args r => sw_ck False r (sw_rc False H (some 1) args (sw_M 57 args H (sw_K 61 4 none ls r Q)))) := sw_A_step (cc := cX1_breakByNeighbours) rfl dX1_breakByNeighbours_1 rfl ls st H Q
theorem r61_4 : sw_A 61 4 ls st H Q = (sw_lda False ls 0 fun x => sw_A 61 5 ls (.ref x :: st) H Q) := sw_A_step (cc := cX1_breakByNeighbours) rfl dX1_breakByNeighbours_4 rfl ls st H Q
theorem r61_5 : sw_A 61 5 ls st H Q = (sw_r1 False st fun a r => sw_gf False H (some (1, 3, 1)) a fun v => sw_A 61 8 ls (v :: r) H Q) := sw_A_step (cc := cX1_breakByNeighbours) rfl dX1_breakByNeighbours_5 rfl ls st H Q
theorem r61_8 : sw_A 61 8 ls st H Q = (sw_ldi False ls 1 fun x => sw_A 61 9 ls (.int x :: st) H Q) := sw_A_step (cc := cX1_breakByNeighbours) rfl dX1_breakByNeighbours_8 rfl ls st H Q
theorem r61_9 : sw_A 61 9 ls st H Q = (sw_A 61 11 ls (.int (Int32.ofInt 12) :: st) H Q) := sw_A_step (cc := cX1_breakByNeighbours) rfl dX1_breakByNeighbours_9 rfl ls st H Q
theorem r61_11 : sw_A 61 11 ls st H Q = (sw_i2 False st fun x y r => if y = 0 then False else sw_A 61 12 ls (.int (x / y) :: r) H Q) := sw_A_step (cc := cX1_breakByNeighbours) rfl dX1_breakByNeighbours_11 rfl ls st H Q
theorem r61_12 : sw_A 61 12 ls st H Q = (sw_pop False 2 st [] fun args r => sw_ck False r (sw_M 9 args H (sw_K 61 15 none ls r Q))) := sw_A_step (cc := cX1_breakByNeighbours) rfl dX1_breakByNeighbours_12 rfl ls st H Q
theorem r61_15 : sw_A 61 15 ls st H Q = (sw_A 61 16 ls (.int (Int32.ofInt 0) :: st) H Q) := sw_A_step (cc := cX1_breakByNeighbours) rfl dX1_breakByNeighbours_15 rfl ls st H Q
theorem r61_16 : sw_A 61 16 ls st H Q = (sw_has1 False ls 2 (sw_i1 False st fun x r => sw_A 61 17 (sw_set1 ls 2 (.int x)) r H Q)) := sw_A_step (cc := cX1_breakByNeighbours) rfl dX1_breakByNeighbours_16 rfl ls st H Q
theorem r61_17 : sw_A 61 17 ls st H Q = (sw_ldi False ls 2 fun x => sw_A 61 18 ls (.int x :: st) H Q) := sw_A_step (cc := cX1_breakByNeighbours) rfl dX1_breakByNeighbours_17 rfl ls st H Q
theorem r61_18 : sw_A 61 18 ls st H Q = (sw_A 61 20 ls (.int (Int32.ofInt 12) :: st) H Q) := sw_A_step (cc := cX1_breakByNeighbours) rfl dX1_breakByNeighbours_18 rfl ls st H Q
theorem r61_20 : sw_A 61 20 ls st H Q = (sw_i2 False st fun x y r => if y ≤ x then sw_A 61 50 ls r H Q else sw_A 61 23 ls r H Q) := sw_A_step (cc := cX1_breakByNeighbours) rfl dX1_breakByNeighbours_20 rfl ls st H Q
theorem r61_23 : sw_A 61 23 ls st H Q = (sw_lda False ls 0 fun x => sw_A 61 24 ls (.ref x :: st) H Q) := sw_A_step (cc := cX1_breakByNeighbours) rfl dX1_breakByNeighbours_23 rfl ls st H Q
theorem r61_24 : sw_A 61 24 ls st H Q = (sw_r1 False st fun a r => sw_gf False H (some (1, 4, 0)) a fun v => sw_A 61 27 ls (v :: r) H Q) := sw_A_step (cc := cX1_breakByNeighbours) rfl dX1_breakByNeighbours_24 rfl ls st H Q
theorem r61_27 : sw_A 61 27 ls st H Q = (sw_i1 False st fun x r => if x ≤ 0 then sw_A 61 50 ls r H Q else sw_A 61 30 ls r H Q) := sw_A_step (cc := cX1_breakByNeighbours) rfl dX1_breakByNeighbours_27 rfl ls st H Q
theorem r61_30 : sw_A 61 30 ls st H Q = (sw_lda False ls 0 fun x => sw_A 61 31 ls (.ref x :: st) H Q) := sw_A_step (cc := cX1_breakByNeighbours) rfl dX1_breakByNeighbours_30 rfl ls st H Q
theorem r61_31 : sw_A 61 31 ls st H Q = (sw_pop False 1 st [] fun args r => sw_ck False r (sw_rc False H (some 1) args (sw_M 58 args H (sw_K 61 34 none ls r Q)))) := sw_A_step (cc := cX1_breakByNeighbours) rfl dX1_breakByNeighbours_31 rfl ls st H Q
theorem r61_34 : sw_A 61 34 ls st H Q = (sw_i1 False st fun x r => if ¬ x = 0 then sw_A 61 40 ls r H Q else sw_A 61 37 ls r H Q) := sw_A_step (cc := cX1_breakByNeighbours) rfl dX1_breakByNeighbours_34 rfl ls st H Q
theorem r61_37 : sw_A 61 37 ls st H Q = (sw_A 61 50 ls st H Q) := sw_A_step (cc := cX1_breakByNeighbours) rfl dX1_breakByNeighbours_37 rfl ls st H Q
theorem r61_40 : sw_A 61 40 ls st H Q = (sw_lda False ls 0 fun x => sw_A 61 41 ls (.ref x :: st) H Q) := sw_A_step (cc := cX1_breakByNeighbours) rfl dX1_breakByNeighbours_40 rfl ls st H Q
theorem r61_41 : sw_A 61 41 ls st H Q = (sw_pop False 1 st [] fun args r => sw_ck False r (sw_rc False H (some 1) args (sw_M 60 args H (sw_K 61 44 none ls r Q)))) := sw_A_step (cc := cX1_breakByNeighbours) rfl dX1_breakByNeighbours_41 rfl ls st H Q
theorem r61_44 : sw_A 61 44 ls st H Q = (sw_ldi False ls 2 fun x => sw_A 61 47 (sw_set1 ls 2 (.int (x + Int32.ofInt 1))) st H Q) := sw_A_step (cc := cX1_breakByNeighbours) rfl dX1_breakByNeighbours_44 rfl ls st H Q
theorem r61_47 : sw_A 61 47 ls st H Q = (sw_A 61 17 ls st H Q) := sw_A_step (cc := cX1_breakByNeighbours) rfl dX1_breakByNeighbours_47 rfl ls st H Q
theorem r61_50 : sw_A 61 50 ls st H Q = (sw_A 61 52 ls (.int (Int32.ofInt 12) :: st) H Q) := sw_A_step (cc := cX1_breakByNeighbours) rfl dX1_breakByNeighbours_50 rfl ls st H Q
theorem r61_52 : sw_A 61 52 ls st H Q = (sw_lda False ls 0 fun x => sw_A 61 53 ls (.ref x :: st) H Q) := sw_A_step (cc := cX1_breakByNeighbours) rfl dX1_breakByNeighbours_52 rfl ls st H Q
theorem r61_53 : sw_A 61 53 ls st H Q = (sw_r1 False st fun a r => sw_gf False H (some (1, 4, 0)) a fun v => sw_A 61 56 ls (v :: r) H Q) := sw_A_step (cc := cX1_breakByNeighbours) rfl dX1_breakByNeighbours_53 rfl ls st H Q
theorem r61_56 : sw_A 61 56 ls st H Q = (sw_i2 False st fun x y r => sw_A 61 57 ls (.int (x - y) :: r) H Q) := sw_A_step (cc := cX1_breakByNeighbours) rfl dX1_breakByNeighbours_56 rfl ls st H Q
theorem r61_57 : sw_A 61 57 ls st H Q = (match st with | [.int x] => Q (some (some (.int x))) H | _ => False) := sw_A_step (cc := cX1_breakByNeighbours) rfl dX1_breakByNeighbours_57 rfl ls st H Q
end sw_R
