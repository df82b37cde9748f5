section sw_R
variable (ls : sw_LS) (st : List Value) (H : sw_HS) (Q : sw_Ot → sw_HS → Prop)
theorem r119_0 : sw_A 119 0 ls st H Q = (sw_ldi False ls 2 fun x => sw_A 119 1 ls (.int x :: st) H Q) := sw_A_step (cc := cX4_isFree) rfl dX4_isFree_0 rfl ls st H Q
theorem r119_1 : sw_A 119 1 ls st H Q = (sw_ldi False ls 3 fun x => sw_A 119 2 ls (.int x :: st) H Q) := sw_A_step (cc := cX4_isFree) rfl dX4_isFree_1 rfl ls st H Q
theorem r119_2 : sw_A 119 2 ls st H Q = (sw_pop False 2 st [] fun args r => sw_ck False r (sw_M 89 args H (sw_K 119 5 none ls r Q))) := sw_A_step (cc := cX4_isFree) rfl dX4_isFree_2 rfl ls st H Q
theorem r119_5 : sw_A 119 5 ls st H Q = (sw_has1 False ls 4 (sw_i1 False st fun x r => sw_A 119 7 (sw_set1 ls 4 (.int x)) r H Q)) := sw_A_step (cc := cX4_isFree) rfl dX4_isFree_5 rfl ls st H Q
theorem r119_7 : sw_A 119 7 ls st H Q = (sw_ldi False ls 2 fun x => sw_A 119 8 ls (.int x :: st) H Q) := sw_A_step (cc := cX4_isFree) rfl dX4_isFree_7 rfl ls st H Q
theorem r119_8 : sw_A 119 8 ls st H Q = (sw_ldi False ls 3 fun x => sw_A 119 9 ls (.int x :: st) H Q) := sw_A_step (cc := cX4_isFree) rfl dX4_isFree_8 rfl ls st H Q
theorem r119_9 : sw_A 119 9 ls st H Q = (sw_i2 False st fun x y r => if y ≤ x then sw_A 119 30 ls r H Q else sw_A 119 12 ls r H Q) := sw_A_step (cc := cX4_isFree) rfl dX4_isFree_9 rfl ls st H Q
theorem r119_12 : sw_A 119 12 ls st H Q = (sw_lda False ls 0 fun x => sw_A 119 13 ls (.ref x :: st) H Q) := sw_A_step (cc := cX4_isFree) rfl dX4_isFree_12 rfl ls st H Q
theorem r119_13 : sw_A 119 13 ls st H Q = (sw_r1 False st fun a r => sw_gf False H (some (4, 0, 1)) a fun v => sw_A 119 16 ls (v :: r) H Q) := sw_A_step (cc := cX4_isFree) rfl dX4_isFree_13 rfl ls st H Q
theorem r119_16 : sw_A 119 16 ls st H Q = (sw_ldi False ls 4 fun x => sw_A 119 18 ls (.int x :: st) H Q) := sw_A_step (cc := cX4_isFree) rfl dX4_isFree_16 rfl ls st H Q
theorem r119_18 : sw_A 119 18 ls st H Q = (sw_ri False st fun a i r => sw_ald False H 0 a i fun x => sw_A 119 19 ls (.int x :: r) H Q) := sw_A_step (cc := cX4_isFree) rfl dX4_isFree_18 rfl ls st H Q
theorem r119_19 : sw_A 119 19 ls st H Q = (sw_i1 False st fun x r => if x ≤ 0 then sw_A 119 26 ls r H Q else sw_A 119 22 ls r H Q) := sw_A_step (cc := cX4_isFree) rfl dX4_isFree_19 rfl ls st H Q
theorem r119_22 : sw_A 119 22 ls st H Q = (sw_A 119 23 ls (.int (Int32.ofInt 1) :: st) H Q) := sw_A_step (cc := cX4_isFree) rfl dX4_isFree_22 rfl ls st H Q
theorem r119_23 : sw_A 119 23 ls st H Q = (sw_A 119 45 ls st H Q) := sw_A_step (cc := cX4_isFree) rfl dX4_isFree_23 rfl ls st H Q
theorem r119_26 : sw_A 119 26 ls st H Q = (sw_A 119 27 ls (.int (Int32.ofInt 0) :: st) H Q) := sw_A_step (cc := cX4_isFree) rfl dX4_isFree_26 rfl ls st H Q
theorem r119_27 : sw_A 119 27 ls st H Q = (sw_A 119 45 ls st H Q) := sw_A_step (cc := cX4_isFree) rfl dX4_isFree_27 rfl ls st H Q
theorem r119_30 : sw_A 119 30 ls st H Q = (sw_lda False ls 0 fun x => sw_A 119 31 ls (.ref x :: st) H Q) := sw_A_step (cc := cX4_isFree) rfl dX4_isFree_30 rfl ls st H Q
theorem r119_31 : sw_A 119 31 ls st H Q = (sw_r1 False st fun a r => sw_gf False H (some (4, 0, 1)) a fun v => sw_A 119 34 ls (v :: r) H Q) := sw_A_step (cc := cX4_isFree) rfl dX4_isFree_31 rfl ls st H Q
theorem r119_34 : sw_A 119 34 ls st H Q = (sw_ldi False ls 4 fun x => sw_A 119 36 ls (.int x :: st) H Q) := sw_A_step (cc := cX4_isFree) rfl dX4_isFree_34 rfl ls st H Q
theorem r119_36 : sw_A 119 36 ls st H Q = (sw_ri False st fun a i r => sw_ald False H 0 a i fun x => sw_A 119 37 ls (.int x :: r) H Q) := sw_A_step (cc := cX4_isFree) rfl dX4_isFree_36 rfl ls st H Q
theorem r119_37 : sw_A 119 37 ls st H Q = (sw_i1 False st fun x r => if 0 ≤ x then sw_A 119 44 ls r H Q else sw_A 119 40 ls r H Q) := sw_A_step (cc := cX4_isFree) rfl dX4_isFree_37 rfl ls st H Q
theorem r119_40 : sw_A 119 40 ls st H Q = (sw_A 119 41 ls (.int (Int32.ofInt 1) :: st) H Q) := sw_A_step (cc := cX4_isFree) rfl dX4_isFree_40 rfl ls st H Q
theorem r119_41 : sw_A 119 41 ls st H Q = (sw_A 119 45 ls st H Q) := sw_A_step (cc := cX4_isFree) rfl dX4_isFree_41 rfl ls st H Q
theorem r119_44 : sw_A 119 44 ls st H Q = (sw_A 119 45 ls (.int (Int32.ofInt 0) :: st) H Q) := sw_A_step (cc := cX4_isFree) rfl dX4_isFree_44 rfl ls st H Q
theorem r119_45 : sw_A 119 45 ls st H Q = (sw_has1 False ls 5 (sw_i1 False st fun x r => sw_A 119 47 (sw_set1 ls 5 (.int x)) r H Q)) := sw_A_step (cc := cX4_isFree) rfl dX4_isFree_45 rfl ls st H Q
theorem r119_47 : sw_A 119 47 ls st H Q = (sw_lda False ls 1 fun x => sw_A 119 48 ls (.ref x :: st) H Q) := sw_A_step (cc := cX4_isFree) rfl dX4_isFree_47 rfl ls st H Q
theorem r119_48 : sw_A 119 48 ls st H Q = (sw_r1 False st fun a r => sw_gf False H (some (9, 1, 3)) a fun v => sw_A 119 51 ls (v :: r) H Q) := sw_A_step (cc := cX4_isFree) rfl dX4_isFree_48 rfl ls st H Q
theorem r119_51 : sw_A 119 51 ls st H Q = (sw_ldi False ls 4 fun x => sw_A 119 53 ls (.int x :: st) H Q) := sw_A_step (cc := cX4_isFree) rfl dX4_isFree_51 rfl ls st H Q
theorem r119_53 : sw_A 119 53 ls st H Q = (sw_ri False st fun a i r => sw_ald False H 1 a i fun x => sw_A 119 54 ls (.int x :: r) H Q) := sw_A_step (cc := cX4_isFree) rfl dX4_isFree_53 rfl ls st H Q
theorem r119_54 : sw_A 119 54 ls st H Q = (sw_i1 False st fun x r => if x = 0 then sw_A 119 66 ls r H Q else sw_A 119 57 ls r H Q) := sw_A_step (cc := cX4_isFree) rfl dX4_isFree_54 rfl ls st H Q
theorem r119_57 : sw_A 119 57 ls st H Q = (sw_ldi False ls 5 fun x => sw_A 119 59 ls (.int x :: st) H Q) := sw_A_step (cc := cX4_isFree) rfl dX4_isFree_57 rfl ls st H Q
theorem r119_59 : sw_A 119 59 ls st H Q = (sw_i1 False st fun x r => if ¬ x = 0 then sw_A 119 66 ls r H Q else sw_A 119 62 ls r H Q) := sw_A_step (cc := cX4_isFree) rfl dX4_isFree_59 rfl ls st H Q
theorem r119_62 : sw_A 119 62 ls st H Q = (sw_A 119 63 ls (.int (Int32.ofInt 1) :: st) H Q) := sw_A_step (cc := cX4_isFree) rfl dX4_isFree_62 rfl ls st H Q
theorem r119_63 : sw_A 119 63 ls st H Q = (sw_A 119 67 ls st H Q) := sw_A_step (cc := cX4_isFree) rfl dX4_isFree_63 rfl ls st H Q
theorem r119_66 : sw_A 119 66 ls st H Q = (sw_A 119 67 ls (.int (Int32.ofInt 0) :: st) H Q) := sw_A_step (cc := cX4_isFree) rfl dX4_isFree_66 rfl ls st H Q
theorem r119_67 : sw_A 119 67 ls st H Q = (match st with | [.int x] => (if 2 = 1 ∨ 2 = 2 ∧ (x = 0 ∨ x = 1) then Q (some (some (.int x))) H else False) | _ => False) := sw_A_step (cc := cX4_isFree) rfl dX4_isFree_67 rfl ls st H Q
theorem r120_0 : sw_A 120 0 ls st H Q = (sw_lda False ls 0 fun x => sw_A 120 1 ls (.ref x :: st) H Q) := sw_A_step (cc := cX4_searchWay) rfl dX4_searchWay_0 rfl ls st H Q
theorem r120_1 : sw_A 120 1 ls st H Q = (sw_lda False ls 1 fun x => sw_A 120 2 ls (.ref x :: st) H Q) := sw_A_step (cc := cX4_searchWay) rfl dX4_searchWay_1 rfl ls st H Q
theorem r120_2 : sw_A 120 2 ls st H Q = (sw_pop False 2 st [] fun args r => sw_ck False r (sw_rc False H (some 4) args (sw_M 118 args H (sw_K 120 5 none ls r Q)))) := sw_A_step (cc := cX4_searchWay) rfl dX4_searchWay_2 rfl ls st H Q
theorem r120_5 : sw_A 120 5 ls st H Q = (sw_A 120 6 ls (.int (Int32.ofInt 0) :: st) H Q) := sw_A_step (cc := cX4_searchWay) rfl dX4_searchWay_5 rfl ls st H Q
theorem r120_6 : sw_A 120 6 ls st H Q = (sw_has1 False ls 2 (sw_i1 False st fun x r => sw_A 120 7 (sw_set1 ls 2 (.int x)) r H Q)) := sw_A_step (cc := cX4_searchWay) rfl dX4_searchWay_6 rfl ls st H Q
theorem r120_7 : sw_A 120 7 ls st H Q = (sw_ldi False ls 2 fun x => sw_A 120 8 ls (.int x :: st) H Q) := sw_A_step (cc := cX4_searchWay) rfl dX4_searchWay_7 rfl ls st H Q
theorem r120_8 : sw_A 120 8 ls st H Q = (sw_A 120 10 ls (.int (Int32.ofInt 36) :: st) H Q) := sw_A_step (cc := cX4_searchWay) rfl dX4_searchWay_8 rfl ls st H Q
theorem r120_10 : sw_A 120 10 ls st H Q = (sw_i2 False st fun x y r => if y ≤ x then sw_A 120 122 ls r H Q else sw_A 120 13 ls r H Q) := sw_A_step (cc := cX4_searchWay) rfl dX4_searchWay_10 rfl ls st H Q
theorem r120_13 : sw_A 120 13 ls st H Q = (sw_lda False ls 0 fun x => sw_A 120 14 ls (.ref x :: st) H Q) := sw_A_step (cc := cX4_searchWay) rfl dX4_searchWay_13 rfl ls st H Q
theorem r120_14 : sw_A 120 14 ls st H Q = (sw_r1 False st fun a r => sw_gf False H (some (4, 3, 1)) a fun v => sw_A 120 17 ls (v :: r) H Q) := sw_A_step (cc := cX4_searchWay) rfl dX4_searchWay_14 rfl ls st H Q
theorem r120_17 : sw_A 120 17 ls st H Q = (sw_pop False 1 st [] fun args r => sw_ck False r (sw_rc False H (some 10) args (sw_M 52 args H (sw_K 120 20 none ls r Q)))) := sw_A_step (cc := cX4_searchWay) rfl dX4_searchWay_17 rfl ls st H Q
theorem r120_20 : sw_A 120 20 ls st H Q = (sw_has1 False ls 3 (sw_i1 False st fun x r => sw_A 120 21 (sw_set1 ls 3 (.int x)) r H Q)) := sw_A_step (cc := cX4_searchWay) rfl dX4_searchWay_20 rfl ls st H Q
theorem r120_21 : sw_A 120 21 ls st H Q = (sw_ldi False ls 3 fun x => sw_A 120 22 ls (.int x :: st) H Q) := sw_A_step (cc := cX4_searchWay) rfl dX4_searchWay_21 rfl ls st H Q
theorem r120_22 : sw_A 120 22 ls st H Q = (sw_A 120 23 ls (.int (Int32.ofInt (-1)) :: st) H Q) := sw_A_step (cc := cX4_searchWay) rfl dX4_searchWay_22 rfl ls st H Q
theorem r120_23 : sw_A 120 23 ls st H Q = (sw_i2 False st fun x y r => if x = y then sw_A 120 34 ls r H Q else sw_A 120 26 ls r H Q) := sw_A_step (cc := cX4_searchWay) rfl dX4_searchWay_23 rfl ls st H Q
theorem r120_26 : sw_A 120 26 ls st H Q = (sw_ldi False ls 3 fun x => sw_A 120 27 ls (.int x :: st) H Q) := sw_A_step (cc := cX4_searchWay) rfl dX4_searchWay_26 rfl ls st H Q
theorem r120_27 : sw_A 120 27 ls st H Q = (sw_A 120 28 ls (.int (Int32.ofInt 2) :: st) H Q) := sw_A_step (cc := cX4_searchWay) rfl dX4_searchWay_27 rfl ls st H Q
theorem r120_28 : sw_A 120 28 ls st H Q = (sw_pop False 2 st [] fun args r => sw_ck False r (sw_M 72 args H (sw_K 120 31 none ls r Q))) := sw_A_step (cc := cX4_searchWay) rfl dX4_searchWay_28 rfl ls st H Q
theorem r120_31 : sw_A 120 31 ls st H Q = (sw_i1 False st fun x r => if x = 0 then sw_A 120 36 ls r H Q else sw_A 120 34 ls r H Q) := sw_A_step (cc := cX4_searchWay) rfl dX4_searchWay_31 rfl ls st H Q
theorem r120_34 : sw_A 120 34 ls st H Q = (sw_ldi False ls 3 fun x => sw_A 120 35 ls (.int x :: st) H Q) := sw_A_step (cc := cX4_searchWay) rfl dX4_searchWay_34 rfl ls st H Q
theorem r120_35 : sw_A 120 35 ls st H Q = (match st with | [.int x] => Q (some (some (.int x))) H | _ => False) := sw_A_step (cc := cX4_searchWay) rfl dX4_searchWay_35 rfl ls st H Q
theorem r120_36 : sw_A 120 36 ls st H Q = (sw_A 120 37 ls (.int (Int32.ofInt 0) :: st) H Q) := sw_A_step (cc := cX4_searchWay) rfl dX4_searchWay_36 rfl ls st H Q
theorem r120_37 : sw_A 120 37 ls st H Q = (sw_has1 False ls 4 (sw_i1 False st fun x r => sw_A 120 39 (sw_set1 ls 4 (.int x)) r H Q)) := sw_A_step (cc := cX4_searchWay) rfl dX4_searchWay_37 rfl ls st H Q
theorem r120_39 : sw_A 120 39 ls st H Q = (sw_ldi False ls 4 fun x => sw_A 120 41 ls (.int x :: st) H Q) := sw_A_step (cc := cX4_searchWay) rfl dX4_searchWay_39 rfl ls st H Q
theorem r120_41 : sw_A 120 41 ls st H Q = (sw_A 120 42 ls (.int (Int32.ofInt 4) :: st) H Q) := sw_A_step (cc := cX4_searchWay) rfl dX4_searchWay_41 rfl ls st H Q
theorem r120_42 : sw_A 120 42 ls st H Q = (sw_i2 False st fun x y r => if y ≤ x then sw_A 120 116 ls r H Q else sw_A 120 45 ls r H Q) := sw_A_step (cc := cX4_searchWay) rfl dX4_searchWay_42 rfl ls st H Q
theorem r120_45 : sw_A 120 45 ls st H Q = (sw_ldi False ls 3 fun x => sw_A 120 46 ls (.int x :: st) H Q) := sw_A_step (cc := cX4_searchWay) rfl dX4_searchWay_45 rfl ls st H Q
theorem r120_46 : sw_A 120 46 ls st H Q = (sw_ldi False ls 4 fun x => sw_A 120 48 ls (.int x :: st) H Q) := sw_A_step (cc := cX4_searchWay) rfl dX4_searchWay_46 rfl ls st H Q
theorem r120_48 : sw_A 120 48 ls st H Q = (sw_pop False 2 st [] fun args r => sw_ck False r (sw_M 32 args H (sw_K 120 51 none ls r Q))) := sw_A_step (cc := cX4_searchWay) rfl dX4_searchWay_48 rfl ls st H Q
theorem r120_51 : sw_A 120 51 ls st H Q = (sw_has1 False ls 5 (sw_i1 False st fun x r => sw_A 120 53 (sw_set1 ls 5 (.int x)) r H Q)) := sw_A_step (cc := cX4_searchWay) rfl dX4_searchWay_51 rfl ls st H Q
theorem r120_53 : sw_A 120 53 ls st H Q = (sw_ldi False ls 5 fun x => sw_A 120 55 ls (.int x :: st) H Q) := sw_A_step (cc := cX4_searchWay) rfl dX4_searchWay_53 rfl ls st H Q
theorem r120_55 : sw_A 120 55 ls st H Q = (sw_A 120 56 ls (.int (Int32.ofInt (-1)) :: st) H Q) := sw_A_step (cc := cX4_searchWay) rfl dX4_searchWay_55 rfl ls st H Q
theorem r120_56 : sw_A 120 56 ls st H Q = (sw_i2 False st fun x y r => if x = y then sw_A 120 110 ls r H Q else sw_A 120 59 ls r H Q) := sw_A_step (cc := cX4_searchWay) rfl dX4_searchWay_56 rfl ls st H Q
theorem r120_59 : sw_A 120 59 ls st H Q = (sw_lda False ls 0 fun x => sw_A 120 60 ls (.ref x :: st) H Q) := sw_A_step (cc := cX4_searchWay) rfl dX4_searchWay_59 rfl ls st H Q
theorem r120_60 : sw_A 120 60 ls st H Q = (sw_r1 False st fun a r => sw_gf False H (some (4, 1, 1)) a fun v => sw_A 120 63 ls (v :: r) H Q) := sw_A_step (cc := cX4_searchWay) rfl dX4_searchWay_60 rfl ls st H Q
theorem r120_63 : sw_A 120 63 ls st H Q = (sw_ldi False ls 5 fun x => sw_A 120 65 ls (.int x :: st) H Q) := sw_A_step (cc := cX4_searchWay) rfl dX4_searchWay_63 rfl ls st H Q
theorem r120_65 : sw_A 120 65 ls st H Q = (sw_ri False st fun a i r => sw_ald False H 1 a i fun x => sw_A 120 66 ls (.int x :: r) H Q) := sw_A_step (cc := cX4_searchWay) rfl dX4_searchWay_65 rfl ls st H Q
theorem r120_66 : sw_A 120 66 ls st H Q = (sw_i1 False st fun x r => if ¬ x = 0 then sw_A 120 110 ls r H Q else sw_A 120 69 ls r H Q) := sw_A_step (cc := cX4_searchWay) rfl dX4_searchWay_66 rfl ls st H Q
theorem r120_69 : sw_A 120 69 ls st H Q = (sw_lda False ls 0 fun x => sw_A 120 70 ls (.ref x :: st) H Q) := sw_A_step (cc := cX4_searchWay) rfl dX4_searchWay_69 rfl ls st H Q
theorem r120_70 : sw_A 120 70 ls st H Q = (sw_lda False ls 1 fun x => sw_A 120 71 ls (.ref x :: st) H Q) := sw_A_step (cc := cX4_searchWay) rfl dX4_searchWay_70 rfl ls st H Q
theorem r120_71 : sw_A 120 71 ls st H Q = (sw_ldi False ls 3 fun x => sw_A 120 72 ls (.int x :: st) H Q) := sw_A_step (cc := cX4_searchWay) rfl dX4_searchWay_71 rfl ls st H Q
theorem r120_72 : sw_A 120 72 ls st H Q = (sw_ldi False ls 5 fun x => sw_A 120 74 ls (.int x :: st) H Q) := sw_A_step (cc := cX4_searchWay) rfl dX4_searchWay_72 rfl ls st H Q
theorem r120_74 : sw_A 120 74 ls st H Q = (sw_pop False 4 st [] fun args r => sw_ck False r (sw_rc False H (some 4) args (sw_M 119 args H (sw_K 120 77 none ls r Q)))) := sw_A_step (cc := cX4_searchWay) rfl dX4_searchWay_74 rfl ls st H Q
theorem r120_77 : sw_A 120 77 ls st H Q = (sw_i1 False st fun x r => if x = 0 then sw_A 120 110 ls r H Q else sw_A 120 80 ls r H Q) := sw_A_step (cc := cX4_searchWay) rfl dX4_searchWay_77 rfl ls st H Q
theorem r120_80 : sw_A 120 80 ls st H Q = (sw_lda False ls 0 fun x => sw_A 120 81 ls (.ref x :: st) H Q) := sw_A_step (cc := cX4_searchWay) rfl dX4_searchWay_80 rfl ls st H Q
theorem r120_81 : sw_A 120 81 ls st H Q = (sw_r1 False st fun a r => sw_gf False H (some (4, 1, 1)) a fun v => sw_A 120 84 ls (v :: r) H Q) := sw_A_step (cc := cX4_searchWay) rfl dX4_searchWay_81 rfl ls st H Q
theorem r120_84 : sw_A 120 84 ls st H Q = (sw_ldi False ls 5 fun x => sw_A 120 86 ls (.int x :: st) H Q) := sw_A_step (cc := cX4_searchWay) rfl dX4_searchWay_84 rfl ls st H Q
theorem r120_86 : sw_A 120 86 ls st H Q = (sw_A 120 87 ls (.int (Int32.ofInt 1) :: st) H Q) := sw_A_step (cc := cX4_searchWay) rfl dX4_searchWay_86 rfl ls st H Q
theorem r120_87 : sw_A 120 87 ls st H Q = (sw_rix False st fun a i x r => sw_ast False H 1 a i (x &&& 1) fun H1 => sw_A 120 88 ls r H1 Q) := sw_A_step (cc := cX4_searchWay) rfl dX4_searchWay_87 rfl ls st H Q
theorem r120_88 : sw_A 120 88 ls st H Q = (sw_lda False ls 0 fun x => sw_A 120 89 ls (.ref x :: st) H Q) := sw_A_step (cc := cX4_searchWay) rfl dX4_searchWay_88 rfl ls st H Q
theorem r120_89 : sw_A 120 89 ls st H Q = (sw_r1 False st fun a r => sw_gf False H (some (4, 2, 1)) a fun v => sw_A 120 92 ls (v :: r) H Q) := sw_A_step (cc := cX4_searchWay) rfl dX4_searchWay_89 rfl ls st H Q
theorem r120_92 : sw_A 120 92 ls st H Q = (sw_ldi False ls 5 fun x => sw_A 120 94 ls (.int x :: st) H Q) := sw_A_step (cc := cX4_searchWay) rfl dX4_searchWay_92 rfl ls st H Q
theorem r120_94 : sw_A 120 94 ls st H Q = (sw_ldi False ls 3 fun x => sw_A 120 95 ls (.int x :: st) H Q) := sw_A_step (cc := cX4_searchWay) rfl dX4_searchWay_94 rfl ls st H Q
theorem r120_95 : sw_A 120 95 ls st H Q = (sw_ldi False ls 5 fun x => sw_A 120 97 ls (.int x :: st) H Q) := sw_A_step (cc := cX4_searchWay) rfl dX4_searchWay_95 rfl ls st H Q
theorem r120_97 : sw_A 120 97 ls st H Q = (sw_pop False 2 st [] fun args r => sw_ck False r (sw_M 89 args H (sw_K 120 100 none ls r Q))) := sw_A_step (cc := cX4_searchWay) rfl dX4_searchWay_97 rfl ls st H Q
theorem r120_100 : sw_A 120 100 ls st H Q = (sw_rix False st fun a i x r => sw_ast False H 0 a i x fun H1 => sw_A 120 101 ls r H1 Q) := sw_A_step (cc := cX4_searchWay) rfl dX4_searchWay_100 rfl ls st H Q
theorem r120_101 : sw_A 120 101 ls st H Q = (sw_lda False ls 0 fun x => sw_A 120 102 ls (.ref x :: st) H Q) := sw_A_step (cc := cX4_searchWay) rfl dX4_searchWay_101 rfl ls st H Q
theorem r120_102 : sw_A 120 102 ls st H Q = (sw_r1 False st fun a r => sw_gf False H (some (4, 3, 1)) a fun v => sw_A 120 105 ls (v :: r) H Q) := sw_A_step (cc := cX4_searchWay) rfl dX4_searchWay_102 rfl ls st H Q
theorem r120_105 : sw_A 120 105 ls st H Q = (sw_ldi False ls 5 fun x => sw_A 120 107 ls (.int x :: st) H Q) := sw_A_step (cc := cX4_searchWay) rfl dX4_searchWay_105 rfl ls st H Q
theorem r120_107 : sw_A 120 107 ls st H Q = (sw_pop False 2 st [] fun args r => sw_ck False r (sw_rc False H (some 10) args (sw_M 50 args H (sw_K 120 110 none ls r Q)))) := sw_A_step (cc := cX4_searchWay) rfl dX4_searchWay_107 rfl ls st H Q
theorem r120_110 : sw_A 120 110 ls st H Q = (sw_ldi False ls 4 fun x => sw_A 120 113 (sw_set1 ls 4 (.int (x + Int32.ofInt 1))) st H Q) := sw_A_step (cc := cX4_searchWay) rfl dX4_searchWay_110 rfl ls st H Q
theorem r120_113 : sw_A 120 113 ls st H Q = (sw_A 120 39 ls st H Q) := sw_A_step (cc := cX4_searchWay) rfl dX4_searchWay_113 rfl ls st H Q
theorem r120_116 : sw_A 120 116 ls st H Q = (sw_ldi False ls 2 fun x => sw_A 120 119 (sw_set1 ls 2 (.int (x + Int32.ofInt 1))) st H Q) := sw_A_step (cc := cX4_searchWay) rfl dX4_searchWay_116 rfl ls st H Q
theorem r120_119 : sw_A 120 119 ls st H Q = (sw_A 120 7 ls st H Q) := sw_A_step (cc := cX4_searchWay) rfl dX4_searchWay_119 rfl ls st H Q
theorem r120_122 : sw_A 120 122 ls st H Q = (sw_A 120 123 ls (.int (Int32.ofInt (-1)) :: st) H Q) := sw_A_step (cc := cX4_searchWay) rfl dX4_searchWay_122 rfl ls st H Q
theorem r120_123 : sw_A 120 123 ls st H Q = (match st with | [.int x] => Q (some (some (.int x))) H | _ => False) := sw_A_step (cc := cX4_searchWay) rfl dX4_searchWay_123 rfl ls st H Q
theorem r121_0 : sw_A 121 0 ls st H Q = (sw_ldi False ls 1 fun x => sw_A 121 1 ls (.int x :: st) H Q) := sw_A_step (cc := cX4_addWayTo) rfl dX4_addWayTo_0 rfl ls st H Q
theorem r121_1 : sw_A 121 1 ls st H Q = (sw_has1 False ls 2 (sw_i1 False st fun x r => sw_A 121 2 (sw_set1 ls 2 (.int x)) r H Q)) := sw_A_step (cc := cX4_addWayTo) rfl dX4_addWayTo_1 rfl ls st H Q
theorem r121_2 : sw_A 121 2 ls st H Q = (sw_A 121 3 ls (.int (Int32.ofInt 0) :: st) H Q) := sw_A_step (cc := cX4_addWayTo) rfl dX4_addWayTo_2 rfl ls st H Q
theorem r121_3 : sw_A 121 3 ls st H Q = (sw_has1 False ls 3 (sw_i1 False st fun x r => sw_A 121 4 (sw_set1 ls 3 (.int x)) r H Q)) := sw_A_step (cc := cX4_addWayTo) rfl dX4_addWayTo_3 rfl ls st H Q
theorem r121_4 : sw_A 121 4 ls st H Q = (sw_ldi False ls 3 fun x => sw_A 121 5 ls (.int x :: st) H Q) := sw_A_step (cc := cX4_addWayTo) rfl dX4_addWayTo_4 rfl ls st H Q
theorem r121_5 : sw_A 121 5 ls st H Q = (sw_A 121 7 ls (.int (Int32.ofInt 36) :: st) H Q) := sw_A_step (cc := cX4_addWayTo) rfl dX4_addWayTo_5 rfl ls st H Q
theorem r121_7 : sw_A 121 7 ls st H Q = (sw_i2 False st fun x y r => if y ≤ x then sw_A 121 80 ls r H Q else sw_A 121 10 ls r H Q) := sw_A_step (cc := cX4_addWayTo) rfl dX4_addWayTo_7 rfl ls st H Q
theorem r121_10 : sw_A 121 10 ls st H Q = (sw_lda False ls 0 fun x => sw_A 121 11 ls (.ref x :: st) H Q) := sw_A_step (cc := cX4_addWayTo) rfl dX4_addWayTo_10 rfl ls st H Q
theorem r121_11 : sw_A 121 11 ls st H Q = (sw_r1 False st fun a r => sw_gf False H (some (4, 2, 1)) a fun v => sw_A 121 14 ls (v :: r) H Q) := sw_A_step (cc := cX4_addWayTo) rfl dX4_addWayTo_11 rfl ls st H Q
theorem r121_14 : sw_A 121 14 ls st H Q = (sw_ldi False ls 2 fun x => sw_A 121 15 ls (.int x :: st) H Q) := sw_A_step (cc := cX4_addWayTo) rfl dX4_addWayTo_14 rfl ls st H Q
theorem r121_15 : sw_A 121 15 ls st H Q = (sw_ri False st fun a i r => sw_ald False H 0 a i fun x => sw_A 121 16 ls (.int x :: r) H Q) := sw_A_step (cc := cX4_addWayTo) rfl dX4_addWayTo_15 rfl ls st H Q
theorem r121_16 : sw_A 121 16 ls st H Q = (sw_A 121 17 ls (.int (Int32.ofInt (-1)) :: st) H Q) := sw_A_step (cc := cX4_addWayTo) rfl dX4_addWayTo_16 rfl ls st H Q
theorem r121_17 : sw_A 121 17 ls st H Q = (sw_i2 False st fun x y r => if x = y then sw_A 121 80 ls r H Q else sw_A 121 20 ls r H Q) := sw_A_step (cc := cX4_addWayTo) rfl dX4_addWayTo_17 rfl ls st H Q
theorem r121_20 : sw_A 121 20 ls st H Q = (sw_lda False ls 0 fun x => sw_A 121 21 ls (.ref x :: st) H Q) := sw_A_step (cc := cX4_addWayTo) rfl dX4_addWayTo_20 rfl ls st H Q
theorem r121_21 : sw_A 121 21 ls st H Q = (sw_r1 False st fun a r => sw_gf False H (some (4, 2, 1)) a fun v => sw_A 121 24 ls (v :: r) H Q) := sw_A_step (cc := cX4_addWayTo) rfl dX4_addWayTo_21 rfl ls st H Q
theorem r121_24 : sw_A 121 24 ls st H Q = (sw_ldi False ls 2 fun x => sw_A 121 25 ls (.int x :: st) H Q) := sw_A_step (cc := cX4_addWayTo) rfl dX4_addWayTo_24 rfl ls st H Q
theorem r121_25 : sw_A 121 25 ls st H Q = (sw_ri False st fun a i r => sw_ald False H 0 a i fun x => sw_A 121 26 ls (.int x :: r) H Q) := sw_A_step (cc := cX4_addWayTo) rfl dX4_addWayTo_25 rfl ls st H Q
theorem r121_26 : sw_A 121 26 ls st H Q = (sw_has1 False ls 4 (sw_i1 False st fun x r => sw_A 121 28 (sw_set1 ls 4 (.int x)) r H Q)) := sw_A_step (cc := cX4_addWayTo) rfl dX4_addWayTo_26 rfl ls st H Q
theorem r121_28 : sw_A 121 28 ls st H Q = (sw_ldi False ls 4 fun x => sw_A 121 30 ls (.int x :: st) H Q) := sw_A_step (cc := cX4_addWayTo) rfl dX4_addWayTo_28 rfl ls st H Q
theorem r121_30 : sw_A 121 30 ls st H Q = (sw_pop False 1 st [] fun args r => sw_ck False r (sw_M 86 args H (sw_K 121 33 none ls r Q))) := sw_A_step (cc := cX4_addWayTo) rfl dX4_addWayTo_30 rfl ls st H Q
theorem r121_33 : sw_A 121 33 ls st H Q = (sw_ldi False ls 2 fun x => sw_A 121 34 ls (.int x :: st) H Q) := sw_A_step (cc := cX4_addWayTo) rfl dX4_addWayTo_33 rfl ls st H Q
theorem r121_34 : sw_A 121 34 ls st H Q = (sw_i2 False st fun x y r => if ¬ x = y then sw_A 121 57 ls r H Q else sw_A 121 37 ls r H Q) := sw_A_step (cc := cX4_addWayTo) rfl dX4_addWayTo_34 rfl ls st H Q
theorem r121_37 : sw_A 121 37 ls st H Q = (sw_lda False ls 0 fun x => sw_A 121 38 ls (.ref x :: st) H Q) := sw_A_step (cc := cX4_addWayTo) rfl dX4_addWayTo_37 rfl ls st H Q
theorem r121_38 : sw_A 121 38 ls st H Q = (sw_r1 False st fun a r => sw_gf False H (some (4, 0, 1)) a fun v => sw_A 121 41 ls (v :: r) H Q) := sw_A_step (cc := cX4_addWayTo) rfl dX4_addWayTo_38 rfl ls st H Q
theorem r121_41 : sw_A 121 41 ls st H Q = (sw_ldi False ls 4 fun x => sw_A 121 43 ls (.int x :: st) H Q) := sw_A_step (cc := cX4_addWayTo) rfl dX4_addWayTo_41 rfl ls st H Q
theorem r121_43 : sw_A 121 43 ls st H Q = (sw_ri False st fun a i r => sw_A 121 44 ls (.int i :: .ref a :: .int i :: .ref a :: r) H Q) := sw_A_step (cc := cX4_addWayTo) rfl dX4_addWayTo_43 rfl ls st H Q
theorem r121_44 : sw_A 121 44 ls st H Q = (sw_ri False st fun a i r => sw_ald False H 0 a i fun x => sw_A 121 45 ls (.int x :: r) H Q) := sw_A_step (cc := cX4_addWayTo) rfl dX4_addWayTo_44 rfl ls st H Q
theorem r121_45 : sw_A 121 45 ls st H Q = (sw_A 121 46 ls (.int (Int32.ofInt 1) :: st) H Q) := sw_A_step (cc := cX4_addWayTo) rfl dX4_addWayTo_45 rfl ls st H Q
theorem r121_46 : sw_A 121 46 ls st H Q = (sw_i2 False st fun x y r => sw_A 121 47 ls (.int (x + y) :: r) H Q) := sw_A_step (cc := cX4_addWayTo) rfl dX4_addWayTo_46 rfl ls st H Q
theorem r121_47 : sw_A 121 47 ls st H Q = (sw_rix False st fun a i x r => sw_ast False H 0 a i x fun H1 => sw_A 121 48 ls r H1 Q) := sw_A_step (cc := cX4_addWayTo) rfl dX4_addWayTo_47 rfl ls st H Q
theorem r121_48 : sw_A 121 48 ls st H Q = (sw_ldi False ls 4 fun x => sw_A 121 50 ls (.int x :: st) H Q) := sw_A_step (cc := cX4_addWayTo) rfl dX4_addWayTo_48 rfl ls st H Q
theorem r121_50 : sw_A 121 50 ls st H Q = (sw_pop False 1 st [] fun args r => sw_ck False r (sw_M 85 args H (sw_K 121 53 none ls r Q))) := sw_A_step (cc := cX4_addWayTo) rfl dX4_addWayTo_50 rfl ls st H Q
theorem r121_53 : sw_A 121 53 ls st H Q = (sw_has1 False ls 2 (sw_i1 False st fun x r => sw_A 121 54 (sw_set1 ls 2 (.int x)) r H Q)) := sw_A_step (cc := cX4_addWayTo) rfl dX4_addWayTo_53 rfl ls st H Q
theorem r121_54 : sw_A 121 54 ls st H Q = (sw_A 121 74 ls st H Q) := sw_A_step (cc := cX4_addWayTo) rfl dX4_addWayTo_54 rfl ls st H Q
theorem r121_57 : sw_A 121 57 ls st H Q = (sw_lda False ls 0 fun x => sw_A 121 58 ls (.ref x :: st) H Q) := sw_A_step (cc := cX4_addWayTo) rfl dX4_addWayTo_57 rfl ls st H Q
theorem r121_58 : sw_A 121 58 ls st H Q = (sw_r1 False st fun a r => sw_gf False H (some (4, 0, 1)) a fun v => sw_A 121 61 ls (v :: r) H Q) := sw_A_step (cc := cX4_addWayTo) rfl dX4_addWayTo_58 rfl ls st H Q
theorem r121_61 : sw_A 121 61 ls st H Q = (sw_ldi False ls 4 fun x => sw_A 121 63 ls (.int x :: st) H Q) := sw_A_step (cc := cX4_addWayTo) rfl dX4_addWayTo_61 rfl ls st H Q
theorem r121_63 : sw_A 121 63 ls st H Q = (sw_ri False st fun a i r => sw_A 121 64 ls (.int i :: .ref a :: .int i :: .ref a :: r) H Q) := sw_A_step (cc := cX4_addWayTo) rfl dX4_addWayTo_63 rfl ls st H Q
theorem r121_64 : sw_A 121 64 ls st H Q = (sw_ri False st fun a i r => sw_ald False H 0 a i fun x => sw_A 121 65 ls (.int x :: r) H Q) := sw_A_step (cc := cX4_addWayTo) rfl dX4_addWayTo_64 rfl ls st H Q
theorem r121_65 : sw_A 121 65 ls st H Q = (sw_A 121 66 ls (.int (Int32.ofInt 1) :: st) H Q) := sw_A_step (cc := cX4_addWayTo) rfl dX4_addWayTo_65 rfl ls st H Q
theorem r121_66 : sw_A 121 66 ls st H Q = (sw_i2 False st fun x y r => sw_A 121 67 ls (.int (x - y) :: r) H Q) := sw_A_step (cc := cX4_addWayTo) rfl dX4_addWayTo_66 rfl ls st H Q
theorem r121_67 : sw_A 121 67 ls st H Q = (sw_rix False st fun a i x r => sw_ast False H 0 a i x fun H1 => sw_A 121 68 ls r H1 Q) := sw_A_step (cc := cX4_addWayTo) rfl dX4_addWayTo_67 rfl ls st H Q
theorem r121_68 : sw_A 121 68 ls st H Q = (sw_ldi False ls 4 fun x => sw_A 121 70 ls (.int x :: st) H Q) := sw_A_step (cc := cX4_addWayTo) rfl dX4_addWayTo_68 rfl ls st H Q
theorem r121_70 : sw_A 121 70 ls st H Q = (sw_pop False 1 st [] fun args r => sw_ck False r (sw_M 86 args H (sw_K 121 73 none ls r Q))) := sw_A_step (cc := cX4_addWayTo) rfl dX4_addWayTo_70 rfl ls st H Q
theorem r121_73 : sw_A 121 73 ls st H Q = (sw_has1 False ls 2 (sw_i1 False st fun x r => sw_A 121 74 (sw_set1 ls 2 (.int x)) r H Q)) := sw_A_step (cc := cX4_addWayTo) rfl dX4_addWayTo_73 rfl ls st H Q
theorem r121_74 : sw_A 121 74 ls st H Q = (sw_ldi False ls 3 fun x => sw_A 121 77 (sw_set1 ls 3 (.int (x + Int32.ofInt 1))) st H Q) := sw_A_step (cc := cX4_addWayTo) rfl dX4_addWayTo_74 rfl ls st H Q
theorem r121_77 : sw_A 121 77 ls st H Q = (sw_A 121 4 ls st H Q) := sw_A_step (cc := cX4_addWayTo) rfl dX4_addWayTo_77 rfl ls st H Q
theorem r121_80 : sw_A 121 80 ls st H Q = (match st with | [] => Q (some none) H | _ => False) := sw_A_step (cc := cX4_addWayTo) rfl dX4_addWayTo_80 rfl ls st H Q
theorem r122_0 : sw_A 122 0 ls st H Q = (sw_lda False ls 0 fun x => sw_A 122 1 ls (.ref x :: st) H Q) := sw_A_step (cc := cX4_mostWays) rfl dX4_mostWays_0 rfl ls st H Q
theorem r122_1 : sw_A 122 1 ls st H Q = (sw_r1 False st fun a r => sw_gf False H (some (4, 0, 1)) a fun v => sw_A 122 4 ls (v :: r) H Q) := sw_A_step (cc := cX4_mostWays) rfl dX4_mostWays_1 rfl ls st H Q
theorem r122_4 : sw_A 122 4 ls st H Q = (sw_A 122 5 ls (.int (Int32.ofInt 0) :: st) H Q) := sw_A_step (cc := cX4_mostWays) rfl dX4_mostWays_4 rfl ls st H Q
theorem r122_5 : sw_A 122 5 ls st H Q = (sw_pop False 2 st [] fun args r => sw_ck False r (sw_M 9 args H (sw_K 122 8 none ls r Q))) := sw_A_step (cc := cX4_mostWays) rfl dX4_mostWays_5 rfl ls st H Q
theorem r122_8 : sw_A 122 8 ls st H Q = (sw_A 122 9 ls (.int (Int32.ofInt 0) :: st) H Q) := sw_A_step (cc := cX4_mostWays) rfl dX4_mostWays_8 rfl ls st H Q
theorem r122_9 : sw_A 122 9 ls st H Q = (sw_has1 False ls 2 (sw_i1 False st fun x r => sw_A 122 10 (sw_set1 ls 2 (.int x)) r H Q)) := sw_A_step (cc := cX4_mostWays) rfl dX4_mostWays_9 rfl ls st H Q
theorem r122_10 : sw_A 122 10 ls st H Q = (sw_ldi False ls 2 fun x => sw_A 122 11 ls (.int x :: st) H Q) := sw_A_step (cc := cX4_mostWays) rfl dX4_mostWays_10 rfl ls st H Q
theorem r122_11 : sw_A 122 11 ls st H Q = (sw_A 122 13 ls (.int (Int32.ofInt 60) :: st) H Q) := sw_A_step (cc := cX4_mostWays) rfl dX4_mostWays_11 rfl ls st H Q
theorem r122_13 : sw_A 122 13 ls st H Q = (sw_i2 False st fun x y r => if y ≤ x then sw_A 122 41 ls r H Q else sw_A 122 16 ls r H Q) := sw_A_step (cc := cX4_mostWays) rfl dX4_mostWays_13 rfl ls st H Q
theorem r122_16 : sw_A 122 16 ls st H Q = (sw_lda False ls 0 fun x => sw_A 122 17 ls (.ref x :: st) H Q) := sw_A_step (cc := cX4_mostWays) rfl dX4_mostWays_16 rfl ls st H Q
theorem r122_17 : sw_A 122 17 ls st H Q = (sw_lda False ls 1 fun x => sw_A 122 18 ls (.ref x :: st) H Q) := sw_A_step (cc := cX4_mostWays) rfl dX4_mostWays_17 rfl ls st H Q
theorem r122_18 : sw_A 122 18 ls st H Q = (sw_pop False 2 st [] fun args r => sw_ck False r (sw_rc False H (some 4) args (sw_M 120 args H (sw_K 122 21 none ls r Q)))) := sw_A_step (cc := cX4_mostWays) rfl dX4_mostWays_18 rfl ls st H Q
theorem r122_21 : sw_A 122 21 ls st H Q = (sw_has1 False ls 3 (sw_i1 False st fun x r => sw_A 122 22 (sw_set1 ls 3 (.int x)) r H Q)) := sw_A_step (cc := cX4_mostWays) rfl dX4_mostWays_21 rfl ls st H Q
theorem r122_22 : sw_A 122 22 ls st H Q = (sw_ldi False ls 3 fun x => sw_A 122 23 ls (.int x :: st) H Q) := sw_A_step (cc := cX4_mostWays) rfl dX4_mostWays_22 rfl ls st H Q
theorem r122_23 : sw_A 122 23 ls st H Q = (sw_A 122 24 ls (.int (Int32.ofInt (-1)) :: st) H Q) := sw_A_step (cc := cX4_mostWays) rfl dX4_mostWays_23 rfl ls st H Q
theorem r122_24 : sw_A 122 24 ls st H Q = (sw_i2 False st fun x y r => if ¬ x = y then sw_A 122 30 ls r H Q else sw_A 122 27 ls r H Q) := sw_A_step (cc := cX4_mostWays) rfl dX4_mostWays_24 rfl ls st H Q
theorem r122_27 : sw_A 122 27 ls st H Q = (sw_A 122 41 ls st H Q) := sw_A_step (cc := cX4_mostWays) rfl dX4_mostWays_27 rfl ls st H Q
theorem r122_30 : sw_A 122 30 ls st H Q = (sw_lda False ls 0 fun x => sw_A 122 31 ls (.ref x :: st) H Q) := sw_A_step (cc := cX4_mostWays) rfl dX4_mostWays_30 rfl ls st H Q
theorem r122_31 : sw_A 122 31 ls st H Q = (sw_ldi False ls 3 fun x => sw_A 122 32 ls (.int x :: st) H Q) := sw_A_step (cc := cX4_mostWays) rfl dX4_mostWays_31 rfl ls st H Q
theorem r122_32 : sw_A 122 32 ls st H Q = (sw_pop False 2 st [] fun args r => sw_ck False r (sw_rc False H (some 4) args (sw_M 121 args H (sw_K 122 35 none ls r Q)))) := sw_A_step (cc := cX4_mostWays) rfl dX4_mostWays_32 rfl ls st H Q
theorem r122_35 : sw_A 122 35 ls st H Q = (sw_ldi False ls 2 fun x => sw_A 122 38 (sw_set1 ls 2 (.int (x + Int32.ofInt 1))) st H Q) := sw_A_step (cc := cX4_mostWays) rfl dX4_mostWays_35 rfl ls st H Q
theorem r122_38 : sw_A 122 38 ls st H Q = (sw_A 122 10 ls st H Q) := sw_A_step (cc := cX4_mostWays) rfl dX4_mostWays_38 rfl ls st H Q
theorem r122_41 : sw_A 122 41 ls st H Q = (sw_ldi False ls 2 fun x => sw_A 122 42 ls (.int x :: st) H Q) := sw_A_step (cc := cX4_mostWays) rfl dX4_mostWays_41 rfl ls st H Q
theorem r122_42 : sw_A 122 42 ls st H Q = (match st with | [.int x] => Q (some (some (.int x))) H | _ => False) := sw_A_step (cc := cX4_mostWays) rfl dX4_mostWays_42 rfl ls st H Q
theorem r123_0 : sw_A 123 0 ls st H Q = (sw_A 123 1 ls (.int (Int32.ofInt 0) :: st) H Q) := sw_A_step (cc := cX4_countCut) rfl dX4_countCut_0 rfl ls st H Q
theorem r123_1 : sw_A 123 1 ls st H Q = (sw_has1 False ls 2 (sw_i1 False st fun x r => sw_A 123 2 (sw_set1 ls 2 (.int x)) r H Q)) := sw_A_step (cc := cX4_countCut) rfl dX4_countCut_1 rfl ls st H Q
theorem r123_2 : sw_A 123 2 ls st H Q = (sw_A 123 3 ls (.int (Int32.ofInt 0) :: st) H Q) := sw_A_step (cc := cX4_countCut) rfl dX4_countCut_2 rfl ls st H Q
theorem r123_3 : sw_A 123 3 ls st H Q = (sw_has1 False ls 3 (sw_i1 False st fun x r => sw_A 123 4 (sw_set1 ls 3 (.int x)) r H Q)) := sw_A_step (cc := cX4_countCut) rfl dX4_countCut_3 rfl ls st H Q
theorem r123_4 : sw_A 123 4 ls st H Q = (sw_ldi False ls 3 fun x => sw_A 123 5 ls (.int x :: st) H Q) := sw_A_step (cc := cX4_countCut) rfl dX4_countCut_4 rfl ls st H Q
theorem r123_5 : sw_A 123 5 ls st H Q = (sw_A 123 7 ls (.int (Int32.ofInt 60) :: st) H Q) := sw_A_step (cc := cX4_countCut) rfl dX4_countCut_5 rfl ls st H Q
theorem r123_7 : sw_A 123 7 ls st H Q = (sw_i2 False st fun x y r => if y ≤ x then sw_A 123 49 ls r H Q else sw_A 123 10 ls r H Q) := sw_A_step (cc := cX4_countCut) rfl dX4_countCut_7 rfl ls st H Q
theorem r123_10 : sw_A 123 10 ls st H Q = (sw_lda False ls 1 fun x => sw_A 123 11 ls (.ref x :: st) H Q) := sw_A_step (cc := cX4_countCut) rfl dX4_countCut_10 rfl ls st H Q
theorem r123_11 : sw_A 123 11 ls st H Q = (sw_r1 False st fun a r => sw_gf False H (some (9, 1, 3)) a fun v => sw_A 123 14 ls (v :: r) H Q) := sw_A_step (cc := cX4_countCut) rfl dX4_countCut_11 rfl ls st H Q
theorem r123_14 : sw_A 123 14 ls st H Q = (sw_ldi False ls 3 fun x => sw_A 123 15 ls (.int x :: st) H Q) := sw_A_step (cc := cX4_countCut) rfl dX4_countCut_14 rfl ls st H Q
theorem r123_15 : sw_A 123 15 ls st H Q = (sw_ri False st fun a i r => sw_ald False H 1 a i fun x => sw_A 123 16 ls (.int x :: r) H Q) := sw_A_step (cc := cX4_countCut) rfl dX4_countCut_15 rfl ls st H Q
theorem r123_16 : sw_A 123 16 ls st H Q = (sw_i1 False st fun x r => if x = 0 then sw_A 123 43 ls r H Q else sw_A 123 19 ls r H Q) := sw_A_step (cc := cX4_countCut) rfl dX4_countCut_16 rfl ls st H Q
theorem r123_19 : sw_A 123 19 ls st H Q = (sw_lda False ls 0 fun x => sw_A 123 20 ls (.ref x :: st) H Q) := sw_A_step (cc := cX4_countCut) rfl dX4_countCut_19 rfl ls st H Q
theorem r123_20 : sw_A 123 20 ls st H Q = (sw_r1 False st fun a r => sw_gf False H (some (4, 1, 1)) a fun v => sw_A 123 23 ls (v :: r) H Q) := sw_A_step (cc := cX4_countCut) rfl dX4_countCut_20 rfl ls st H Q
theorem r123_23 : sw_A 123 23 ls st H Q = (sw_ldi False ls 3 fun x => sw_A 123 24 ls (.int x :: st) H Q) := sw_A_step (cc := cX4_countCut) rfl dX4_countCut_23 rfl ls st H Q
theorem r123_24 : sw_A 123 24 ls st H Q = (sw_pop False 1 st [] fun args r => sw_ck False r (sw_M 85 args H (sw_K 123 27 none ls r Q))) := sw_A_step (cc := cX4_countCut) rfl dX4_countCut_24 rfl ls st H Q
theorem r123_27 : sw_A 123 27 ls st H Q = (sw_ri False st fun a i r => sw_ald False H 1 a i fun x => sw_A 123 28 ls (.int x :: r) H Q) := sw_A_step (cc := cX4_countCut) rfl dX4_countCut_27 rfl ls st H Q
theorem r123_28 : sw_A 123 28 ls st H Q = (sw_lda False ls 0 fun x => sw_A 123 29 ls (.ref x :: st) H Q) := sw_A_step (cc := cX4_countCut) rfl dX4_countCut_28 rfl ls st H Q
theorem r123_29 : sw_A 123 29 ls st H Q = (sw_r1 False st fun a r => sw_gf False H (some (4, 1, 1)) a fun v => sw_A 123 32 ls (v :: r) H Q) := sw_A_step (cc := cX4_countCut) rfl dX4_countCut_29 rfl ls st H Q
theorem r123_32 : sw_A 123 32 ls st H Q = (sw_ldi False ls 3 fun x => sw_A 123 33 ls (.int x :: st) H Q) := sw_A_step (cc := cX4_countCut) rfl dX4_countCut_32 rfl ls st H Q
theorem r123_33 : sw_A 123 33 ls st H Q = (sw_pop False 1 st [] fun args r => sw_ck False r (sw_M 86 args H (sw_K 123 36 none ls r Q))) := sw_A_step (cc := cX4_countCut) rfl dX4_countCut_33 rfl ls st H Q
theorem r123_36 : sw_A 123 36 ls st H Q = (sw_ri False st fun a i r => sw_ald False H 1 a i fun x => sw_A 123 37 ls (.int x :: r) H Q) := sw_A_step (cc := cX4_countCut) rfl dX4_countCut_36 rfl ls st H Q
theorem r123_37 : sw_A 123 37 ls st H Q = (sw_i2 False st fun x y r => if x = y then sw_A 123 43 ls r H Q else sw_A 123 40 ls r H Q) := sw_A_step (cc := cX4_countCut) rfl dX4_countCut_37 rfl ls st H Q
theorem r123_40 : sw_A 123 40 ls st H Q = (sw_ldi False ls 2 fun x => sw_A 123 43 (sw_set1 ls 2 (.int (x + Int32.ofInt 1))) st H Q) := sw_A_step (cc := cX4_countCut) rfl dX4_countCut_40 rfl ls st H Q
theorem r123_43 : sw_A 123 43 ls st H Q = (sw_ldi False ls 3 fun x => sw_A 123 46 (sw_set1 ls 3 (.int (x + Int32.ofInt 1))) st H Q) := sw_A_step (cc := cX4_countCut) rfl dX4_countCut_43 rfl ls st H Q
theorem r123_46 : sw_A 123 46 ls st H Q = (sw_A 123 4 ls st H Q) := sw_A_step (cc := cX4_countCut) rfl dX4_countCut_46 rfl ls st H Q
theorem r123_49 : sw_A 123 49 ls st H Q = (sw_ldi False ls 2 fun x => sw_A 123 50 ls (.int x :: st) H Q) := sw_A_step (cc := cX4_countCut) rfl dX4_countCut_49 rfl ls st H Q
theorem r123_50 : sw_A 123 50 ls st H Q = (match st with | [.int x] => Q (some (some (.int x))) H | _ => False) := sw_A_step (cc := cX4_countCut) rfl dX4_countCut_50 rfl ls st H Q
theorem r124_0 : sw_A 124 0 ls st H Q = (sw_lda False ls 0 fun x => sw_A 124 1 ls (.ref x :: st) H Q) := sw_A_step (cc := cX11_cut) rfl dX11_cut_0 rfl ls st H Q
theorem r124_1 : sw_A 124 1 ls st H Q = (sw_ldi False ls 1 fun x => sw_A 124 2 ls (.int x :: st) H Q) := sw_A_step (cc := cX11_cut) rfl dX11_cut_1 rfl ls st H Q
theorem r124_2 : sw_A 124 2 ls st H Q = (sw_ldi False ls 2 fun x => sw_A 124 3 ls (.int x :: st) H Q) := sw_A_step (cc := cX11_cut) rfl dX11_cut_2 rfl ls st H Q
theorem r124_3 : sw_A 124 3 ls st H Q = (sw_pop False 3 st [] fun args r => sw_ck False r (sw_rc False H (some 11) args (sw_M 95 args H (sw_K 124 6 none ls r Q)))) := sw_A_step (cc := cX11_cut) rfl dX11_cut_3 rfl ls st H Q
theorem r124_6 : sw_A 124 6 ls st H Q = (sw_lda False ls 0 fun x => sw_A 124 7 ls (.ref x :: st) H Q) := sw_A_step (cc := cX11_cut) rfl dX11_cut_6 rfl ls st H Q
theorem r124_7 : sw_A 124 7 ls st H Q = (sw_r1 False st fun a r => sw_gf False H (some (11, 4, 1)) a fun v => sw_A 124 10 ls (v :: r) H Q) := sw_A_step (cc := cX11_cut) rfl dX11_cut_7 rfl ls st H Q
theorem r124_10 : sw_A 124 10 ls st H Q = (sw_lda False ls 0 fun x => sw_A 124 11 ls (.ref x :: st) H Q) := sw_A_step (cc := cX11_cut) rfl dX11_cut_10 rfl ls st H Q
theorem r124_11 : sw_A 124 11 ls st H Q = (sw_r1 False st fun a r => sw_gf False H (some (11, 3, 1)) a fun v => sw_A 124 14 ls (v :: r) H Q) := sw_A_step (cc := cX11_cut) rfl dX11_cut_11 rfl ls st H Q
theorem r124_14 : sw_A 124 14 ls st H Q = (sw_pop False 2 st [] fun args r => sw_ck False r (sw_rc False H (some 4) args (sw_M 122 args H (sw_K 124 17 none ls r Q)))) := sw_A_step (cc := cX11_cut) rfl dX11_cut_14 rfl ls st H Q
theorem r124_17 : sw_A 124 17 ls st H Q = (sw_i1 False st fun _ r => sw_A 124 18 ls r H Q) := sw_A_step (cc := cX11_cut) rfl dX11_cut_17 rfl ls st H Q
theorem r124_18 : sw_A 124 18 ls st H Q = (sw_lda False ls 0 fun x => sw_A 124 19 ls (.ref x :: st) H Q) := sw_A_step (cc := cX11_cut) rfl dX11_cut_18 rfl ls st H Q
theorem r124_19 : sw_A 124 19 ls st H Q = (sw_r1 False st fun a r => sw_gf False H (some (11, 4, 1)) a fun v => sw_A 124 22 ls (v :: r) H Q) := sw_A_step (cc := cX11_cut) rfl dX11_cut_19 rfl ls st H Q
theorem r124_22 : sw_A 124 22 ls st H Q = (sw_lda False ls 0 fun x => sw_A 124 23 ls (.ref x :: st) H Q) := sw_A_step (cc := cX11_cut) rfl dX11_cut_22 rfl ls st H Q
theorem r124_23 : sw_A 124 23 ls st H Q = (sw_r1 False st fun a r => sw_gf False H (some (11, 3, 1)) a fun v => sw_A 124 26 ls (v :: r) H Q) := sw_A_step (cc := cX11_cut) rfl dX11_cut_23 rfl ls st H Q
theorem r124_26 : sw_A 124 26 ls st H Q = (sw_pop False 2 st [] fun args r => sw_ck False r (sw_rc False H (some 4) args (sw_M 123 args H (sw_K 124 29 none ls r Q)))) := sw_A_step (cc := cX11_cut) rfl dX11_cut_26 rfl ls st H Q
theorem r124_29 : sw_A 124 29 ls st H Q = (match st with | [.int x] => Q (some (some (.int x))) H | _ => False) := sw_A_step (cc := cX11_cut) rfl dX11_cut_29 rfl ls st H Q
theorem r125_0 : sw_A 125 0 ls st H Q = (sw_lda False ls 0 fun x => sw_A 125 1 ls (.ref x :: st) H Q) := sw_A_step (cc := cX11_ways) rfl dX11_ways_0 rfl ls st H Q
theorem r125_1 : sw_A 125 1 ls st H Q = (sw_ldi False ls 1 fun x => sw_A 125 2 ls (.int x :: st) H Q) := sw_A_step (cc := cX11_ways) rfl dX11_ways_1 rfl ls st H Q
theorem r125_2 : sw_A 125 2 ls st H Q = (sw_ldi False ls 2 fun x => sw_A 125 3 ls (.int x :: st) H Q) := sw_A_step (cc := cX11_ways) rfl dX11_ways_2 rfl ls st H Q
theorem r125_3 : sw_A 125 3 ls st H Q = (sw_pop False 3 st [] fun args r => sw_ck False r (sw_rc False H (some 11) args (sw_M 95 args H (sw_K 125 6 none ls r Q)))) := sw_A_step (cc := cX11_ways) rfl dX11_ways_3 rfl ls st H Q
theorem r125_6 : sw_A 125 6 ls st H Q = (sw_lda False ls 0 fun x => sw_A 125 7 ls (.ref x :: st) H Q) := sw_A_step (cc := cX11_ways) rfl dX11_ways_6 rfl ls st H Q
theorem r125_7 : sw_A 125 7 ls st H Q = (sw_r1 False st fun a r => sw_gf False H (some (11, 4, 1)) a fun v => sw_A 125 10 ls (v :: r) H Q) := sw_A_step (cc := cX11_ways) rfl dX11_ways_7 rfl ls st H Q
theorem r125_10 : sw_A 125 10 ls st H Q = (sw_lda False ls 0 fun x => sw_A 125 11 ls (.ref x :: st) H Q) := sw_A_step (cc := cX11_ways) rfl dX11_ways_10 rfl ls st H Q
theorem r125_11 : sw_A 125 11 ls st H Q = (sw_r1 False st fun a r => sw_gf False H (some (11, 3, 1)) a fun v => sw_A 125 14 ls (v :: r) H Q) := sw_A_step (cc := cX11_ways) rfl dX11_ways_11 rfl ls st H Q
theorem r125_14 : sw_A 125 14 ls st H Q = (sw_pop False 2 st [] fun args r => sw_ck False r (sw_rc False H (some 4) args (sw_M 122 args H (sw_K 125 17 none ls r Q)))) := sw_A_step (cc := cX11_ways) rfl dX11_ways_14 rfl ls st H Q
theorem r125_17 : sw_A 125 17 ls st H Q = (match st with | [.int x] => Q (some (some (.int x))) H | _ => False) := sw_A_step (cc := cX11_ways) rfl dX11_ways_17 rfl ls st H Q
theorem r126_0 : sw_A 126 0 ls st H Q = (sw_lda False ls 0 fun x => sw_A 126 1 ls (.ref x :: st) H Q) := sw_A_step (cc := cX9_countRedBonds) rfl dX9_countRedBonds_0 rfl ls st H Q
theorem r126_1 : sw_A 126 1 ls st H Q = (sw_A 126 2 ls (.int (Int32.ofInt 1) :: st) H Q) := sw_A_step (cc := cX9_countRedBonds) rfl dX9_countRedBonds_1 rfl ls st H Q
theorem r126_2 : sw_A 126 2 ls st H Q = (sw_A 126 3 ls (.int (Int32.ofInt 2) :: st) H Q) := sw_A_step (cc := cX9_countRedBonds) rfl dX9_countRedBonds_2 rfl ls st H Q
theorem r126_3 : sw_A 126 3 ls st H Q = (sw_pop False 3 st [] fun args r => sw_ck False r (sw_rc False H (some 9) args (sw_M 91 args H (sw_K 126 6 none ls r Q)))) := sw_A_step (cc := cX9_countRedBonds) rfl dX9_countRedBonds_3 rfl ls st H Q
theorem r126_6 : sw_A 126 6 ls st H Q = (sw_A 126 7 ls (.int (Int32.ofInt (-1)) :: st) H Q) := sw_A_step (cc := cX9_countRedBonds) rfl dX9_countRedBonds_6 rfl ls st H Q
theorem r126_7 : sw_A 126 7 ls st H Q = (sw_i2 False st fun x y r => if ¬ x = y then sw_A 126 12 ls r H Q else sw_A 126 10 ls r H Q) := sw_A_step (cc := cX9_countRedBonds) rfl dX9_countRedBonds_7 rfl ls st H Q
theorem r126_10 : sw_A 126 10 ls st H Q = (sw_A 126 11 ls (.int (Int32.ofInt 0) :: st) H Q) := sw_A_step (cc := cX9_countRedBonds) rfl dX9_countRedBonds_10 rfl ls st H Q
theorem r126_11 : sw_A 126 11 ls st H Q = (match st with | [.int x] => Q (some (some (.int x))) H | _ => False) := sw_A_step (cc := cX9_countRedBonds) rfl dX9_countRedBonds_11 rfl ls st H Q
theorem r126_12 : sw_A 126 12 ls st H Q = (sw_A 126 13 ls (.int (Int32.ofInt 0) :: st) H Q) := sw_A_step (cc := cX9_countRedBonds) rfl dX9_countRedBonds_12 rfl ls st H Q
theorem r126_13 : sw_A 126 13 ls st H Q = (sw_has1 False ls 1 (sw_i1 False st fun x r => sw_A 126 14 (sw_set1 ls 1 (.int x)) r H Q)) := sw_A_step (cc := cX9_countRedBonds) rfl dX9_countRedBonds_13 rfl ls st H Q
theorem r126_14 : sw_A 126 14 ls st H Q = (sw_A 126 15 ls (.int (Int32.ofInt 0) :: st) H Q) := sw_A_step (cc := cX9_countRedBonds) rfl dX9_countRedBonds_14 rfl ls st H Q
theorem r126_15 : sw_A 126 15 ls st H Q = (sw_has1 False ls 2 (sw_i1 False st fun x r => sw_A 126 16 (sw_set1 ls 2 (.int x)) r H Q)) := sw_A_step (cc := cX9_countRedBonds) rfl dX9_countRedBonds_15 rfl ls st H Q
theorem r126_16 : sw_A 126 16 ls st H Q = (sw_ldi False ls 2 fun x => sw_A 126 17 ls (.int x :: st) H Q) := sw_A_step (cc := cX9_countRedBonds) rfl dX9_countRedBonds_16 rfl ls st H Q
theorem r126_17 : sw_A 126 17 ls st H Q = (sw_A 126 19 ls (.int (Int32.ofInt 60) :: st) H Q) := sw_A_step (cc := cX9_countRedBonds) rfl dX9_countRedBonds_17 rfl ls st H Q
theorem r126_19 : sw_A 126 19 ls st H Q = (sw_i2 False st fun x y r => if y ≤ x then sw_A 126 64 ls r H Q else sw_A 126 22 ls r H Q) := sw_A_step (cc := cX9_countRedBonds) rfl dX9_countRedBonds_19 rfl ls st H Q
theorem r126_22 : sw_A 126 22 ls st H Q = (sw_lda False ls 0 fun x => sw_A 126 23 ls (.ref x :: st) H Q) := sw_A_step (cc := cX9_countRedBonds) rfl dX9_countRedBonds_22 rfl ls st H Q
theorem r126_23 : sw_A 126 23 ls st H Q = (sw_r1 False st fun a r => sw_gf False H (some (9, 1, 1)) a fun v => sw_A 126 26 ls (v :: r) H Q) := sw_A_step (cc := cX9_countRedBonds) rfl dX9_countRedBonds_23 rfl ls st H Q
theorem r126_26 : sw_A 126 26 ls st H Q = (sw_ldi False ls 2 fun x => sw_A 126 27 ls (.int x :: st) H Q) := sw_A_step (cc := cX9_countRedBonds) rfl dX9_countRedBonds_26 rfl ls st H Q
theorem r126_27 : sw_A 126 27 ls st H Q = (sw_ri False st fun a i r => sw_ald False H 1 a i fun x => sw_A 126 28 ls (.int x :: r) H Q) := sw_A_step (cc := cX9_countRedBonds) rfl dX9_countRedBonds_27 rfl ls st H Q
theorem r126_28 : sw_A 126 28 ls st H Q = (sw_i1 False st fun x r => if x = 0 then sw_A 126 58 ls r H Q else sw_A 126 31 ls r H Q) := sw_A_step (cc := cX9_countRedBonds) rfl dX9_countRedBonds_28 rfl ls st H Q
theorem r126_31 : sw_A 126 31 ls st H Q = (sw_lda False ls 0 fun x => sw_A 126 32 ls (.ref x :: st) H Q) := sw_A_step (cc := cX9_countRedBonds) rfl dX9_countRedBonds_31 rfl ls st H Q
theorem r126_32 : sw_A 126 32 ls st H Q = (sw_r1 False st fun a r => sw_gf False H (some (9, 1, 1)) a fun v => sw_A 126 35 ls (v :: r) H Q) := sw_A_step (cc := cX9_countRedBonds) rfl dX9_countRedBonds_32 rfl ls st H Q
theorem r126_35 : sw_A 126 35 ls st H Q = (sw_ldi False ls 2 fun x => sw_A 126 36 ls (.int x :: st) H Q) := sw_A_step (cc := cX9_countRedBonds) rfl dX9_countRedBonds_35 rfl ls st H Q
theorem r126_36 : sw_A 126 36 ls st H Q = (sw_A 126 37 ls (.int (Int32.ofInt 0) :: st) H Q) := sw_A_step (cc := cX9_countRedBonds) rfl dX9_countRedBonds_36 rfl ls st H Q
theorem r126_37 : sw_A 126 37 ls st H Q = (sw_rix False st fun a i x r => sw_ast False H 1 a i (x &&& 1) fun H1 => sw_A 126 38 ls r H1 Q) := sw_A_step (cc := cX9_countRedBonds) rfl dX9_countRedBonds_37 rfl ls st H Q
theorem r126_38 : sw_A 126 38 ls st H Q = (sw_lda False ls 0 fun x => sw_A 126 39 ls (.ref x :: st) H Q) := sw_A_step (cc := cX9_countRedBonds) rfl dX9_countRedBonds_38 rfl ls st H Q
theorem r126_39 : sw_A 126 39 ls st H Q = (sw_A 126 40 ls (.int (Int32.ofInt 1) :: st) H Q) := sw_A_step (cc := cX9_countRedBonds) rfl dX9_countRedBonds_39 rfl ls st H Q
theorem r126_40 : sw_A 126 40 ls st H Q = (sw_A 126 41 ls (.int (Int32.ofInt 2) :: st) H Q) := sw_A_step (cc := cX9_countRedBonds) rfl dX9_countRedBonds_40 rfl ls st H Q
theorem r126_41 : sw_A 126 41 ls st H Q = (sw_pop False 3 st [] fun args r => sw_ck False r (sw_rc False H (some 9) args (sw_M 91 args H (sw_K 126 44 none ls r Q)))) := sw_A_step (cc := cX9_countRedBonds) rfl dX9_countRedBonds_41 rfl ls st H Q
theorem r126_44 : sw_A 126 44 ls st H Q = (sw_A 126 45 ls (.int (Int32.ofInt (-1)) :: st) H Q) := sw_A_step (cc := cX9_countRedBonds) rfl dX9_countRedBonds_44 rfl ls st H Q
theorem r126_45 : sw_A 126 45 ls st H Q = (sw_i2 False st fun x y r => if ¬ x = y then sw_A 126 51 ls r H Q else sw_A 126 48 ls r H Q) := sw_A_step (cc := cX9_countRedBonds) rfl dX9_countRedBonds_45 rfl ls st H Q
theorem r126_48 : sw_A 126 48 ls st H Q = (sw_ldi False ls 1 fun x => sw_A 126 51 (sw_set1 ls 1 (.int (x + Int32.ofInt 1))) st H Q) := sw_A_step (cc := cX9_countRedBonds) rfl dX9_countRedBonds_48 rfl ls st H Q
theorem r126_51 : sw_A 126 51 ls st H Q = (sw_lda False ls 0 fun x => sw_A 126 52 ls (.ref x :: st) H Q) := sw_A_step (cc := cX9_countRedBonds) rfl dX9_countRedBonds_51 rfl ls st H Q
theorem r126_52 : sw_A 126 52 ls st H Q = (sw_r1 False st fun a r => sw_gf False H (some (9, 1, 1)) a fun v => sw_A 126 55 ls (v :: r) H Q) := sw_A_step (cc := cX9_countRedBonds) rfl dX9_countRedBonds_52 rfl ls st H Q
theorem r126_55 : sw_A 126 55 ls st H Q = (sw_ldi False ls 2 fun x => sw_A 126 56 ls (.int x :: st) H Q) := sw_A_step (cc := cX9_countRedBonds) rfl dX9_countRedBonds_55 rfl ls st H Q
theorem r126_56 : sw_A 126 56 ls st H Q = (sw_A 126 57 ls (.int (Int32.ofInt 1) :: st) H Q) := sw_A_step (cc := cX9_countRedBonds) rfl dX9_countRedBonds_56 rfl ls st H Q
theorem r126_57 : sw_A 126 57 ls st H Q = (sw_rix False st fun a i x r => sw_ast False H 1 a i (x &&& 1) fun H1 => sw_A 126 58 ls r H1 Q) := sw_A_step (cc := cX9_countRedBonds) rfl dX9_countRedBonds_57 rfl ls st H Q
theorem r126_58 : sw_A 126 58 ls st H Q = (sw_ldi False ls 2 fun x => sw_A 126 61 (sw_set1 ls 2 (.int (x + Int32.ofInt 1))) st H Q) := sw_A_step (cc := cX9_countRedBonds) rfl dX9_countRedBonds_58 rfl ls st H Q
theorem r126_61 : sw_A 126 61 ls st H Q = (sw_A 126 16 ls st H Q) := sw_A_step (cc := cX9_countRedBonds) rfl dX9_countRedBonds_61 rfl ls st H Q
theorem r126_64 : sw_A 126 64 ls st H Q = (sw_ldi False ls 1 fun x => sw_A 126 65 ls (.int x :: st) H Q) := sw_A_step (cc := cX9_countRedBonds) rfl dX9_countRedBonds_64 rfl ls st H Q
theorem r126_65 : sw_A 126 65 ls st H Q = (match st with | [.int x] => Q (some (some (.int x))) H | _ => False) := sw_A_step (cc := cX9_countRedBonds) rfl dX9_countRedBonds_65 rfl ls st H Q
theorem r127_0 : sw_A 127 0 ls st H Q = (sw_lda False ls 0 fun x => sw_A 127 1 ls (.ref x :: st) H Q) := sw_A_step (cc := cX11_red) rfl dX11_red_0 rfl ls st H Q
theorem r127_1 : sw_A 127 1 ls st H Q = (sw_ldi False ls 1 fun x => sw_A 127 2 ls (.int x :: st) H Q) := sw_A_step (cc := cX11_red) rfl dX11_red_1 rfl ls st H Q
theorem r127_2 : sw_A 127 2 ls st H Q = (sw_ldi False ls 2 fun x => sw_A 127 3 ls (.int x :: st) H Q) := sw_A_step (cc := cX11_red) rfl dX11_red_2 rfl ls st H Q
theorem r127_3 : sw_A 127 3 ls st H Q = (sw_pop False 3 st [] fun args r => sw_ck False r (sw_rc False H (some 11) args (sw_M 95 args H (sw_K 127 6 none ls r Q)))) := sw_A_step (cc := cX11_red) rfl dX11_red_3 rfl ls st H Q
theorem r127_6 : sw_A 127 6 ls st H Q = (sw_lda False ls 0 fun x => sw_A 127 7 ls (.ref x :: st) H Q) := sw_A_step (cc := cX11_red) rfl dX11_red_6 rfl ls st H Q
theorem r127_7 : sw_A 127 7 ls st H Q = (sw_r1 False st fun a r => sw_gf False H (some (11, 3, 1)) a fun v => sw_A 127 10 ls (v :: r) H Q) := sw_A_step (cc := cX11_red) rfl dX11_red_7 rfl ls st H Q
theorem r127_10 : sw_A 127 10 ls st H Q = (sw_pop False 1 st [] fun args r => sw_ck False r (sw_rc False H (some 9) args (sw_M 126 args H (sw_K 127 13 none ls r Q)))) := sw_A_step (cc := cX11_red) rfl dX11_red_10 rfl ls st H Q
theorem r127_13 : sw_A 127 13 ls st H Q = (match st with | [.int x] => Q (some (some (.int x))) H | _ => False) := sw_A_step (cc := cX11_red) rfl dX11_red_13 rfl ls st H Q
theorem r128_0 : sw_A 128 0 ls st H Q = (sw_lda False ls 0 fun x => sw_A 128 1 ls (.ref x :: st) H Q) := sw_A_step (cc := cX11_shortest) rfl dX11_shortest_0 rfl ls st H Q
theorem r128_1 : sw_A 128 1 ls st H Q = (sw_ldi False ls 1 fun x => sw_A 128 2 ls (.int x :: st) H Q) := sw_A_step (cc := cX11_shortest) rfl dX11_shortest_1 rfl ls st H Q
theorem r128_2 : sw_A 128 2 ls st H Q = (sw_ldi False ls 2 fun x => sw_A 128 3 ls (.int x :: st) H Q) := sw_A_step (cc := cX11_shortest) rfl dX11_shortest_2 rfl ls st H Q
theorem r128_3 : sw_A 128 3 ls st H Q = (sw_pop False 3 st [] fun args r => sw_ck False r (sw_rc False H (some 11) args (sw_M 95 args H (sw_K 128 6 none ls r Q)))) := sw_A_step (cc := cX11_shortest) rfl dX11_shortest_3 rfl ls st H Q
theorem r128_6 : sw_A 128 6 ls st H Q = (sw_lda False ls 0 fun x => sw_A 128 7 ls (.ref x :: st) H Q) := sw_A_step (cc := cX11_shortest) rfl dX11_shortest_6 rfl ls st H Q
theorem r128_7 : sw_A 128 7 ls st H Q = (sw_r1 False st fun a r => sw_gf False H (some (11, 3, 1)) a fun v => sw_A 128 10 ls (v :: r) H Q) := sw_A_step (cc := cX11_shortest) rfl dX11_shortest_7 rfl ls st H Q
theorem r128_10 : sw_A 128 10 ls st H Q = (sw_A 128 11 ls (.int (Int32.ofInt 1) :: st) H Q) := sw_A_step (cc := cX11_shortest) rfl dX11_shortest_10 rfl ls st H Q
theorem r128_11 : sw_A 128 11 ls st H Q = (sw_A 128 12 ls (.int (Int32.ofInt 2) :: st) H Q) := sw_A_step (cc := cX11_shortest) rfl dX11_shortest_11 rfl ls st H Q
theorem r128_12 : sw_A 128 12 ls st H Q = (sw_pop False 3 st [] fun args r => sw_ck False r (sw_rc False H (some 9) args (sw_M 91 args H (sw_K 128 15 none ls r Q)))) := sw_A_step (cc := cX11_shortest) rfl dX11_shortest_12 rfl ls st H Q
theorem r128_15 : sw_A 128 15 ls st H Q = (match st with | [.int x] => Q (some (some (.int x))) H | _ => False) := sw_A_step (cc := cX11_shortest) rfl dX11_shortest_15 rfl ls st H Q
theorem r129_0 : sw_A 129 0 ls st H Q = (sw_lda False ls 0 fun x => sw_A 129 1 ls (.ref x :: st) H Q) := sw_A_step (cc := cL_steps) rfl dL_steps_0 rfl ls st H Q
theorem r129_1 : sw_A 129 1 ls st H Q = (sw_lda False ls 1 fun x => sw_A 129 2 ls (.ref x :: st) H Q) := sw_A_step (cc := cL_steps) rfl dL_steps_1 rfl ls st H Q
theorem r129_2 : sw_A 129 2 ls st H Q = (sw_ldl False ls 2 fun x => sw_A 129 3 ls (.long x :: st) H Q) := sw_A_step (cc := cL_steps) rfl dL_steps_2 rfl ls st H Q
theorem r129_3 : sw_A 129 3 ls st H Q = (sw_ldi False ls 4 fun x => sw_A 129 5 ls (.int x :: st) H Q) := sw_A_step (cc := cL_steps) rfl dL_steps_3 rfl ls st H Q
theorem r129_5 : sw_A 129 5 ls st H Q = (sw_ldi False ls 5 fun x => sw_A 129 7 ls (.int x :: st) H Q) := sw_A_step (cc := cL_steps) rfl dL_steps_5 rfl ls st H Q
theorem r129_7 : sw_A 129 7 ls st H Q = (sw_A 129 8 ls (.int (Int32.ofInt 0) :: st) H Q) := sw_A_step (cc := cL_steps) rfl dL_steps_7 rfl ls st H Q
theorem r129_8 : sw_A 129 8 ls st H Q = (sw_pop False 1 st [] fun args r => sw_ck False r (sw_M 69 args H (sw_K 129 11 none ls r Q))) := sw_A_step (cc := cL_steps) rfl dL_steps_8 rfl ls st H Q
theorem r129_11 : sw_A 129 11 ls st H Q = (sw_A 129 12 ls (.int (Int32.ofInt (-1)) :: st) H Q) := sw_A_step (cc := cL_steps) rfl dL_steps_11 rfl ls st H Q
theorem r129_12 : sw_A 129 12 ls st H Q = (sw_pop False 7 st [] fun args r => sw_ck False r (sw_M 82 args H (sw_K 129 15 none ls r Q))) := sw_A_step (cc := cL_steps) rfl dL_steps_12 rfl ls st H Q
theorem r129_15 : sw_A 129 15 ls st H Q = (sw_has1 False ls 7 (sw_l1 False st fun x r => sw_A 129 17 (sw_set2 ls 6 (.long x)) r H Q)) := sw_A_step (cc := cL_steps) rfl dL_steps_15 rfl ls st H Q
theorem r129_17 : sw_A 129 17 ls st H Q = (sw_ldl False ls 6 fun x => sw_A 129 19 ls (.long x :: st) H Q) := sw_A_step (cc := cL_steps) rfl dL_steps_17 rfl ls st H Q
theorem r129_19 : sw_A 129 19 ls st H Q = (sw_A 129 20 ls (.int (Int32.ofInt 1) :: st) H Q) := sw_A_step (cc := cL_steps) rfl dL_steps_19 rfl ls st H Q
theorem r129_20 : sw_A 129 20 ls st H Q = (sw_pop False 1 st [] fun args r => sw_ck False r (sw_M 69 args H (sw_K 129 23 none ls r Q))) := sw_A_step (cc := cL_steps) rfl dL_steps_20 rfl ls st H Q
theorem r129_23 : sw_A 129 23 ls st H Q = (sw_l2 False st fun x y r => sw_A 129 24 ls (.long (x &&& y) :: r) H Q) := sw_A_step (cc := cL_steps) rfl dL_steps_23 rfl ls st H Q
theorem r129_24 : sw_A 129 24 ls st H Q = (sw_A 129 25 ls (.long (Int64.ofNat 0) :: st) H Q) := sw_A_step (cc := cL_steps) rfl dL_steps_24 rfl ls st H Q
theorem r129_25 : sw_A 129 25 ls st H Q = (sw_l2 False st fun x y r => sw_A 129 26 ls (.int (lg_cmp x y) :: r) H Q) := sw_A_step (cc := cL_steps) rfl dL_steps_25 rfl ls st H Q
theorem r129_26 : sw_A 129 26 ls st H Q = (sw_i1 False st fun x r => if ¬ x = 0 then sw_A 129 31 ls r H Q else sw_A 129 29 ls r H Q) := sw_A_step (cc := cL_steps) rfl dL_steps_26 rfl ls st H Q
theorem r129_29 : sw_A 129 29 ls st H Q = (sw_A 129 30 ls (.int (Int32.ofInt (-1)) :: st) H Q) := sw_A_step (cc := cL_steps) rfl dL_steps_29 rfl ls st H Q
theorem r129_30 : sw_A 129 30 ls st H Q = (match st with | [.int x] => Q (some (some (.int x))) H | _ => False) := sw_A_step (cc := cL_steps) rfl dL_steps_30 rfl ls st H Q
theorem r129_31 : sw_A 129 31 ls st H Q = (sw_A 129 32 ls (.long (Int64.ofNat 0) :: st) H Q) := sw_A_step (cc := cL_steps) rfl dL_steps_31 rfl ls st H Q
theorem r129_32 : sw_A 129 32 ls st H Q = (sw_has1 False ls 9 (sw_l1 False st fun x r => sw_A 129 34 (sw_set2 ls 8 (.long x)) r H Q)) := sw_A_step (cc := cL_steps) rfl dL_steps_32 rfl ls st H Q
theorem r129_34 : sw_A 129 34 ls st H Q = (sw_A 129 35 ls (.int (Int32.ofInt 0) :: st) H Q) := sw_A_step (cc := cL_steps) rfl dL_steps_34 rfl ls st H Q
theorem r129_35 : sw_A 129 35 ls st H Q = (sw_has1 False ls 10 (sw_i1 False st fun x r => sw_A 129 37 (sw_set1 ls 10 (.int x)) r H Q)) := sw_A_step (cc := cL_steps) rfl dL_steps_35 rfl ls st H Q
theorem r129_37 : sw_A 129 37 ls st H Q = (sw_ldi False ls 10 fun x => sw_A 129 39 ls (.int x :: st) H Q) := sw_A_step (cc := cL_steps) rfl dL_steps_37 rfl ls st H Q
theorem r129_39 : sw_A 129 39 ls st H Q = (sw_A 129 41 ls (.int (Int32.ofInt 36) :: st) H Q) := sw_A_step (cc := cL_steps) rfl dL_steps_39 rfl ls st H Q
theorem r129_41 : sw_A 129 41 ls st H Q = (sw_i2 False st fun x y r => if y ≤ x then sw_A 129 94 ls r H Q else sw_A 129 44 ls r H Q) := sw_A_step (cc := cL_steps) rfl dL_steps_41 rfl ls st H Q
theorem r129_44 : sw_A 129 44 ls st H Q = (sw_A 129 45 ls (.int (Int32.ofInt 0) :: st) H Q) := sw_A_step (cc := cL_steps) rfl dL_steps_44 rfl ls st H Q
theorem r129_45 : sw_A 129 45 ls st H Q = (sw_pop False 1 st [] fun args r => sw_ck False r (sw_M 69 args H (sw_K 129 48 none ls r Q))) := sw_A_step (cc := cL_steps) rfl dL_steps_45 rfl ls st H Q
theorem r129_48 : sw_A 129 48 ls st H Q = (sw_ldi False ls 10 fun x => sw_A 129 50 ls (.int x :: st) H Q) := sw_A_step (cc := cL_steps) rfl dL_steps_48 rfl ls st H Q
theorem r129_50 : sw_A 129 50 ls st H Q = (sw_pop False 2 st [] fun args r => sw_ck False r (sw_M 30 args H (sw_K 129 53 none ls r Q))) := sw_A_step (cc := cL_steps) rfl dL_steps_50 rfl ls st H Q
theorem r129_53 : sw_A 129 53 ls st H Q = (sw_i1 False st fun x r => if x = 0 then sw_A 129 88 ls r H Q else sw_A 129 56 ls r H Q) := sw_A_step (cc := cL_steps) rfl dL_steps_53 rfl ls st H Q
theorem r129_56 : sw_A 129 56 ls st H Q = (sw_ldl False ls 2 fun x => sw_A 129 57 ls (.long x :: st) H Q) := sw_A_step (cc := cL_steps) rfl dL_steps_56 rfl ls st H Q
theorem r129_57 : sw_A 129 57 ls st H Q = (sw_ldi False ls 10 fun x => sw_A 129 59 ls (.int x :: st) H Q) := sw_A_step (cc := cL_steps) rfl dL_steps_57 rfl ls st H Q
theorem r129_59 : sw_A 129 59 ls st H Q = (sw_pop False 2 st [] fun args r => sw_ck False r (sw_M 30 args H (sw_K 129 62 none ls r Q))) := sw_A_step (cc := cL_steps) rfl dL_steps_59 rfl ls st H Q
theorem r129_62 : sw_A 129 62 ls st H Q = (sw_i1 False st fun x r => if ¬ x = 0 then sw_A 129 88 ls r H Q else sw_A 129 65 ls r H Q) := sw_A_step (cc := cL_steps) rfl dL_steps_62 rfl ls st H Q
theorem r129_65 : sw_A 129 65 ls st H Q = (sw_ldi False ls 4 fun x => sw_A 129 67 ls (.int x :: st) H Q) := sw_A_step (cc := cL_steps) rfl dL_steps_65 rfl ls st H Q
theorem r129_67 : sw_A 129 67 ls st H Q = (sw_i1 False st fun x r => if x = 0 then sw_A 129 79 ls r H Q else sw_A 129 70 ls r H Q) := sw_A_step (cc := cL_steps) rfl dL_steps_67 rfl ls st H Q
theorem r129_70 : sw_A 129 70 ls st H Q = (sw_lda False ls 1 fun x => sw_A 129 71 ls (.ref x :: st) H Q) := sw_A_step (cc := cL_steps) rfl dL_steps_70 rfl ls st H Q
theorem r129_71 : sw_A 129 71 ls st H Q = (sw_ldi False ls 10 fun x => sw_A 129 73 ls (.int x :: st) H Q) := sw_A_step (cc := cL_steps) rfl dL_steps_71 rfl ls st H Q
theorem r129_73 : sw_A 129 73 ls st H Q = (sw_ri False st fun a i r => sw_ald False H 0 a i fun x => sw_A 129 74 ls (.int x :: r) H Q) := sw_A_step (cc := cL_steps) rfl dL_steps_73 rfl ls st H Q
theorem r129_74 : sw_A 129 74 ls st H Q = (sw_ldi False ls 5 fun x => sw_A 129 76 ls (.int x :: st) H Q) := sw_A_step (cc := cL_steps) rfl dL_steps_74 rfl ls st H Q
theorem r129_76 : sw_A 129 76 ls st H Q = (sw_i2 False st fun x y r => if y ≤ x then sw_A 129 88 ls r H Q else sw_A 129 79 ls r H Q) := sw_A_step (cc := cL_steps) rfl dL_steps_76 rfl ls st H Q
theorem r129_79 : sw_A 129 79 ls st H Q = (sw_ldl False ls 8 fun x => sw_A 129 81 ls (.long x :: st) H Q) := sw_A_step (cc := cL_steps) rfl dL_steps_79 rfl ls st H Q
theorem r129_81 : sw_A 129 81 ls st H Q = (sw_A 129 82 ls (.long (Int64.ofNat 1) :: st) H Q) := sw_A_step (cc := cL_steps) rfl dL_steps_81 rfl ls st H Q
theorem r129_82 : sw_A 129 82 ls st H Q = (sw_ldi False ls 10 fun x => sw_A 129 84 ls (.int x :: st) H Q) := sw_A_step (cc := cL_steps) rfl dL_steps_82 rfl ls st H Q
theorem r129_84 : sw_A 129 84 ls st H Q = (sw_li False st fun x y r => sw_A 129 85 ls (.long (x <<< (y.toInt64 &&& 63)) :: r) H Q) := sw_A_step (cc := cL_steps) rfl dL_steps_84 rfl ls st H Q
theorem r129_85 : sw_A 129 85 ls st H Q = (sw_l2 False st fun x y r => sw_A 129 86 ls (.long (x ||| y) :: r) H Q) := sw_A_step (cc := cL_steps) rfl dL_steps_85 rfl ls st H Q
theorem r129_86 : sw_A 129 86 ls st H Q = (sw_has1 False ls 9 (sw_l1 False st fun x r => sw_A 129 88 (sw_set2 ls 8 (.long x)) r H Q)) := sw_A_step (cc := cL_steps) rfl dL_steps_86 rfl ls st H Q
theorem r129_88 : sw_A 129 88 ls st H Q = (sw_ldi False ls 10 fun x => sw_A 129 91 (sw_set1 ls 10 (.int (x + Int32.ofInt 1))) st H Q) := sw_A_step (cc := cL_steps) rfl dL_steps_88 rfl ls st H Q
theorem r129_91 : sw_A 129 91 ls st H Q = (sw_A 129 37 ls st H Q) := sw_A_step (cc := cL_steps) rfl dL_steps_91 rfl ls st H Q
theorem r129_94 : sw_A 129 94 ls st H Q = (sw_A 129 95 ls (.int (Int32.ofInt 0) :: st) H Q) := sw_A_step (cc := cL_steps) rfl dL_steps_94 rfl ls st H Q
theorem r129_95 : sw_A 129 95 ls st H Q = (sw_has1 False ls 10 (sw_i1 False st fun x r => sw_A 129 97 (sw_set1 ls 10 (.int x)) r H Q)) := sw_A_step (cc := cL_steps) rfl dL_steps_95 rfl ls st H Q
theorem r129_97 : sw_A 129 97 ls st H Q = (sw_ldl False ls 8 fun x => sw_A 129 99 ls (.long x :: st) H Q) := sw_A_step (cc := cL_steps) rfl dL_steps_97 rfl ls st H Q
theorem r129_99 : sw_A 129 99 ls st H Q = (sw_A 129 100 ls (.int (Int32.ofInt 1) :: st) H Q) := sw_A_step (cc := cL_steps) rfl dL_steps_99 rfl ls st H Q
theorem r129_100 : sw_A 129 100 ls st H Q = (sw_pop False 1 st [] fun args r => sw_ck False r (sw_M 69 args H (sw_K 129 103 none ls r Q))) := sw_A_step (cc := cL_steps) rfl dL_steps_100 rfl ls st H Q
theorem r129_103 : sw_A 129 103 ls st H Q = (sw_l2 False st fun x y r => sw_A 129 104 ls (.long (x &&& y) :: r) H Q) := sw_A_step (cc := cL_steps) rfl dL_steps_103 rfl ls st H Q
theorem r129_104 : sw_A 129 104 ls st H Q = (sw_A 129 105 ls (.long (Int64.ofNat 0) :: st) H Q) := sw_A_step (cc := cL_steps) rfl dL_steps_104 rfl ls st H Q
theorem r129_105 : sw_A 129 105 ls st H Q = (sw_l2 False st fun x y r => sw_A 129 106 ls (.int (lg_cmp x y) :: r) H Q) := sw_A_step (cc := cL_steps) rfl dL_steps_105 rfl ls st H Q
theorem r129_106 : sw_A 129 106 ls st H Q = (sw_i1 False st fun x r => if ¬ x = 0 then sw_A 129 197 ls r H Q else sw_A 129 109 ls r H Q) := sw_A_step (cc := cL_steps) rfl dL_steps_106 rfl ls st H Q
theorem r129_109 : sw_A 129 109 ls st H Q = (sw_ldl False ls 8 fun x => sw_A 129 111 ls (.long x :: st) H Q) := sw_A_step (cc := cL_steps) rfl dL_steps_109 rfl ls st H Q
theorem r129_111 : sw_A 129 111 ls st H Q = (sw_has1 False ls 12 (sw_l1 False st fun x r => sw_A 129 113 (sw_set2 ls 11 (.long x)) r H Q)) := sw_A_step (cc := cL_steps) rfl dL_steps_111 rfl ls st H Q
theorem r129_113 : sw_A 129 113 ls st H Q = (sw_A 129 114 ls (.int (Int32.ofInt 0) :: st) H Q) := sw_A_step (cc := cL_steps) rfl dL_steps_113 rfl ls st H Q
theorem r129_114 : sw_A 129 114 ls st H Q = (sw_has1 False ls 13 (sw_i1 False st fun x r => sw_A 129 116 (sw_set1 ls 13 (.int x)) r H Q)) := sw_A_step (cc := cL_steps) rfl dL_steps_114 rfl ls st H Q
theorem r129_116 : sw_A 129 116 ls st H Q = (sw_ldi False ls 13 fun x => sw_A 129 118 ls (.int x :: st) H Q) := sw_A_step (cc := cL_steps) rfl dL_steps_116 rfl ls st H Q
theorem r129_118 : sw_A 129 118 ls st H Q = (sw_A 129 120 ls (.int (Int32.ofInt 60) :: st) H Q) := sw_A_step (cc := cL_steps) rfl dL_steps_118 rfl ls st H Q
theorem r129_120 : sw_A 129 120 ls st H Q = (sw_i2 False st fun x y r => if y ≤ x then sw_A 129 187 ls r H Q else sw_A 129 123 ls r H Q) := sw_A_step (cc := cL_steps) rfl dL_steps_120 rfl ls st H Q
theorem r129_123 : sw_A 129 123 ls st H Q = (sw_ldl False ls 8 fun x => sw_A 129 125 ls (.long x :: st) H Q) := sw_A_step (cc := cL_steps) rfl dL_steps_123 rfl ls st H Q
theorem r129_125 : sw_A 129 125 ls st H Q = (sw_ldi False ls 13 fun x => sw_A 129 127 ls (.int x :: st) H Q) := sw_A_step (cc := cL_steps) rfl dL_steps_125 rfl ls st H Q
theorem r129_127 : sw_A 129 127 ls st H Q = (sw_pop False 1 st [] fun args r => sw_ck False r (sw_M 79 args H (sw_K 129 130 none ls r Q))) := sw_A_step (cc := cL_steps) rfl dL_steps_127 rfl ls st H Q
theorem r129_130 : sw_A 129 130 ls st H Q = (sw_pop False 2 st [] fun args r => sw_ck False r (sw_M 30 args H (sw_K 129 133 none ls r Q))) := sw_A_step (cc := cL_steps) rfl dL_steps_130 rfl ls st H Q
theorem r129_133 : sw_A 129 133 ls st H Q = (sw_ldl False ls 8 fun x => sw_A 129 135 ls (.long x :: st) H Q) := sw_A_step (cc := cL_steps) rfl dL_steps_133 rfl ls st H Q
theorem r129_135 : sw_A 129 135 ls st H Q = (sw_ldi False ls 13 fun x => sw_A 129 137 ls (.int x :: st) H Q) := sw_A_step (cc := cL_steps) rfl dL_steps_135 rfl ls st H Q
theorem r129_137 : sw_A 129 137 ls st H Q = (sw_pop False 1 st [] fun args r => sw_ck False r (sw_M 80 args H (sw_K 129 140 none ls r Q))) := sw_A_step (cc := cL_steps) rfl dL_steps_137 rfl ls st H Q
theorem r129_140 : sw_A 129 140 ls st H Q = (sw_pop False 2 st [] fun args r => sw_ck False r (sw_M 30 args H (sw_K 129 143 none ls r Q))) := sw_A_step (cc := cL_steps) rfl dL_steps_140 rfl ls st H Q
theorem r129_143 : sw_A 129 143 ls st H Q = (sw_i2 False st fun x y r => if x = y then sw_A 129 181 ls r H Q else sw_A 129 146 ls r H Q) := sw_A_step (cc := cL_steps) rfl dL_steps_143 rfl ls st H Q
theorem r129_146 : sw_A 129 146 ls st H Q = (sw_lda False ls 0 fun x => sw_A 129 147 ls (.ref x :: st) H Q) := sw_A_step (cc := cL_steps) rfl dL_steps_146 rfl ls st H Q
theorem r129_147 : sw_A 129 147 ls st H Q = (sw_lda False ls 1 fun x => sw_A 129 148 ls (.ref x :: st) H Q) := sw_A_step (cc := cL_steps) rfl dL_steps_147 rfl ls st H Q
theorem r129_148 : sw_A 129 148 ls st H Q = (sw_ldl False ls 2 fun x => sw_A 129 149 ls (.long x :: st) H Q) := sw_A_step (cc := cL_steps) rfl dL_steps_148 rfl ls st H Q
theorem r129_149 : sw_A 129 149 ls st H Q = (sw_ldi False ls 4 fun x => sw_A 129 151 ls (.int x :: st) H Q) := sw_A_step (cc := cL_steps) rfl dL_steps_149 rfl ls st H Q
theorem r129_151 : sw_A 129 151 ls st H Q = (sw_ldi False ls 5 fun x => sw_A 129 153 ls (.int x :: st) H Q) := sw_A_step (cc := cL_steps) rfl dL_steps_151 rfl ls st H Q
theorem r129_153 : sw_A 129 153 ls st H Q = (sw_ldi False ls 13 fun x => sw_A 129 155 ls (.int x :: st) H Q) := sw_A_step (cc := cL_steps) rfl dL_steps_153 rfl ls st H Q
theorem r129_155 : sw_A 129 155 ls st H Q = (sw_pop False 6 st [] fun args r => sw_ck False r (sw_M 81 args H (sw_K 129 158 none ls r Q))) := sw_A_step (cc := cL_steps) rfl dL_steps_155 rfl ls st H Q
theorem r129_158 : sw_A 129 158 ls st H Q = (sw_i1 False st fun x r => if x = 0 then sw_A 129 181 ls r H Q else sw_A 129 161 ls r H Q) := sw_A_step (cc := cL_steps) rfl dL_steps_158 rfl ls st H Q
theorem r129_161 : sw_A 129 161 ls st H Q = (sw_ldl False ls 11 fun x => sw_A 129 163 ls (.long x :: st) H Q) := sw_A_step (cc := cL_steps) rfl dL_steps_161 rfl ls st H Q
theorem r129_163 : sw_A 129 163 ls st H Q = (sw_A 129 164 ls (.long (Int64.ofNat 1) :: st) H Q) := sw_A_step (cc := cL_steps) rfl dL_steps_163 rfl ls st H Q
theorem r129_164 : sw_A 129 164 ls st H Q = (sw_ldi False ls 13 fun x => sw_A 129 166 ls (.int x :: st) H Q) := sw_A_step (cc := cL_steps) rfl dL_steps_164 rfl ls st H Q
theorem r129_166 : sw_A 129 166 ls st H Q = (sw_pop False 1 st [] fun args r => sw_ck False r (sw_M 79 args H (sw_K 129 169 none ls r Q))) := sw_A_step (cc := cL_steps) rfl dL_steps_166 rfl ls st H Q
theorem r129_169 : sw_A 129 169 ls st H Q = (sw_li False st fun x y r => sw_A 129 170 ls (.long (x <<< (y.toInt64 &&& 63)) :: r) H Q) := sw_A_step (cc := cL_steps) rfl dL_steps_169 rfl ls st H Q
theorem r129_170 : sw_A 129 170 ls st H Q = (sw_A 129 171 ls (.long (Int64.ofNat 1) :: st) H Q) := sw_A_step (cc := cL_steps) rfl dL_steps_170 rfl ls st H Q
theorem r129_171 : sw_A 129 171 ls st H Q = (sw_ldi False ls 13 fun x => sw_A 129 173 ls (.int x :: st) H Q) := sw_A_step (cc := cL_steps) rfl dL_steps_171 rfl ls st H Q
theorem r129_173 : sw_A 129 173 ls st H Q = (sw_pop False 1 st [] fun args r => sw_ck False r (sw_M 80 args H (sw_K 129 176 none ls r Q))) := sw_A_step (cc := cL_steps) rfl dL_steps_173 rfl ls st H Q
theorem r129_176 : sw_A 129 176 ls st H Q = (sw_li False st fun x y r => sw_A 129 177 ls (.long (x <<< (y.toInt64 &&& 63)) :: r) H Q) := sw_A_step (cc := cL_steps) rfl dL_steps_176 rfl ls st H Q
theorem r129_177 : sw_A 129 177 ls st H Q = (sw_l2 False st fun x y r => sw_A 129 178 ls (.long (x ||| y) :: r) H Q) := sw_A_step (cc := cL_steps) rfl dL_steps_177 rfl ls st H Q
theorem r129_178 : sw_A 129 178 ls st H Q = (sw_l2 False st fun x y r => sw_A 129 179 ls (.long (x ||| y) :: r) H Q) := sw_A_step (cc := cL_steps) rfl dL_steps_178 rfl ls st H Q
theorem r129_179 : sw_A 129 179 ls st H Q = (sw_has1 False ls 12 (sw_l1 False st fun x r => sw_A 129 181 (sw_set2 ls 11 (.long x)) r H Q)) := sw_A_step (cc := cL_steps) rfl dL_steps_179 rfl ls st H Q
theorem r129_181 : sw_A 129 181 ls st H Q = (sw_ldi False ls 13 fun x => sw_A 129 184 (sw_set1 ls 13 (.int (x + Int32.ofInt 1))) st H Q) := sw_A_step (cc := cL_steps) rfl dL_steps_181 rfl ls st H Q
theorem r129_184 : sw_A 129 184 ls st H Q = (sw_A 129 116 ls st H Q) := sw_A_step (cc := cL_steps) rfl dL_steps_184 rfl ls st H Q
theorem r129_187 : sw_A 129 187 ls st H Q = (sw_ldl False ls 11 fun x => sw_A 129 189 ls (.long x :: st) H Q) := sw_A_step (cc := cL_steps) rfl dL_steps_187 rfl ls st H Q
theorem r129_189 : sw_A 129 189 ls st H Q = (sw_has1 False ls 9 (sw_l1 False st fun x r => sw_A 129 191 (sw_set2 ls 8 (.long x)) r H Q)) := sw_A_step (cc := cL_steps) rfl dL_steps_189 rfl ls st H Q
theorem r129_191 : sw_A 129 191 ls st H Q = (sw_ldi False ls 10 fun x => sw_A 129 194 (sw_set1 ls 10 (.int (x + Int32.ofInt 1))) st H Q) := sw_A_step (cc := cL_steps) rfl dL_steps_191 rfl ls st H Q
theorem r129_194 : sw_A 129 194 ls st H Q = (sw_A 129 97 ls st H Q) := sw_A_step (cc := cL_steps) rfl dL_steps_194 rfl ls st H Q
theorem r129_197 : sw_A 129 197 ls st H Q = (sw_ldi False ls 10 fun x => sw_A 129 199 ls (.int x :: st) H Q) := sw_A_step (cc := cL_steps) rfl dL_steps_197 rfl ls st H Q
theorem r129_199 : sw_A 129 199 ls st H Q = (match st with | [.int x] => Q (some (some (.int x))) H | _ => False) := sw_A_step (cc := cL_steps) rfl dL_steps_199 rfl ls st H Q
theorem r130_0 : sw_A 130 0 ls st H Q = (sw_ldi False ls 7 fun x => sw_A 130 2 ls (.int x :: st) H Q) := sw_A_step (cc := cL_thresholds) rfl dL_thresholds_0 rfl ls st H Q
theorem r130_2 : sw_A 130 2 ls st H Q = (sw_A 130 3 ls (.int (Int32.ofInt 5) :: st) H Q) := sw_A_step (cc := cL_thresholds) rfl dL_thresholds_2 rfl ls st H Q
theorem r130_3 : sw_A 130 3 ls st H Q = (sw_i2 False st fun x y r => sw_A 130 4 ls (.int (x >>> (y &&& 31)) :: r) H Q) := sw_A_step (cc := cL_thresholds) rfl dL_thresholds_3 rfl ls st H Q
theorem r130_4 : sw_A 130 4 ls st H Q = (sw_A 130 5 ls (.int (Int32.ofInt 2) :: st) H Q) := sw_A_step (cc := cL_thresholds) rfl dL_thresholds_4 rfl ls st H Q
theorem r130_5 : sw_A 130 5 ls st H Q = (sw_pop False 2 st [] fun args r => sw_ck False r (sw_M 16 args H (sw_K 130 8 none ls r Q))) := sw_A_step (cc := cL_thresholds) rfl dL_thresholds_5 rfl ls st H Q
theorem r130_8 : sw_A 130 8 ls st H Q = (sw_i1 False st fun x r => if ¬ x = 0 then sw_A 130 15 ls r H Q else sw_A 130 11 ls r H Q) := sw_A_step (cc := cL_thresholds) rfl dL_thresholds_8 rfl ls st H Q
theorem r130_11 : sw_A 130 11 ls st H Q = (sw_A 130 12 ls (.int (Int32.ofInt 1) :: st) H Q) := sw_A_step (cc := cL_thresholds) rfl dL_thresholds_11 rfl ls st H Q
theorem r130_12 : sw_A 130 12 ls st H Q = (sw_A 130 16 ls st H Q) := sw_A_step (cc := cL_thresholds) rfl dL_thresholds_12 rfl ls st H Q
theorem r130_15 : sw_A 130 15 ls st H Q = (sw_A 130 16 ls (.int (Int32.ofInt 0) :: st) H Q) := sw_A_step (cc := cL_thresholds) rfl dL_thresholds_15 rfl ls st H Q
theorem r130_16 : sw_A 130 16 ls st H Q = (sw_has1 False ls 8 (sw_i1 False st fun x r => sw_A 130 18 (sw_set1 ls 8 (.int x)) r H Q)) := sw_A_step (cc := cL_thresholds) rfl dL_thresholds_16 rfl ls st H Q
theorem r130_18 : sw_A 130 18 ls st H Q = (sw_ldi False ls 7 fun x => sw_A 130 20 ls (.int x :: st) H Q) := sw_A_step (cc := cL_thresholds) rfl dL_thresholds_18 rfl ls st H Q
theorem r130_20 : sw_A 130 20 ls st H Q = (sw_A 130 22 ls (.int (Int32.ofInt 7) :: st) H Q) := sw_A_step (cc := cL_thresholds) rfl dL_thresholds_20 rfl ls st H Q
theorem r130_22 : sw_A 130 22 ls st H Q = (sw_i2 False st fun x y r => sw_A 130 23 ls (.int (x >>> (y &&& 31)) :: r) H Q) := sw_A_step (cc := cL_thresholds) rfl dL_thresholds_22 rfl ls st H Q
theorem r130_23 : sw_A 130 23 ls st H Q = (sw_A 130 25 ls (.int (Int32.ofInt 36) :: st) H Q) := sw_A_step (cc := cL_thresholds) rfl dL_thresholds_23 rfl ls st H Q
theorem r130_25 : sw_A 130 25 ls st H Q = (sw_pop False 2 st [] fun args r => sw_ck False r (sw_M 16 args H (sw_K 130 28 none ls r Q))) := sw_A_step (cc := cL_thresholds) rfl dL_thresholds_25 rfl ls st H Q
theorem r130_28 : sw_A 130 28 ls st H Q = (sw_has1 False ls 9 (sw_i1 False st fun x r => sw_A 130 30 (sw_set1 ls 9 (.int x)) r H Q)) := sw_A_step (cc := cL_thresholds) rfl dL_thresholds_28 rfl ls st H Q
theorem r130_30 : sw_A 130 30 ls st H Q = (sw_lda False ls 0 fun x => sw_A 130 31 ls (.ref x :: st) H Q) := sw_A_step (cc := cL_thresholds) rfl dL_thresholds_30 rfl ls st H Q
theorem r130_31 : sw_A 130 31 ls st H Q = (sw_ldi False ls 5 fun x => sw_A 130 33 ls (.int x :: st) H Q) := sw_A_step (cc := cL_thresholds) rfl dL_thresholds_31 rfl ls st H Q
theorem r130_33 : sw_A 130 33 ls st H Q = (sw_ldi False ls 6 fun x => sw_A 130 35 ls (.int x :: st) H Q) := sw_A_step (cc := cL_thresholds) rfl dL_thresholds_33 rfl ls st H Q
theorem r130_35 : sw_A 130 35 ls st H Q = (sw_ldi False ls 8 fun x => sw_A 130 37 ls (.int x :: st) H Q) := sw_A_step (cc := cL_thresholds) rfl dL_thresholds_35 rfl ls st H Q
theorem r130_37 : sw_A 130 37 ls st H Q = (sw_pop False 4 st [] fun args r => sw_ck False r (sw_rc False H (some 11) args (sw_M 96 args H (sw_K 130 40 none ls r Q)))) := sw_A_step (cc := cL_thresholds) rfl dL_thresholds_37 rfl ls st H Q
theorem r130_40 : sw_A 130 40 ls st H Q = (sw_lda False ls 1 fun x => sw_A 130 41 ls (.ref x :: st) H Q) := sw_A_step (cc := cL_thresholds) rfl dL_thresholds_40 rfl ls st H Q
theorem r130_41 : sw_A 130 41 ls st H Q = (sw_lda False ls 2 fun x => sw_A 130 42 ls (.ref x :: st) H Q) := sw_A_step (cc := cL_thresholds) rfl dL_thresholds_41 rfl ls st H Q
theorem r130_42 : sw_A 130 42 ls st H Q = (sw_ldl False ls 3 fun x => sw_A 130 43 ls (.long x :: st) H Q) := sw_A_step (cc := cL_thresholds) rfl dL_thresholds_42 rfl ls st H Q
theorem r130_43 : sw_A 130 43 ls st H Q = (sw_ldi False ls 5 fun x => sw_A 130 45 ls (.int x :: st) H Q) := sw_A_step (cc := cL_thresholds) rfl dL_thresholds_43 rfl ls st H Q
theorem r130_45 : sw_A 130 45 ls st H Q = (sw_ldi False ls 6 fun x => sw_A 130 47 ls (.int x :: st) H Q) := sw_A_step (cc := cL_thresholds) rfl dL_thresholds_45 rfl ls st H Q
theorem r130_47 : sw_A 130 47 ls st H Q = (sw_ldi False ls 8 fun x => sw_A 130 49 ls (.int x :: st) H Q) := sw_A_step (cc := cL_thresholds) rfl dL_thresholds_47 rfl ls st H Q
theorem r130_49 : sw_A 130 49 ls st H Q = (sw_A 130 50 ls (.int (Int32.ofInt (-1)) :: st) H Q) := sw_A_step (cc := cL_thresholds) rfl dL_thresholds_49 rfl ls st H Q
theorem r130_50 : sw_A 130 50 ls st H Q = (sw_pop False 7 st [] fun args r => sw_ck False r (sw_M 83 args H (sw_K 130 53 none ls r Q))) := sw_A_step (cc := cL_thresholds) rfl dL_thresholds_50 rfl ls st H Q
theorem r130_53 : sw_A 130 53 ls st H Q = (sw_i2 False st fun x y r => if x = y then sw_A 130 58 ls r H Q else sw_A 130 56 ls r H Q) := sw_A_step (cc := cL_thresholds) rfl dL_thresholds_53 rfl ls st H Q
theorem r130_56 : sw_A 130 56 ls st H Q = (sw_A 130 57 ls (.int (Int32.ofInt 0) :: st) H Q) := sw_A_step (cc := cL_thresholds) rfl dL_thresholds_56 rfl ls st H Q
theorem r130_57 : sw_A 130 57 ls st H Q = (match st with | [.int x] => (if 2 = 1 ∨ 2 = 2 ∧ (x = 0 ∨ x = 1) then Q (some (some (.int x))) H else False) | _ => False) := sw_A_step (cc := cL_thresholds) rfl dL_thresholds_57 rfl ls st H Q
theorem r130_58 : sw_A 130 58 ls st H Q = (sw_lda False ls 1 fun x => sw_A 130 59 ls (.ref x :: st) H Q) := sw_A_step (cc := cL_thresholds) rfl dL_thresholds_58 rfl ls st H Q
theorem r130_59 : sw_A 130 59 ls st H Q = (sw_lda False ls 2 fun x => sw_A 130 60 ls (.ref x :: st) H Q) := sw_A_step (cc := cL_thresholds) rfl dL_thresholds_59 rfl ls st H Q
theorem r130_60 : sw_A 130 60 ls st H Q = (sw_ldl False ls 3 fun x => sw_A 130 61 ls (.long x :: st) H Q) := sw_A_step (cc := cL_thresholds) rfl dL_thresholds_60 rfl ls st H Q
theorem r130_61 : sw_A 130 61 ls st H Q = (sw_ldi False ls 5 fun x => sw_A 130 63 ls (.int x :: st) H Q) := sw_A_step (cc := cL_thresholds) rfl dL_thresholds_61 rfl ls st H Q
theorem r130_63 : sw_A 130 63 ls st H Q = (sw_ldi False ls 6 fun x => sw_A 130 65 ls (.int x :: st) H Q) := sw_A_step (cc := cL_thresholds) rfl dL_thresholds_63 rfl ls st H Q
theorem r130_65 : sw_A 130 65 ls st H Q = (sw_A 130 66 ls (.long (Int64.ofNat 1) :: st) H Q) := sw_A_step (cc := cL_thresholds) rfl dL_thresholds_65 rfl ls st H Q
theorem r130_66 : sw_A 130 66 ls st H Q = (sw_ldi False ls 9 fun x => sw_A 130 68 ls (.int x :: st) H Q) := sw_A_step (cc := cL_thresholds) rfl dL_thresholds_66 rfl ls st H Q
theorem r130_68 : sw_A 130 68 ls st H Q = (sw_li False st fun x y r => sw_A 130 69 ls (.long (x <<< (y.toInt64 &&& 63)) :: r) H Q) := sw_A_step (cc := cL_thresholds) rfl dL_thresholds_68 rfl ls st H Q
theorem r130_69 : sw_A 130 69 ls st H Q = (sw_A 130 70 ls (.int (Int32.ofInt (-1)) :: st) H Q) := sw_A_step (cc := cL_thresholds) rfl dL_thresholds_69 rfl ls st H Q
theorem r130_70 : sw_A 130 70 ls st H Q = (sw_pop False 7 st [] fun args r => sw_ck False r (sw_M 82 args H (sw_K 130 73 none ls r Q))) := sw_A_step (cc := cL_thresholds) rfl dL_thresholds_70 rfl ls st H Q
theorem r130_73 : sw_A 130 73 ls st H Q = (sw_has1 False ls 11 (sw_l1 False st fun x r => sw_A 130 75 (sw_set2 ls 10 (.long x)) r H Q)) := sw_A_step (cc := cL_thresholds) rfl dL_thresholds_73 rfl ls st H Q
theorem r130_75 : sw_A 130 75 ls st H Q = (sw_lda False ls 0 fun x => sw_A 130 76 ls (.ref x :: st) H Q) := sw_A_step (cc := cL_thresholds) rfl dL_thresholds_75 rfl ls st H Q
theorem r130_76 : sw_A 130 76 ls st H Q = (sw_ldi False ls 5 fun x => sw_A 130 78 ls (.int x :: st) H Q) := sw_A_step (cc := cL_thresholds) rfl dL_thresholds_76 rfl ls st H Q
theorem r130_78 : sw_A 130 78 ls st H Q = (sw_ldi False ls 6 fun x => sw_A 130 80 ls (.int x :: st) H Q) := sw_A_step (cc := cL_thresholds) rfl dL_thresholds_78 rfl ls st H Q
theorem r130_80 : sw_A 130 80 ls st H Q = (sw_ldi False ls 9 fun x => sw_A 130 82 ls (.int x :: st) H Q) := sw_A_step (cc := cL_thresholds) rfl dL_thresholds_80 rfl ls st H Q
theorem r130_82 : sw_A 130 82 ls st H Q = (sw_pop False 4 st [] fun args r => sw_ck False r (sw_rc False H (some 11) args (sw_M 99 args H (sw_K 130 85 none ls r Q)))) := sw_A_step (cc := cL_thresholds) rfl dL_thresholds_82 rfl ls st H Q
theorem r130_85 : sw_A 130 85 ls st H Q = (sw_ldl False ls 10 fun x => sw_A 130 87 ls (.long x :: st) H Q) := sw_A_step (cc := cL_thresholds) rfl dL_thresholds_85 rfl ls st H Q
theorem r130_87 : sw_A 130 87 ls st H Q = (sw_pop False 1 st [] fun args r => sw_ck False r (sw_M 100 args H (sw_K 130 90 none ls r Q))) := sw_A_step (cc := cL_thresholds) rfl dL_thresholds_87 rfl ls st H Q
theorem r130_90 : sw_A 130 90 ls st H Q = (sw_i2 False st fun x y r => if x = y then sw_A 130 95 ls r H Q else sw_A 130 93 ls r H Q) := sw_A_step (cc := cL_thresholds) rfl dL_thresholds_90 rfl ls st H Q
theorem r130_93 : sw_A 130 93 ls st H Q = (sw_A 130 94 ls (.int (Int32.ofInt 0) :: st) H Q) := sw_A_step (cc := cL_thresholds) rfl dL_thresholds_93 rfl ls st H Q
theorem r130_94 : sw_A 130 94 ls st H Q = (match st with | [.int x] => (if 2 = 1 ∨ 2 = 2 ∧ (x = 0 ∨ x = 1) then Q (some (some (.int x))) H else False) | _ => False) := sw_A_step (cc := cL_thresholds) rfl dL_thresholds_94 rfl ls st H Q
theorem r130_95 : sw_A 130 95 ls st H Q = (sw_lda False ls 1 fun x => sw_A 130 96 ls (.ref x :: st) H Q) := sw_A_step (cc := cL_thresholds) rfl dL_thresholds_95 rfl ls st H Q
theorem r130_96 : sw_A 130 96 ls st H Q = (sw_lda False ls 2 fun x => sw_A 130 97 ls (.ref x :: st) H Q) := sw_A_step (cc := cL_thresholds) rfl dL_thresholds_96 rfl ls st H Q
theorem r130_97 : sw_A 130 97 ls st H Q = (sw_ldl False ls 3 fun x => sw_A 130 98 ls (.long x :: st) H Q) := sw_A_step (cc := cL_thresholds) rfl dL_thresholds_97 rfl ls st H Q
theorem r130_98 : sw_A 130 98 ls st H Q = (sw_ldi False ls 5 fun x => sw_A 130 100 ls (.int x :: st) H Q) := sw_A_step (cc := cL_thresholds) rfl dL_thresholds_98 rfl ls st H Q
theorem r130_100 : sw_A 130 100 ls st H Q = (sw_ldi False ls 6 fun x => sw_A 130 102 ls (.int x :: st) H Q) := sw_A_step (cc := cL_thresholds) rfl dL_thresholds_100 rfl ls st H Q
theorem r130_102 : sw_A 130 102 ls st H Q = (sw_A 130 105 ls (.long (Int64.ofInt 68719476735) :: st) H Q) := sw_A_step (cc := cL_thresholds) rfl dL_thresholds_102 rfl ls st H Q
theorem r130_105 : sw_A 130 105 ls st H Q = (sw_A 130 106 ls (.int (Int32.ofInt (-1)) :: st) H Q) := sw_A_step (cc := cL_thresholds) rfl dL_thresholds_105 rfl ls st H Q
theorem r130_106 : sw_A 130 106 ls st H Q = (sw_pop False 7 st [] fun args r => sw_ck False r (sw_M 82 args H (sw_K 130 109 none ls r Q))) := sw_A_step (cc := cL_thresholds) rfl dL_thresholds_106 rfl ls st H Q
theorem r130_109 : sw_A 130 109 ls st H Q = (sw_has1 False ls 13 (sw_l1 False st fun x r => sw_A 130 111 (sw_set2 ls 12 (.long x)) r H Q)) := sw_A_step (cc := cL_thresholds) rfl dL_thresholds_109 rfl ls st H Q
theorem r130_111 : sw_A 130 111 ls st H Q = (sw_A 130 112 ls (.int (Int32.ofInt 0) :: st) H Q) := sw_A_step (cc := cL_thresholds) rfl dL_thresholds_111 rfl ls st H Q
theorem r130_112 : sw_A 130 112 ls st H Q = (sw_has1 False ls 14 (sw_i1 False st fun x r => sw_A 130 114 (sw_set1 ls 14 (.int x)) r H Q)) := sw_A_step (cc := cL_thresholds) rfl dL_thresholds_112 rfl ls st H Q
theorem r130_114 : sw_A 130 114 ls st H Q = (sw_A 130 115 ls (.int (Int32.ofInt 0) :: st) H Q) := sw_A_step (cc := cL_thresholds) rfl dL_thresholds_114 rfl ls st H Q
theorem r130_115 : sw_A 130 115 ls st H Q = (sw_has1 False ls 15 (sw_i1 False st fun x r => sw_A 130 117 (sw_set1 ls 15 (.int x)) r H Q)) := sw_A_step (cc := cL_thresholds) rfl dL_thresholds_115 rfl ls st H Q
theorem r130_117 : sw_A 130 117 ls st H Q = (sw_A 130 118 ls (.int (Int32.ofInt 0) :: st) H Q) := sw_A_step (cc := cL_thresholds) rfl dL_thresholds_117 rfl ls st H Q
theorem r130_118 : sw_A 130 118 ls st H Q = (sw_has1 False ls 16 (sw_i1 False st fun x r => sw_A 130 120 (sw_set1 ls 16 (.int x)) r H Q)) := sw_A_step (cc := cL_thresholds) rfl dL_thresholds_118 rfl ls st H Q
theorem r130_120 : sw_A 130 120 ls st H Q = (sw_ldl False ls 12 fun x => sw_A 130 122 ls (.long x :: st) H Q) := sw_A_step (cc := cL_thresholds) rfl dL_thresholds_120 rfl ls st H Q
theorem r130_122 : sw_A 130 122 ls st H Q = (sw_A 130 123 ls (.long (Int64.ofNat 0) :: st) H Q) := sw_A_step (cc := cL_thresholds) rfl dL_thresholds_122 rfl ls st H Q
theorem r130_123 : sw_A 130 123 ls st H Q = (sw_l2 False st fun x y r => sw_A 130 124 ls (.int (lg_cmp x y) :: r) H Q) := sw_A_step (cc := cL_thresholds) rfl dL_thresholds_123 rfl ls st H Q
theorem r130_124 : sw_A 130 124 ls st H Q = (sw_i1 False st fun x r => if x = 0 then sw_A 130 192 ls r H Q else sw_A 130 127 ls r H Q) := sw_A_step (cc := cL_thresholds) rfl dL_thresholds_124 rfl ls st H Q
theorem r130_127 : sw_A 130 127 ls st H Q = (sw_lda False ls 1 fun x => sw_A 130 128 ls (.ref x :: st) H Q) := sw_A_step (cc := cL_thresholds) rfl dL_thresholds_127 rfl ls st H Q
theorem r130_128 : sw_A 130 128 ls st H Q = (sw_lda False ls 2 fun x => sw_A 130 129 ls (.ref x :: st) H Q) := sw_A_step (cc := cL_thresholds) rfl dL_thresholds_128 rfl ls st H Q
theorem r130_129 : sw_A 130 129 ls st H Q = (sw_ldl False ls 3 fun x => sw_A 130 130 ls (.long x :: st) H Q) := sw_A_step (cc := cL_thresholds) rfl dL_thresholds_129 rfl ls st H Q
theorem r130_130 : sw_A 130 130 ls st H Q = (sw_ldi False ls 5 fun x => sw_A 130 132 ls (.int x :: st) H Q) := sw_A_step (cc := cL_thresholds) rfl dL_thresholds_130 rfl ls st H Q
theorem r130_132 : sw_A 130 132 ls st H Q = (sw_ldi False ls 6 fun x => sw_A 130 134 ls (.int x :: st) H Q) := sw_A_step (cc := cL_thresholds) rfl dL_thresholds_132 rfl ls st H Q
theorem r130_134 : sw_A 130 134 ls st H Q = (sw_A 130 135 ls (.long (Int64.ofNat 1) :: st) H Q) := sw_A_step (cc := cL_thresholds) rfl dL_thresholds_134 rfl ls st H Q
theorem r130_135 : sw_A 130 135 ls st H Q = (sw_ldl False ls 12 fun x => sw_A 130 137 ls (.long x :: st) H Q) := sw_A_step (cc := cL_thresholds) rfl dL_thresholds_135 rfl ls st H Q
theorem r130_137 : sw_A 130 137 ls st H Q = (sw_pop False 1 st [] fun args r => sw_ck False r (sw_M 100 args H (sw_K 130 140 none ls r Q))) := sw_A_step (cc := cL_thresholds) rfl dL_thresholds_137 rfl ls st H Q
theorem r130_140 : sw_A 130 140 ls st H Q = (sw_li False st fun x y r => sw_A 130 141 ls (.long (x <<< (y.toInt64 &&& 63)) :: r) H Q) := sw_A_step (cc := cL_thresholds) rfl dL_thresholds_140 rfl ls st H Q
theorem r130_141 : sw_A 130 141 ls st H Q = (sw_A 130 142 ls (.int (Int32.ofInt (-1)) :: st) H Q) := sw_A_step (cc := cL_thresholds) rfl dL_thresholds_141 rfl ls st H Q
theorem r130_142 : sw_A 130 142 ls st H Q = (sw_pop False 7 st [] fun args r => sw_ck False r (sw_M 82 args H (sw_K 130 145 none ls r Q))) := sw_A_step (cc := cL_thresholds) rfl dL_thresholds_142 rfl ls st H Q
theorem r130_145 : sw_A 130 145 ls st H Q = (sw_has1 False ls 18 (sw_l1 False st fun x r => sw_A 130 147 (sw_set2 ls 17 (.long x)) r H Q)) := sw_A_step (cc := cL_thresholds) rfl dL_thresholds_145 rfl ls st H Q
theorem r130_147 : sw_A 130 147 ls st H Q = (sw_ldl False ls 17 fun x => sw_A 130 149 ls (.long x :: st) H Q) := sw_A_step (cc := cL_thresholds) rfl dL_thresholds_147 rfl ls st H Q
theorem r130_149 : sw_A 130 149 ls st H Q = (sw_pop False 1 st [] fun args r => sw_ck False r (sw_M 37 args H (sw_K 130 152 none ls r Q))) := sw_A_step (cc := cL_thresholds) rfl dL_thresholds_149 rfl ls st H Q
theorem r130_152 : sw_A 130 152 ls st H Q = (sw_has1 False ls 19 (sw_i1 False st fun x r => sw_A 130 154 (sw_set1 ls 19 (.int x)) r H Q)) := sw_A_step (cc := cL_thresholds) rfl dL_thresholds_152 rfl ls st H Q
theorem r130_154 : sw_A 130 154 ls st H Q = (sw_ldi False ls 14 fun x => sw_A 130 157 (sw_set1 ls 14 (.int (x + Int32.ofInt 1))) st H Q) := sw_A_step (cc := cL_thresholds) rfl dL_thresholds_154 rfl ls st H Q
theorem r130_157 : sw_A 130 157 ls st H Q = (sw_ldi False ls 16 fun x => sw_A 130 159 ls (.int x :: st) H Q) := sw_A_step (cc := cL_thresholds) rfl dL_thresholds_157 rfl ls st H Q
theorem r130_159 : sw_A 130 159 ls st H Q = (sw_ldi False ls 19 fun x => sw_A 130 161 ls (.int x :: st) H Q) := sw_A_step (cc := cL_thresholds) rfl dL_thresholds_159 rfl ls st H Q
theorem r130_161 : sw_A 130 161 ls st H Q = (sw_ldi False ls 19 fun x => sw_A 130 163 ls (.int x :: st) H Q) := sw_A_step (cc := cL_thresholds) rfl dL_thresholds_161 rfl ls st H Q
theorem r130_163 : sw_A 130 163 ls st H Q = (sw_i2 False st fun x y r => sw_A 130 164 ls (.int (x * y) :: r) H Q) := sw_A_step (cc := cL_thresholds) rfl dL_thresholds_163 rfl ls st H Q
theorem r130_164 : sw_A 130 164 ls st H Q = (sw_i2 False st fun x y r => sw_A 130 165 ls (.int (x + y) :: r) H Q) := sw_A_step (cc := cL_thresholds) rfl dL_thresholds_164 rfl ls st H Q
theorem r130_165 : sw_A 130 165 ls st H Q = (sw_has1 False ls 16 (sw_i1 False st fun x r => sw_A 130 167 (sw_set1 ls 16 (.int x)) r H Q)) := sw_A_step (cc := cL_thresholds) rfl dL_thresholds_165 rfl ls st H Q
theorem r130_167 : sw_A 130 167 ls st H Q = (sw_ldi False ls 19 fun x => sw_A 130 169 ls (.int x :: st) H Q) := sw_A_step (cc := cL_thresholds) rfl dL_thresholds_167 rfl ls st H Q
theorem r130_169 : sw_A 130 169 ls st H Q = (sw_ldi False ls 15 fun x => sw_A 130 171 ls (.int x :: st) H Q) := sw_A_step (cc := cL_thresholds) rfl dL_thresholds_169 rfl ls st H Q
theorem r130_171 : sw_A 130 171 ls st H Q = (sw_i2 False st fun x y r => if x ≤ y then sw_A 130 178 ls r H Q else sw_A 130 174 ls r H Q) := sw_A_step (cc := cL_thresholds) rfl dL_thresholds_171 rfl ls st H Q
theorem r130_174 : sw_A 130 174 ls st H Q = (sw_ldi False ls 19 fun x => sw_A 130 176 ls (.int x :: st) H Q) := sw_A_step (cc := cL_thresholds) rfl dL_thresholds_174 rfl ls st H Q
theorem r130_176 : sw_A 130 176 ls st H Q = (sw_has1 False ls 15 (sw_i1 False st fun x r => sw_A 130 178 (sw_set1 ls 15 (.int x)) r H Q)) := sw_A_step (cc := cL_thresholds) rfl dL_thresholds_176 rfl ls st H Q
theorem r130_178 : sw_A 130 178 ls st H Q = (sw_ldl False ls 12 fun x => sw_A 130 180 ls (.long x :: st) H Q) := sw_A_step (cc := cL_thresholds) rfl dL_thresholds_178 rfl ls st H Q
theorem r130_180 : sw_A 130 180 ls st H Q = (sw_ldl False ls 17 fun x => sw_A 130 182 ls (.long x :: st) H Q) := sw_A_step (cc := cL_thresholds) rfl dL_thresholds_180 rfl ls st H Q
theorem r130_182 : sw_A 130 182 ls st H Q = (sw_A 130 185 ls (.long (Int64.ofInt (-1)) :: st) H Q) := sw_A_step (cc := cL_thresholds) rfl dL_thresholds_182 rfl ls st H Q
theorem r130_185 : sw_A 130 185 ls st H Q = (sw_l2 False st fun x y r => sw_A 130 186 ls (.long (x ^^^ y) :: r) H Q) := sw_A_step (cc := cL_thresholds) rfl dL_thresholds_185 rfl ls st H Q
theorem r130_186 : sw_A 130 186 ls st H Q = (sw_l2 False st fun x y r => sw_A 130 187 ls (.long (x &&& y) :: r) H Q) := sw_A_step (cc := cL_thresholds) rfl dL_thresholds_186 rfl ls st H Q
theorem r130_187 : sw_A 130 187 ls st H Q = (sw_has1 False ls 13 (sw_l1 False st fun x r => sw_A 130 189 (sw_set2 ls 12 (.long x)) r H Q)) := sw_A_step (cc := cL_thresholds) rfl dL_thresholds_187 rfl ls st H Q
theorem r130_189 : sw_A 130 189 ls st H Q = (sw_A 130 120 ls st H Q) := sw_A_step (cc := cL_thresholds) rfl dL_thresholds_189 rfl ls st H Q
theorem r130_192 : sw_A 130 192 ls st H Q = (sw_lda False ls 0 fun x => sw_A 130 193 ls (.ref x :: st) H Q) := sw_A_step (cc := cL_thresholds) rfl dL_thresholds_192 rfl ls st H Q
theorem r130_193 : sw_A 130 193 ls st H Q = (sw_ldi False ls 5 fun x => sw_A 130 195 ls (.int x :: st) H Q) := sw_A_step (cc := cL_thresholds) rfl dL_thresholds_193 rfl ls st H Q
theorem r130_195 : sw_A 130 195 ls st H Q = (sw_ldi False ls 6 fun x => sw_A 130 197 ls (.int x :: st) H Q) := sw_A_step (cc := cL_thresholds) rfl dL_thresholds_195 rfl ls st H Q
theorem r130_197 : sw_A 130 197 ls st H Q = (sw_A 130 198 ls (.int (Int32.ofInt 0) :: st) H Q) := sw_A_step (cc := cL_thresholds) rfl dL_thresholds_197 rfl ls st H Q
theorem r130_198 : sw_A 130 198 ls st H Q = (sw_pop False 4 st [] fun args r => sw_ck False r (sw_rc False H (some 11) args (sw_M 102 args H (sw_K 130 201 none ls r Q)))) := sw_A_step (cc := cL_thresholds) rfl dL_thresholds_198 rfl ls st H Q
theorem r130_201 : sw_A 130 201 ls st H Q = (sw_ldi False ls 14 fun x => sw_A 130 203 ls (.int x :: st) H Q) := sw_A_step (cc := cL_thresholds) rfl dL_thresholds_201 rfl ls st H Q
theorem r130_203 : sw_A 130 203 ls st H Q = (sw_i2 False st fun x y r => if ¬ x = y then sw_A 130 234 ls r H Q else sw_A 130 206 ls r H Q) := sw_A_step (cc := cL_thresholds) rfl dL_thresholds_203 rfl ls st H Q
theorem r130_206 : sw_A 130 206 ls st H Q = (sw_lda False ls 0 fun x => sw_A 130 207 ls (.ref x :: st) H Q) := sw_A_step (cc := cL_thresholds) rfl dL_thresholds_206 rfl ls st H Q
theorem r130_207 : sw_A 130 207 ls st H Q = (sw_ldi False ls 5 fun x => sw_A 130 209 ls (.int x :: st) H Q) := sw_A_step (cc := cL_thresholds) rfl dL_thresholds_207 rfl ls st H Q
theorem r130_209 : sw_A 130 209 ls st H Q = (sw_ldi False ls 6 fun x => sw_A 130 211 ls (.int x :: st) H Q) := sw_A_step (cc := cL_thresholds) rfl dL_thresholds_209 rfl ls st H Q
theorem r130_211 : sw_A 130 211 ls st H Q = (sw_A 130 212 ls (.int (Int32.ofInt 1) :: st) H Q) := sw_A_step (cc := cL_thresholds) rfl dL_thresholds_211 rfl ls st H Q
theorem r130_212 : sw_A 130 212 ls st H Q = (sw_pop False 4 st [] fun args r => sw_ck False r (sw_rc False H (some 11) args (sw_M 102 args H (sw_K 130 215 none ls r Q)))) := sw_A_step (cc := cL_thresholds) rfl dL_thresholds_212 rfl ls st H Q
theorem r130_215 : sw_A 130 215 ls st H Q = (sw_ldi False ls 15 fun x => sw_A 130 217 ls (.int x :: st) H Q) := sw_A_step (cc := cL_thresholds) rfl dL_thresholds_215 rfl ls st H Q
theorem r130_217 : sw_A 130 217 ls st H Q = (sw_i2 False st fun x y r => if ¬ x = y then sw_A 130 234 ls r H Q else sw_A 130 220 ls r H Q) := sw_A_step (cc := cL_thresholds) rfl dL_thresholds_217 rfl ls st H Q
theorem r130_220 : sw_A 130 220 ls st H Q = (sw_lda False ls 0 fun x => sw_A 130 221 ls (.ref x :: st) H Q) := sw_A_step (cc := cL_thresholds) rfl dL_thresholds_220 rfl ls st H Q
theorem r130_221 : sw_A 130 221 ls st H Q = (sw_ldi False ls 5 fun x => sw_A 130 223 ls (.int x :: st) H Q) := sw_A_step (cc := cL_thresholds) rfl dL_thresholds_221 rfl ls st H Q
theorem r130_223 : sw_A 130 223 ls st H Q = (sw_ldi False ls 6 fun x => sw_A 130 225 ls (.int x :: st) H Q) := sw_A_step (cc := cL_thresholds) rfl dL_thresholds_223 rfl ls st H Q
theorem r130_225 : sw_A 130 225 ls st H Q = (sw_A 130 226 ls (.int (Int32.ofInt 2) :: st) H Q) := sw_A_step (cc := cL_thresholds) rfl dL_thresholds_225 rfl ls st H Q
theorem r130_226 : sw_A 130 226 ls st H Q = (sw_pop False 4 st [] fun args r => sw_ck False r (sw_rc False H (some 11) args (sw_M 102 args H (sw_K 130 229 none ls r Q)))) := sw_A_step (cc := cL_thresholds) rfl dL_thresholds_226 rfl ls st H Q
theorem r130_229 : sw_A 130 229 ls st H Q = (sw_ldi False ls 16 fun x => sw_A 130 231 ls (.int x :: st) H Q) := sw_A_step (cc := cL_thresholds) rfl dL_thresholds_229 rfl ls st H Q
theorem r130_231 : sw_A 130 231 ls st H Q = (sw_i2 False st fun x y r => if x = y then sw_A 130 236 ls r H Q else sw_A 130 234 ls r H Q) := sw_A_step (cc := cL_thresholds) rfl dL_thresholds_231 rfl ls st H Q
theorem r130_234 : sw_A 130 234 ls st H Q = (sw_A 130 235 ls (.int (Int32.ofInt 0) :: st) H Q) := sw_A_step (cc := cL_thresholds) rfl dL_thresholds_234 rfl ls st H Q
theorem r130_235 : sw_A 130 235 ls st H Q = (match st with | [.int x] => (if 2 = 1 ∨ 2 = 2 ∧ (x = 0 ∨ x = 1) then Q (some (some (.int x))) H else False) | _ => False) := sw_A_step (cc := cL_thresholds) rfl dL_thresholds_235 rfl ls st H Q
theorem r130_236 : sw_A 130 236 ls st H Q = (sw_lda False ls 0 fun x => sw_A 130 237 ls (.ref x :: st) H Q) := sw_A_step (cc := cL_thresholds) rfl dL_thresholds_236 rfl ls st H Q
theorem r130_237 : sw_A 130 237 ls st H Q = (sw_ldi False ls 5 fun x => sw_A 130 239 ls (.int x :: st) H Q) := sw_A_step (cc := cL_thresholds) rfl dL_thresholds_237 rfl ls st H Q
theorem r130_239 : sw_A 130 239 ls st H Q = (sw_ldi False ls 8 fun x => sw_A 130 241 ls (.int x :: st) H Q) := sw_A_step (cc := cL_thresholds) rfl dL_thresholds_239 rfl ls st H Q
theorem r130_241 : sw_A 130 241 ls st H Q = (sw_pop False 3 st [] fun args r => sw_ck False r (sw_rc False H (some 11) args (sw_M 109 args H (sw_K 130 244 none ls r Q)))) := sw_A_step (cc := cL_thresholds) rfl dL_thresholds_241 rfl ls st H Q
theorem r130_244 : sw_A 130 244 ls st H Q = (sw_has1 False ls 17 (sw_i1 False st fun x r => sw_A 130 246 (sw_set1 ls 17 (.int x)) r H Q)) := sw_A_step (cc := cL_thresholds) rfl dL_thresholds_244 rfl ls st H Q
theorem r130_246 : sw_A 130 246 ls st H Q = (sw_ldi False ls 17 fun x => sw_A 130 248 ls (.int x :: st) H Q) := sw_A_step (cc := cL_thresholds) rfl dL_thresholds_246 rfl ls st H Q
theorem r130_248 : sw_A 130 248 ls st H Q = (sw_lda False ls 0 fun x => sw_A 130 249 ls (.ref x :: st) H Q) := sw_A_step (cc := cL_thresholds) rfl dL_thresholds_248 rfl ls st H Q
theorem r130_249 : sw_A 130 249 ls st H Q = (sw_ldi False ls 5 fun x => sw_A 130 251 ls (.int x :: st) H Q) := sw_A_step (cc := cL_thresholds) rfl dL_thresholds_249 rfl ls st H Q
theorem r130_251 : sw_A 130 251 ls st H Q = (sw_ldi False ls 8 fun x => sw_A 130 253 ls (.int x :: st) H Q) := sw_A_step (cc := cL_thresholds) rfl dL_thresholds_251 rfl ls st H Q
theorem r130_253 : sw_A 130 253 ls st H Q = (sw_pop False 3 st [] fun args r => sw_ck False r (sw_rc False H (some 11) args (sw_M 116 args H (sw_K 130 256 none ls r Q)))) := sw_A_step (cc := cL_thresholds) rfl dL_thresholds_253 rfl ls st H Q
theorem r130_256 : sw_A 130 256 ls st H Q = (sw_i2 False st fun x y r => if x = y then sw_A 130 261 ls r H Q else sw_A 130 259 ls r H Q) := sw_A_step (cc := cL_thresholds) rfl dL_thresholds_256 rfl ls st H Q
theorem r130_259 : sw_A 130 259 ls st H Q = (sw_A 130 260 ls (.int (Int32.ofInt 0) :: st) H Q) := sw_A_step (cc := cL_thresholds) rfl dL_thresholds_259 rfl ls st H Q
theorem r130_260 : sw_A 130 260 ls st H Q = (match st with | [.int x] => (if 2 = 1 ∨ 2 = 2 ∧ (x = 0 ∨ x = 1) then Q (some (some (.int x))) H else False) | _ => False) := sw_A_step (cc := cL_thresholds) rfl dL_thresholds_260 rfl ls st H Q
theorem r130_261 : sw_A 130 261 ls st H Q = (sw_ldi False ls 17 fun x => sw_A 130 263 ls (.int x :: st) H Q) := sw_A_step (cc := cL_thresholds) rfl dL_thresholds_261 rfl ls st H Q
theorem r130_263 : sw_A 130 263 ls st H Q = (sw_i1 False st fun x r => if 0 ≤ x then sw_A 130 286 ls r H Q else sw_A 130 266 ls r H Q) := sw_A_step (cc := cL_thresholds) rfl dL_thresholds_263 rfl ls st H Q
theorem r130_266 : sw_A 130 266 ls st H Q = (sw_lda False ls 1 fun x => sw_A 130 267 ls (.ref x :: st) H Q) := sw_A_step (cc := cL_thresholds) rfl dL_thresholds_266 rfl ls st H Q
theorem r130_267 : sw_A 130 267 ls st H Q = (sw_lda False ls 2 fun x => sw_A 130 268 ls (.ref x :: st) H Q) := sw_A_step (cc := cL_thresholds) rfl dL_thresholds_267 rfl ls st H Q
theorem r130_268 : sw_A 130 268 ls st H Q = (sw_ldl False ls 3 fun x => sw_A 130 269 ls (.long x :: st) H Q) := sw_A_step (cc := cL_thresholds) rfl dL_thresholds_268 rfl ls st H Q
theorem r130_269 : sw_A 130 269 ls st H Q = (sw_ldi False ls 5 fun x => sw_A 130 271 ls (.int x :: st) H Q) := sw_A_step (cc := cL_thresholds) rfl dL_thresholds_269 rfl ls st H Q
theorem r130_271 : sw_A 130 271 ls st H Q = (sw_A 130 274 ls (.int (Int32.ofInt 1000) :: st) H Q) := sw_A_step (cc := cL_thresholds) rfl dL_thresholds_271 rfl ls st H Q
theorem r130_274 : sw_A 130 274 ls st H Q = (sw_ldi False ls 8 fun x => sw_A 130 276 ls (.int x :: st) H Q) := sw_A_step (cc := cL_thresholds) rfl dL_thresholds_274 rfl ls st H Q
theorem r130_276 : sw_A 130 276 ls st H Q = (sw_A 130 277 ls (.int (Int32.ofInt (-1)) :: st) H Q) := sw_A_step (cc := cL_thresholds) rfl dL_thresholds_276 rfl ls st H Q
theorem r130_277 : sw_A 130 277 ls st H Q = (sw_pop False 7 st [] fun args r => sw_ck False r (sw_M 83 args H (sw_K 130 280 none ls r Q))) := sw_A_step (cc := cL_thresholds) rfl dL_thresholds_277 rfl ls st H Q
theorem r130_280 : sw_A 130 280 ls st H Q = (sw_i1 False st fun x r => if x = 0 then sw_A 130 322 ls r H Q else sw_A 130 283 ls r H Q) := sw_A_step (cc := cL_thresholds) rfl dL_thresholds_280 rfl ls st H Q
theorem r130_283 : sw_A 130 283 ls st H Q = (sw_A 130 320 ls st H Q) := sw_A_step (cc := cL_thresholds) rfl dL_thresholds_283 rfl ls st H Q
theorem r130_286 : sw_A 130 286 ls st H Q = (sw_lda False ls 1 fun x => sw_A 130 287 ls (.ref x :: st) H Q) := sw_A_step (cc := cL_thresholds) rfl dL_thresholds_286 rfl ls st H Q
theorem r130_287 : sw_A 130 287 ls st H Q = (sw_lda False ls 2 fun x => sw_A 130 288 ls (.ref x :: st) H Q) := sw_A_step (cc := cL_thresholds) rfl dL_thresholds_287 rfl ls st H Q
theorem r130_288 : sw_A 130 288 ls st H Q = (sw_ldl False ls 3 fun x => sw_A 130 289 ls (.long x :: st) H Q) := sw_A_step (cc := cL_thresholds) rfl dL_thresholds_288 rfl ls st H Q
theorem r130_289 : sw_A 130 289 ls st H Q = (sw_ldi False ls 5 fun x => sw_A 130 291 ls (.int x :: st) H Q) := sw_A_step (cc := cL_thresholds) rfl dL_thresholds_289 rfl ls st H Q
theorem r130_291 : sw_A 130 291 ls st H Q = (sw_ldi False ls 17 fun x => sw_A 130 293 ls (.int x :: st) H Q) := sw_A_step (cc := cL_thresholds) rfl dL_thresholds_291 rfl ls st H Q
theorem r130_293 : sw_A 130 293 ls st H Q = (sw_ldi False ls 8 fun x => sw_A 130 295 ls (.int x :: st) H Q) := sw_A_step (cc := cL_thresholds) rfl dL_thresholds_293 rfl ls st H Q
theorem r130_295 : sw_A 130 295 ls st H Q = (sw_A 130 296 ls (.int (Int32.ofInt (-1)) :: st) H Q) := sw_A_step (cc := cL_thresholds) rfl dL_thresholds_295 rfl ls st H Q
theorem r130_296 : sw_A 130 296 ls st H Q = (sw_pop False 7 st [] fun args r => sw_ck False r (sw_M 83 args H (sw_K 130 299 none ls r Q))) := sw_A_step (cc := cL_thresholds) rfl dL_thresholds_296 rfl ls st H Q
theorem r130_299 : sw_A 130 299 ls st H Q = (sw_i1 False st fun x r => if x = 0 then sw_A 130 320 ls r H Q else sw_A 130 302 ls r H Q) := sw_A_step (cc := cL_thresholds) rfl dL_thresholds_299 rfl ls st H Q
theorem r130_302 : sw_A 130 302 ls st H Q = (sw_lda False ls 1 fun x => sw_A 130 303 ls (.ref x :: st) H Q) := sw_A_step (cc := cL_thresholds) rfl dL_thresholds_302 rfl ls st H Q
theorem r130_303 : sw_A 130 303 ls st H Q = (sw_lda False ls 2 fun x => sw_A 130 304 ls (.ref x :: st) H Q) := sw_A_step (cc := cL_thresholds) rfl dL_thresholds_303 rfl ls st H Q
theorem r130_304 : sw_A 130 304 ls st H Q = (sw_ldl False ls 3 fun x => sw_A 130 305 ls (.long x :: st) H Q) := sw_A_step (cc := cL_thresholds) rfl dL_thresholds_304 rfl ls st H Q
theorem r130_305 : sw_A 130 305 ls st H Q = (sw_ldi False ls 5 fun x => sw_A 130 307 ls (.int x :: st) H Q) := sw_A_step (cc := cL_thresholds) rfl dL_thresholds_305 rfl ls st H Q
theorem r130_307 : sw_A 130 307 ls st H Q = (sw_ldi False ls 17 fun x => sw_A 130 309 ls (.int x :: st) H Q) := sw_A_step (cc := cL_thresholds) rfl dL_thresholds_307 rfl ls st H Q
theorem r130_309 : sw_A 130 309 ls st H Q = (sw_A 130 310 ls (.int (Int32.ofInt 1) :: st) H Q) := sw_A_step (cc := cL_thresholds) rfl dL_thresholds_309 rfl ls st H Q
theorem r130_310 : sw_A 130 310 ls st H Q = (sw_i2 False st fun x y r => sw_A 130 311 ls (.int (x - y) :: r) H Q) := sw_A_step (cc := cL_thresholds) rfl dL_thresholds_310 rfl ls st H Q
theorem r130_311 : sw_A 130 311 ls st H Q = (sw_ldi False ls 8 fun x => sw_A 130 313 ls (.int x :: st) H Q) := sw_A_step (cc := cL_thresholds) rfl dL_thresholds_311 rfl ls st H Q
theorem r130_313 : sw_A 130 313 ls st H Q = (sw_A 130 314 ls (.int (Int32.ofInt (-1)) :: st) H Q) := sw_A_step (cc := cL_thresholds) rfl dL_thresholds_313 rfl ls st H Q
theorem r130_314 : sw_A 130 314 ls st H Q = (sw_pop False 7 st [] fun args r => sw_ck False r (sw_M 83 args H (sw_K 130 317 none ls r Q))) := sw_A_step (cc := cL_thresholds) rfl dL_thresholds_314 rfl ls st H Q
theorem r130_317 : sw_A 130 317 ls st H Q = (sw_i1 False st fun x r => if x = 0 then sw_A 130 322 ls r H Q else sw_A 130 320 ls r H Q) := sw_A_step (cc := cL_thresholds) rfl dL_thresholds_317 rfl ls st H Q
theorem r130_320 : sw_A 130 320 ls st H Q = (sw_A 130 321 ls (.int (Int32.ofInt 0) :: st) H Q) := sw_A_step (cc := cL_thresholds) rfl dL_thresholds_320 rfl ls st H Q
theorem r130_321 : sw_A 130 321 ls st H Q = (match st with | [.int x] => (if 2 = 1 ∨ 2 = 2 ∧ (x = 0 ∨ x = 1) then Q (some (some (.int x))) H else False) | _ => False) := sw_A_step (cc := cL_thresholds) rfl dL_thresholds_321 rfl ls st H Q
theorem r130_322 : sw_A 130 322 ls st H Q = (sw_lda False ls 1 fun x => sw_A 130 323 ls (.ref x :: st) H Q) := sw_A_step (cc := cL_thresholds) rfl dL_thresholds_322 rfl ls st H Q
theorem r130_323 : sw_A 130 323 ls st H Q = (sw_lda False ls 2 fun x => sw_A 130 324 ls (.ref x :: st) H Q) := sw_A_step (cc := cL_thresholds) rfl dL_thresholds_323 rfl ls st H Q
theorem r130_324 : sw_A 130 324 ls st H Q = (sw_ldl False ls 3 fun x => sw_A 130 325 ls (.long x :: st) H Q) := sw_A_step (cc := cL_thresholds) rfl dL_thresholds_324 rfl ls st H Q
theorem r130_325 : sw_A 130 325 ls st H Q = (sw_ldi False ls 5 fun x => sw_A 130 327 ls (.int x :: st) H Q) := sw_A_step (cc := cL_thresholds) rfl dL_thresholds_325 rfl ls st H Q
theorem r130_327 : sw_A 130 327 ls st H Q = (sw_ldi False ls 6 fun x => sw_A 130 329 ls (.int x :: st) H Q) := sw_A_step (cc := cL_thresholds) rfl dL_thresholds_327 rfl ls st H Q
theorem r130_329 : sw_A 130 329 ls st H Q = (sw_pop False 5 st [] fun args r => sw_ck False r (sw_M 117 args H (sw_K 130 332 none ls r Q))) := sw_A_step (cc := cL_thresholds) rfl dL_thresholds_329 rfl ls st H Q
theorem r130_332 : sw_A 130 332 ls st H Q = (sw_has1 False ls 18 (sw_i1 False st fun x r => sw_A 130 334 (sw_set1 ls 18 (.int x)) r H Q)) := sw_A_step (cc := cL_thresholds) rfl dL_thresholds_332 rfl ls st H Q
theorem r130_334 : sw_A 130 334 ls st H Q = (sw_A 130 335 ls (.int (Int32.ofInt 0) :: st) H Q) := sw_A_step (cc := cL_thresholds) rfl dL_thresholds_334 rfl ls st H Q
theorem r130_335 : sw_A 130 335 ls st H Q = (sw_has1 False ls 19 (sw_i1 False st fun x r => sw_A 130 337 (sw_set1 ls 19 (.int x)) r H Q)) := sw_A_step (cc := cL_thresholds) rfl dL_thresholds_335 rfl ls st H Q
theorem r130_337 : sw_A 130 337 ls st H Q = (sw_A 130 338 ls (.int (Int32.ofInt 0) :: st) H Q) := sw_A_step (cc := cL_thresholds) rfl dL_thresholds_337 rfl ls st H Q
theorem r130_338 : sw_A 130 338 ls st H Q = (sw_has1 False ls 20 (sw_i1 False st fun x r => sw_A 130 340 (sw_set1 ls 20 (.int x)) r H Q)) := sw_A_step (cc := cL_thresholds) rfl dL_thresholds_338 rfl ls st H Q
theorem r130_340 : sw_A 130 340 ls st H Q = (sw_ldi False ls 20 fun x => sw_A 130 342 ls (.int x :: st) H Q) := sw_A_step (cc := cL_thresholds) rfl dL_thresholds_340 rfl ls st H Q
theorem r130_342 : sw_A 130 342 ls st H Q = (sw_A 130 344 ls (.int (Int32.ofInt 60) :: st) H Q) := sw_A_step (cc := cL_thresholds) rfl dL_thresholds_342 rfl ls st H Q
theorem r130_344 : sw_A 130 344 ls st H Q = (sw_i2 False st fun x y r => if y ≤ x then sw_A 130 400 ls r H Q else sw_A 130 347 ls r H Q) := sw_A_step (cc := cL_thresholds) rfl dL_thresholds_344 rfl ls st H Q
theorem r130_347 : sw_A 130 347 ls st H Q = (sw_ldi False ls 18 fun x => sw_A 130 349 ls (.int x :: st) H Q) := sw_A_step (cc := cL_thresholds) rfl dL_thresholds_347 rfl ls st H Q
theorem r130_349 : sw_A 130 349 ls st H Q = (sw_A 130 350 ls (.int (Int32.ofInt 1) :: st) H Q) := sw_A_step (cc := cL_thresholds) rfl dL_thresholds_349 rfl ls st H Q
theorem r130_350 : sw_A 130 350 ls st H Q = (sw_i2 False st fun x y r => if ¬ x = y then sw_A 130 400 ls r H Q else sw_A 130 353 ls r H Q) := sw_A_step (cc := cL_thresholds) rfl dL_thresholds_350 rfl ls st H Q
theorem r130_353 : sw_A 130 353 ls st H Q = (sw_ldi False ls 19 fun x => sw_A 130 355 ls (.int x :: st) H Q) := sw_A_step (cc := cL_thresholds) rfl dL_thresholds_353 rfl ls st H Q
theorem r130_355 : sw_A 130 355 ls st H Q = (sw_lda False ls 1 fun x => sw_A 130 356 ls (.ref x :: st) H Q) := sw_A_step (cc := cL_thresholds) rfl dL_thresholds_355 rfl ls st H Q
theorem r130_356 : sw_A 130 356 ls st H Q = (sw_lda False ls 2 fun x => sw_A 130 357 ls (.ref x :: st) H Q) := sw_A_step (cc := cL_thresholds) rfl dL_thresholds_356 rfl ls st H Q
theorem r130_357 : sw_A 130 357 ls st H Q = (sw_ldl False ls 3 fun x => sw_A 130 358 ls (.long x :: st) H Q) := sw_A_step (cc := cL_thresholds) rfl dL_thresholds_357 rfl ls st H Q
theorem r130_358 : sw_A 130 358 ls st H Q = (sw_ldi False ls 5 fun x => sw_A 130 360 ls (.int x :: st) H Q) := sw_A_step (cc := cL_thresholds) rfl dL_thresholds_358 rfl ls st H Q
theorem r130_360 : sw_A 130 360 ls st H Q = (sw_ldi False ls 6 fun x => sw_A 130 362 ls (.int x :: st) H Q) := sw_A_step (cc := cL_thresholds) rfl dL_thresholds_360 rfl ls st H Q
theorem r130_362 : sw_A 130 362 ls st H Q = (sw_ldi False ls 20 fun x => sw_A 130 364 ls (.int x :: st) H Q) := sw_A_step (cc := cL_thresholds) rfl dL_thresholds_362 rfl ls st H Q
theorem r130_364 : sw_A 130 364 ls st H Q = (sw_pop False 6 st [] fun args r => sw_ck False r (sw_M 81 args H (sw_K 130 367 none ls r Q))) := sw_A_step (cc := cL_thresholds) rfl dL_thresholds_364 rfl ls st H Q
theorem r130_367 : sw_A 130 367 ls st H Q = (sw_i1 False st fun x r => if x = 0 then sw_A 130 390 ls r H Q else sw_A 130 370 ls r H Q) := sw_A_step (cc := cL_thresholds) rfl dL_thresholds_367 rfl ls st H Q
theorem r130_370 : sw_A 130 370 ls st H Q = (sw_lda False ls 1 fun x => sw_A 130 371 ls (.ref x :: st) H Q) := sw_A_step (cc := cL_thresholds) rfl dL_thresholds_370 rfl ls st H Q
theorem r130_371 : sw_A 130 371 ls st H Q = (sw_lda False ls 2 fun x => sw_A 130 372 ls (.ref x :: st) H Q) := sw_A_step (cc := cL_thresholds) rfl dL_thresholds_371 rfl ls st H Q
theorem r130_372 : sw_A 130 372 ls st H Q = (sw_ldl False ls 3 fun x => sw_A 130 373 ls (.long x :: st) H Q) := sw_A_step (cc := cL_thresholds) rfl dL_thresholds_372 rfl ls st H Q
theorem r130_373 : sw_A 130 373 ls st H Q = (sw_ldi False ls 5 fun x => sw_A 130 375 ls (.int x :: st) H Q) := sw_A_step (cc := cL_thresholds) rfl dL_thresholds_373 rfl ls st H Q
theorem r130_375 : sw_A 130 375 ls st H Q = (sw_ldi False ls 6 fun x => sw_A 130 377 ls (.int x :: st) H Q) := sw_A_step (cc := cL_thresholds) rfl dL_thresholds_375 rfl ls st H Q
theorem r130_377 : sw_A 130 377 ls st H Q = (sw_A 130 378 ls (.int (Int32.ofInt 0) :: st) H Q) := sw_A_step (cc := cL_thresholds) rfl dL_thresholds_377 rfl ls st H Q
theorem r130_378 : sw_A 130 378 ls st H Q = (sw_ldi False ls 20 fun x => sw_A 130 380 ls (.int x :: st) H Q) := sw_A_step (cc := cL_thresholds) rfl dL_thresholds_378 rfl ls st H Q
theorem r130_380 : sw_A 130 380 ls st H Q = (sw_pop False 7 st [] fun args r => sw_ck False r (sw_M 83 args H (sw_K 130 383 none ls r Q))) := sw_A_step (cc := cL_thresholds) rfl dL_thresholds_380 rfl ls st H Q
theorem r130_383 : sw_A 130 383 ls st H Q = (sw_i1 False st fun x r => if ¬ x = 0 then sw_A 130 390 ls r H Q else sw_A 130 386 ls r H Q) := sw_A_step (cc := cL_thresholds) rfl dL_thresholds_383 rfl ls st H Q
theorem r130_386 : sw_A 130 386 ls st H Q = (sw_A 130 387 ls (.int (Int32.ofInt 1) :: st) H Q) := sw_A_step (cc := cL_thresholds) rfl dL_thresholds_386 rfl ls st H Q
theorem r130_387 : sw_A 130 387 ls st H Q = (sw_A 130 391 ls st H Q) := sw_A_step (cc := cL_thresholds) rfl dL_thresholds_387 rfl ls st H Q
theorem r130_390 : sw_A 130 390 ls st H Q = (sw_A 130 391 ls (.int (Int32.ofInt 0) :: st) H Q) := sw_A_step (cc := cL_thresholds) rfl dL_thresholds_390 rfl ls st H Q
theorem r130_391 : sw_A 130 391 ls st H Q = (sw_i2 False st fun x y r => sw_A 130 392 ls (.int (x + y) :: r) H Q) := sw_A_step (cc := cL_thresholds) rfl dL_thresholds_391 rfl ls st H Q
theorem r130_392 : sw_A 130 392 ls st H Q = (sw_has1 False ls 19 (sw_i1 False st fun x r => sw_A 130 394 (sw_set1 ls 19 (.int x)) r H Q)) := sw_A_step (cc := cL_thresholds) rfl dL_thresholds_392 rfl ls st H Q
theorem r130_394 : sw_A 130 394 ls st H Q = (sw_ldi False ls 20 fun x => sw_A 130 397 (sw_set1 ls 20 (.int (x + Int32.ofInt 1))) st H Q) := sw_A_step (cc := cL_thresholds) rfl dL_thresholds_394 rfl ls st H Q
theorem r130_397 : sw_A 130 397 ls st H Q = (sw_A 130 340 ls st H Q) := sw_A_step (cc := cL_thresholds) rfl dL_thresholds_397 rfl ls st H Q
theorem r130_400 : sw_A 130 400 ls st H Q = (sw_lda False ls 0 fun x => sw_A 130 401 ls (.ref x :: st) H Q) := sw_A_step (cc := cL_thresholds) rfl dL_thresholds_400 rfl ls st H Q
theorem r130_401 : sw_A 130 401 ls st H Q = (sw_ldi False ls 5 fun x => sw_A 130 403 ls (.int x :: st) H Q) := sw_A_step (cc := cL_thresholds) rfl dL_thresholds_401 rfl ls st H Q
theorem r130_403 : sw_A 130 403 ls st H Q = (sw_ldi False ls 6 fun x => sw_A 130 405 ls (.int x :: st) H Q) := sw_A_step (cc := cL_thresholds) rfl dL_thresholds_403 rfl ls st H Q
theorem r130_405 : sw_A 130 405 ls st H Q = (sw_pop False 3 st [] fun args r => sw_ck False r (sw_rc False H (some 11) args (sw_M 124 args H (sw_K 130 408 none ls r Q)))) := sw_A_step (cc := cL_thresholds) rfl dL_thresholds_405 rfl ls st H Q
theorem r130_408 : sw_A 130 408 ls st H Q = (sw_ldi False ls 18 fun x => sw_A 130 410 ls (.int x :: st) H Q) := sw_A_step (cc := cL_thresholds) rfl dL_thresholds_408 rfl ls st H Q
theorem r130_410 : sw_A 130 410 ls st H Q = (sw_i2 False st fun x y r => if ¬ x = y then sw_A 130 464 ls r H Q else sw_A 130 413 ls r H Q) := sw_A_step (cc := cL_thresholds) rfl dL_thresholds_410 rfl ls st H Q
theorem r130_413 : sw_A 130 413 ls st H Q = (sw_lda False ls 0 fun x => sw_A 130 414 ls (.ref x :: st) H Q) := sw_A_step (cc := cL_thresholds) rfl dL_thresholds_413 rfl ls st H Q
theorem r130_414 : sw_A 130 414 ls st H Q = (sw_ldi False ls 5 fun x => sw_A 130 416 ls (.int x :: st) H Q) := sw_A_step (cc := cL_thresholds) rfl dL_thresholds_414 rfl ls st H Q
theorem r130_416 : sw_A 130 416 ls st H Q = (sw_ldi False ls 6 fun x => sw_A 130 418 ls (.int x :: st) H Q) := sw_A_step (cc := cL_thresholds) rfl dL_thresholds_416 rfl ls st H Q
theorem r130_418 : sw_A 130 418 ls st H Q = (sw_pop False 3 st [] fun args r => sw_ck False r (sw_rc False H (some 11) args (sw_M 125 args H (sw_K 130 421 none ls r Q)))) := sw_A_step (cc := cL_thresholds) rfl dL_thresholds_418 rfl ls st H Q
theorem r130_421 : sw_A 130 421 ls st H Q = (sw_ldi False ls 18 fun x => sw_A 130 423 ls (.int x :: st) H Q) := sw_A_step (cc := cL_thresholds) rfl dL_thresholds_421 rfl ls st H Q
theorem r130_423 : sw_A 130 423 ls st H Q = (sw_i2 False st fun x y r => if ¬ x = y then sw_A 130 464 ls r H Q else sw_A 130 426 ls r H Q) := sw_A_step (cc := cL_thresholds) rfl dL_thresholds_423 rfl ls st H Q
theorem r130_426 : sw_A 130 426 ls st H Q = (sw_lda False ls 0 fun x => sw_A 130 427 ls (.ref x :: st) H Q) := sw_A_step (cc := cL_thresholds) rfl dL_thresholds_426 rfl ls st H Q
theorem r130_427 : sw_A 130 427 ls st H Q = (sw_ldi False ls 5 fun x => sw_A 130 429 ls (.int x :: st) H Q) := sw_A_step (cc := cL_thresholds) rfl dL_thresholds_427 rfl ls st H Q
theorem r130_429 : sw_A 130 429 ls st H Q = (sw_ldi False ls 6 fun x => sw_A 130 431 ls (.int x :: st) H Q) := sw_A_step (cc := cL_thresholds) rfl dL_thresholds_429 rfl ls st H Q
theorem r130_431 : sw_A 130 431 ls st H Q = (sw_pop False 3 st [] fun args r => sw_ck False r (sw_rc False H (some 11) args (sw_M 127 args H (sw_K 130 434 none ls r Q)))) := sw_A_step (cc := cL_thresholds) rfl dL_thresholds_431 rfl ls st H Q
theorem r130_434 : sw_A 130 434 ls st H Q = (sw_ldi False ls 19 fun x => sw_A 130 436 ls (.int x :: st) H Q) := sw_A_step (cc := cL_thresholds) rfl dL_thresholds_434 rfl ls st H Q
theorem r130_436 : sw_A 130 436 ls st H Q = (sw_i2 False st fun x y r => if ¬ x = y then sw_A 130 464 ls r H Q else sw_A 130 439 ls r H Q) := sw_A_step (cc := cL_thresholds) rfl dL_thresholds_436 rfl ls st H Q
theorem r130_439 : sw_A 130 439 ls st H Q = (sw_lda False ls 0 fun x => sw_A 130 440 ls (.ref x :: st) H Q) := sw_A_step (cc := cL_thresholds) rfl dL_thresholds_439 rfl ls st H Q
theorem r130_440 : sw_A 130 440 ls st H Q = (sw_ldi False ls 5 fun x => sw_A 130 442 ls (.int x :: st) H Q) := sw_A_step (cc := cL_thresholds) rfl dL_thresholds_440 rfl ls st H Q
theorem r130_442 : sw_A 130 442 ls st H Q = (sw_ldi False ls 6 fun x => sw_A 130 444 ls (.int x :: st) H Q) := sw_A_step (cc := cL_thresholds) rfl dL_thresholds_442 rfl ls st H Q
theorem r130_444 : sw_A 130 444 ls st H Q = (sw_pop False 3 st [] fun args r => sw_ck False r (sw_rc False H (some 11) args (sw_M 128 args H (sw_K 130 447 none ls r Q)))) := sw_A_step (cc := cL_thresholds) rfl dL_thresholds_444 rfl ls st H Q
theorem r130_447 : sw_A 130 447 ls st H Q = (sw_lda False ls 1 fun x => sw_A 130 448 ls (.ref x :: st) H Q) := sw_A_step (cc := cL_thresholds) rfl dL_thresholds_447 rfl ls st H Q
theorem r130_448 : sw_A 130 448 ls st H Q = (sw_lda False ls 2 fun x => sw_A 130 449 ls (.ref x :: st) H Q) := sw_A_step (cc := cL_thresholds) rfl dL_thresholds_448 rfl ls st H Q
theorem r130_449 : sw_A 130 449 ls st H Q = (sw_ldl False ls 3 fun x => sw_A 130 450 ls (.long x :: st) H Q) := sw_A_step (cc := cL_thresholds) rfl dL_thresholds_449 rfl ls st H Q
theorem r130_450 : sw_A 130 450 ls st H Q = (sw_ldi False ls 5 fun x => sw_A 130 452 ls (.int x :: st) H Q) := sw_A_step (cc := cL_thresholds) rfl dL_thresholds_450 rfl ls st H Q
theorem r130_452 : sw_A 130 452 ls st H Q = (sw_ldi False ls 6 fun x => sw_A 130 454 ls (.int x :: st) H Q) := sw_A_step (cc := cL_thresholds) rfl dL_thresholds_452 rfl ls st H Q
theorem r130_454 : sw_A 130 454 ls st H Q = (sw_pop False 5 st [] fun args r => sw_ck False r (sw_M 129 args H (sw_K 130 457 none ls r Q))) := sw_A_step (cc := cL_thresholds) rfl dL_thresholds_454 rfl ls st H Q
theorem r130_457 : sw_A 130 457 ls st H Q = (sw_i2 False st fun x y r => if ¬ x = y then sw_A 130 464 ls r H Q else sw_A 130 460 ls r H Q) := sw_A_step (cc := cL_thresholds) rfl dL_thresholds_457 rfl ls st H Q
theorem r130_460 : sw_A 130 460 ls st H Q = (sw_A 130 461 ls (.int (Int32.ofInt 1) :: st) H Q) := sw_A_step (cc := cL_thresholds) rfl dL_thresholds_460 rfl ls st H Q
theorem r130_461 : sw_A 130 461 ls st H Q = (sw_A 130 465 ls st H Q) := sw_A_step (cc := cL_thresholds) rfl dL_thresholds_461 rfl ls st H Q
theorem r130_464 : sw_A 130 464 ls st H Q = (sw_A 130 465 ls (.int (Int32.ofInt 0) :: st) H Q) := sw_A_step (cc := cL_thresholds) rfl dL_thresholds_464 rfl ls st H Q
theorem r130_465 : sw_A 130 465 ls st H Q = (match st with | [.int x] => (if 2 = 1 ∨ 2 = 2 ∧ (x = 0 ∨ x = 1) then Q (some (some (.int x))) H else False) | _ => False) := sw_A_step (cc := cL_thresholds) rfl dL_thresholds_465 rfl ls st H Q
theorem r131_0 : sw_A 131 0 ls st H Q = (sw_A 131 1 ls (.int (Int32.ofInt 0) :: st) H Q) := sw_A_step (cc := cL_nears) rfl dL_nears_0 rfl ls st H Q
theorem r131_1 : sw_A 131 1 ls st H Q = (sw_has1 False ls 5 (sw_i1 False st fun x r => sw_A 131 3 (sw_set1 ls 5 (.int x)) r H Q)) := sw_A_step (cc := cL_nears) rfl dL_nears_1 rfl ls st H Q
theorem r131_3 : sw_A 131 3 ls st H Q = (sw_ldi False ls 5 fun x => sw_A 131 5 ls (.int x :: st) H Q) := sw_A_step (cc := cL_nears) rfl dL_nears_3 rfl ls st H Q
theorem r131_5 : sw_A 131 5 ls st H Q = (sw_A 131 7 ls (.int (Int32.ofInt 36) :: st) H Q) := sw_A_step (cc := cL_nears) rfl dL_nears_5 rfl ls st H Q
theorem r131_7 : sw_A 131 7 ls st H Q = (sw_i2 False st fun x y r => if y ≤ x then sw_A 131 22 ls r H Q else sw_A 131 10 ls r H Q) := sw_A_step (cc := cL_nears) rfl dL_nears_7 rfl ls st H Q
theorem r131_10 : sw_A 131 10 ls st H Q = (sw_lda False ls 4 fun x => sw_A 131 12 ls (.ref x :: st) H Q) := sw_A_step (cc := cL_nears) rfl dL_nears_10 rfl ls st H Q
theorem r131_12 : sw_A 131 12 ls st H Q = (sw_ldi False ls 5 fun x => sw_A 131 14 ls (.int x :: st) H Q) := sw_A_step (cc := cL_nears) rfl dL_nears_12 rfl ls st H Q
theorem r131_14 : sw_A 131 14 ls st H Q = (sw_A 131 15 ls (.int (Int32.ofInt (-1)) :: st) H Q) := sw_A_step (cc := cL_nears) rfl dL_nears_14 rfl ls st H Q
theorem r131_15 : sw_A 131 15 ls st H Q = (sw_rix False st fun a i x r => sw_ast False H 0 a i x fun H1 => sw_A 131 16 ls r H1 Q) := sw_A_step (cc := cL_nears) rfl dL_nears_15 rfl ls st H Q
theorem r131_16 : sw_A 131 16 ls st H Q = (sw_ldi False ls 5 fun x => sw_A 131 19 (sw_set1 ls 5 (.int (x + Int32.ofInt 1))) st H Q) := sw_A_step (cc := cL_nears) rfl dL_nears_16 rfl ls st H Q
theorem r131_19 : sw_A 131 19 ls st H Q = (sw_A 131 3 ls st H Q) := sw_A_step (cc := cL_nears) rfl dL_nears_19 rfl ls st H Q
theorem r131_22 : sw_A 131 22 ls st H Q = (sw_ldl False ls 1 fun x => sw_A 131 23 ls (.long x :: st) H Q) := sw_A_step (cc := cL_nears) rfl dL_nears_22 rfl ls st H Q
theorem r131_23 : sw_A 131 23 ls st H Q = (sw_ldi False ls 3 fun x => sw_A 131 24 ls (.int x :: st) H Q) := sw_A_step (cc := cL_nears) rfl dL_nears_23 rfl ls st H Q
theorem r131_24 : sw_A 131 24 ls st H Q = (sw_pop False 2 st [] fun args r => sw_ck False r (sw_M 30 args H (sw_K 131 27 none ls r Q))) := sw_A_step (cc := cL_nears) rfl dL_nears_24 rfl ls st H Q
theorem r131_27 : sw_A 131 27 ls st H Q = (sw_i1 False st fun x r => if x = 0 then sw_A 131 31 ls r H Q else sw_A 131 30 ls r H Q) := sw_A_step (cc := cL_nears) rfl dL_nears_27 rfl ls st H Q
theorem r131_30 : sw_A 131 30 ls st H Q = (match st with | [] => Q (some none) H | _ => False) := sw_A_step (cc := cL_nears) rfl dL_nears_30 rfl ls st H Q
theorem r131_31 : sw_A 131 31 ls st H Q = (sw_lda False ls 4 fun x => sw_A 131 33 ls (.ref x :: st) H Q) := sw_A_step (cc := cL_nears) rfl dL_nears_31 rfl ls st H Q
theorem r131_33 : sw_A 131 33 ls st H Q = (sw_ldi False ls 3 fun x => sw_A 131 34 ls (.int x :: st) H Q) := sw_A_step (cc := cL_nears) rfl dL_nears_33 rfl ls st H Q
theorem r131_34 : sw_A 131 34 ls st H Q = (sw_A 131 35 ls (.int (Int32.ofInt 0) :: st) H Q) := sw_A_step (cc := cL_nears) rfl dL_nears_34 rfl ls st H Q
theorem r131_35 : sw_A 131 35 ls st H Q = (sw_rix False st fun a i x r => sw_ast False H 0 a i x fun H1 => sw_A 131 36 ls r H1 Q) := sw_A_step (cc := cL_nears) rfl dL_nears_35 rfl ls st H Q
theorem r131_36 : sw_A 131 36 ls st H Q = (sw_A 131 37 ls (.long (Int64.ofNat 0) :: st) H Q) := sw_A_step (cc := cL_nears) rfl dL_nears_36 rfl ls st H Q
theorem r131_37 : sw_A 131 37 ls st H Q = (sw_has1 False ls 6 (sw_l1 False st fun x r => sw_A 131 39 (sw_set2 ls 5 (.long x)) r H Q)) := sw_A_step (cc := cL_nears) rfl dL_nears_37 rfl ls st H Q
theorem r131_39 : sw_A 131 39 ls st H Q = (sw_ldi False ls 3 fun x => sw_A 131 40 ls (.int x :: st) H Q) := sw_A_step (cc := cL_nears) rfl dL_nears_39 rfl ls st H Q
theorem r131_40 : sw_A 131 40 ls st H Q = (sw_has1 False ls 7 (sw_i1 False st fun x r => sw_A 131 42 (sw_set1 ls 7 (.int x)) r H Q)) := sw_A_step (cc := cL_nears) rfl dL_nears_40 rfl ls st H Q
theorem r131_42 : sw_A 131 42 ls st H Q = (sw_ldi False ls 7 fun x => sw_A 131 44 ls (.int x :: st) H Q) := sw_A_step (cc := cL_nears) rfl dL_nears_42 rfl ls st H Q
theorem r131_44 : sw_A 131 44 ls st H Q = (sw_i1 False st fun x r => if x < 0 then sw_A 131 232 ls r H Q else sw_A 131 47 ls r H Q) := sw_A_step (cc := cL_nears) rfl dL_nears_44 rfl ls st H Q
theorem r131_47 : sw_A 131 47 ls st H Q = (sw_ldl False ls 5 fun x => sw_A 131 49 ls (.long x :: st) H Q) := sw_A_step (cc := cL_nears) rfl dL_nears_47 rfl ls st H Q
theorem r131_49 : sw_A 131 49 ls st H Q = (sw_A 131 50 ls (.long (Int64.ofNat 1) :: st) H Q) := sw_A_step (cc := cL_nears) rfl dL_nears_49 rfl ls st H Q
theorem r131_50 : sw_A 131 50 ls st H Q = (sw_ldi False ls 7 fun x => sw_A 131 52 ls (.int x :: st) H Q) := sw_A_step (cc := cL_nears) rfl dL_nears_50 rfl ls st H Q
theorem r131_52 : sw_A 131 52 ls st H Q = (sw_li False st fun x y r => sw_A 131 53 ls (.long (x <<< (y.toInt64 &&& 63)) :: r) H Q) := sw_A_step (cc := cL_nears) rfl dL_nears_52 rfl ls st H Q
theorem r131_53 : sw_A 131 53 ls st H Q = (sw_l2 False st fun x y r => sw_A 131 54 ls (.long (x ||| y) :: r) H Q) := sw_A_step (cc := cL_nears) rfl dL_nears_53 rfl ls st H Q
theorem r131_54 : sw_A 131 54 ls st H Q = (sw_has1 False ls 6 (sw_l1 False st fun x r => sw_A 131 56 (sw_set2 ls 5 (.long x)) r H Q)) := sw_A_step (cc := cL_nears) rfl dL_nears_54 rfl ls st H Q
theorem r131_56 : sw_A 131 56 ls st H Q = (sw_A 131 57 ls (.int (Int32.ofInt 0) :: st) H Q) := sw_A_step (cc := cL_nears) rfl dL_nears_56 rfl ls st H Q
theorem r131_57 : sw_A 131 57 ls st H Q = (sw_has1 False ls 8 (sw_i1 False st fun x r => sw_A 131 59 (sw_set1 ls 8 (.int x)) r H Q)) := sw_A_step (cc := cL_nears) rfl dL_nears_57 rfl ls st H Q
theorem r131_59 : sw_A 131 59 ls st H Q = (sw_ldi False ls 8 fun x => sw_A 131 61 ls (.int x :: st) H Q) := sw_A_step (cc := cL_nears) rfl dL_nears_59 rfl ls st H Q
theorem r131_61 : sw_A 131 61 ls st H Q = (sw_A 131 63 ls (.int (Int32.ofInt 60) :: st) H Q) := sw_A_step (cc := cL_nears) rfl dL_nears_61 rfl ls st H Q
theorem r131_63 : sw_A 131 63 ls st H Q = (sw_i2 False st fun x y r => if y ≤ x then sw_A 131 170 ls r H Q else sw_A 131 66 ls r H Q) := sw_A_step (cc := cL_nears) rfl dL_nears_63 rfl ls st H Q
theorem r131_66 : sw_A 131 66 ls st H Q = (sw_ldi False ls 8 fun x => sw_A 131 68 ls (.int x :: st) H Q) := sw_A_step (cc := cL_nears) rfl dL_nears_66 rfl ls st H Q
theorem r131_68 : sw_A 131 68 ls st H Q = (sw_pop False 1 st [] fun args r => sw_ck False r (sw_M 79 args H (sw_K 131 71 none ls r Q))) := sw_A_step (cc := cL_nears) rfl dL_nears_68 rfl ls st H Q
theorem r131_71 : sw_A 131 71 ls st H Q = (sw_ldi False ls 7 fun x => sw_A 131 73 ls (.int x :: st) H Q) := sw_A_step (cc := cL_nears) rfl dL_nears_71 rfl ls st H Q
theorem r131_73 : sw_A 131 73 ls st H Q = (sw_i2 False st fun x y r => if ¬ x = y then sw_A 131 84 ls r H Q else sw_A 131 76 ls r H Q) := sw_A_step (cc := cL_nears) rfl dL_nears_73 rfl ls st H Q
theorem r131_76 : sw_A 131 76 ls st H Q = (sw_ldi False ls 8 fun x => sw_A 131 78 ls (.int x :: st) H Q) := sw_A_step (cc := cL_nears) rfl dL_nears_76 rfl ls st H Q
theorem r131_78 : sw_A 131 78 ls st H Q = (sw_pop False 1 st [] fun args r => sw_ck False r (sw_M 80 args H (sw_K 131 81 none ls r Q))) := sw_A_step (cc := cL_nears) rfl dL_nears_78 rfl ls st H Q
theorem r131_81 : sw_A 131 81 ls st H Q = (sw_A 131 103 ls st H Q) := sw_A_step (cc := cL_nears) rfl dL_nears_81 rfl ls st H Q
theorem r131_84 : sw_A 131 84 ls st H Q = (sw_ldi False ls 8 fun x => sw_A 131 86 ls (.int x :: st) H Q) := sw_A_step (cc := cL_nears) rfl dL_nears_84 rfl ls st H Q
theorem r131_86 : sw_A 131 86 ls st H Q = (sw_pop False 1 st [] fun args r => sw_ck False r (sw_M 80 args H (sw_K 131 89 none ls r Q))) := sw_A_step (cc := cL_nears) rfl dL_nears_86 rfl ls st H Q
theorem r131_89 : sw_A 131 89 ls st H Q = (sw_ldi False ls 7 fun x => sw_A 131 91 ls (.int x :: st) H Q) := sw_A_step (cc := cL_nears) rfl dL_nears_89 rfl ls st H Q
theorem r131_91 : sw_A 131 91 ls st H Q = (sw_i2 False st fun x y r => if ¬ x = y then sw_A 131 102 ls r H Q else sw_A 131 94 ls r H Q) := sw_A_step (cc := cL_nears) rfl dL_nears_91 rfl ls st H Q
theorem r131_94 : sw_A 131 94 ls st H Q = (sw_ldi False ls 8 fun x => sw_A 131 96 ls (.int x :: st) H Q) := sw_A_step (cc := cL_nears) rfl dL_nears_94 rfl ls st H Q
theorem r131_96 : sw_A 131 96 ls st H Q = (sw_pop False 1 st [] fun args r => sw_ck False r (sw_M 79 args H (sw_K 131 99 none ls r Q))) := sw_A_step (cc := cL_nears) rfl dL_nears_96 rfl ls st H Q
theorem r131_99 : sw_A 131 99 ls st H Q = (sw_A 131 103 ls st H Q) := sw_A_step (cc := cL_nears) rfl dL_nears_99 rfl ls st H Q
theorem r131_102 : sw_A 131 102 ls st H Q = (sw_A 131 103 ls (.int (Int32.ofInt (-1)) :: st) H Q) := sw_A_step (cc := cL_nears) rfl dL_nears_102 rfl ls st H Q
theorem r131_103 : sw_A 131 103 ls st H Q = (sw_has1 False ls 9 (sw_i1 False st fun x r => sw_A 131 105 (sw_set1 ls 9 (.int x)) r H Q)) := sw_A_step (cc := cL_nears) rfl dL_nears_103 rfl ls st H Q
theorem r131_105 : sw_A 131 105 ls st H Q = (sw_ldi False ls 9 fun x => sw_A 131 107 ls (.int x :: st) H Q) := sw_A_step (cc := cL_nears) rfl dL_nears_105 rfl ls st H Q
theorem r131_107 : sw_A 131 107 ls st H Q = (sw_i1 False st fun x r => if x < 0 then sw_A 131 164 ls r H Q else sw_A 131 110 ls r H Q) := sw_A_step (cc := cL_nears) rfl dL_nears_107 rfl ls st H Q
theorem r131_110 : sw_A 131 110 ls st H Q = (sw_ldl False ls 1 fun x => sw_A 131 111 ls (.long x :: st) H Q) := sw_A_step (cc := cL_nears) rfl dL_nears_110 rfl ls st H Q
theorem r131_111 : sw_A 131 111 ls st H Q = (sw_ldi False ls 9 fun x => sw_A 131 113 ls (.int x :: st) H Q) := sw_A_step (cc := cL_nears) rfl dL_nears_111 rfl ls st H Q
theorem r131_113 : sw_A 131 113 ls st H Q = (sw_pop False 2 st [] fun args r => sw_ck False r (sw_M 30 args H (sw_K 131 116 none ls r Q))) := sw_A_step (cc := cL_nears) rfl dL_nears_113 rfl ls st H Q
theorem r131_116 : sw_A 131 116 ls st H Q = (sw_i1 False st fun x r => if ¬ x = 0 then sw_A 131 164 ls r H Q else sw_A 131 119 ls r H Q) := sw_A_step (cc := cL_nears) rfl dL_nears_116 rfl ls st H Q
theorem r131_119 : sw_A 131 119 ls st H Q = (sw_lda False ls 4 fun x => sw_A 131 121 ls (.ref x :: st) H Q) := sw_A_step (cc := cL_nears) rfl dL_nears_119 rfl ls st H Q
theorem r131_121 : sw_A 131 121 ls st H Q = (sw_ldi False ls 9 fun x => sw_A 131 123 ls (.int x :: st) H Q) := sw_A_step (cc := cL_nears) rfl dL_nears_121 rfl ls st H Q
theorem r131_123 : sw_A 131 123 ls st H Q = (sw_ri False st fun a i r => sw_ald False H 0 a i fun x => sw_A 131 124 ls (.int x :: r) H Q) := sw_A_step (cc := cL_nears) rfl dL_nears_123 rfl ls st H Q
theorem r131_124 : sw_A 131 124 ls st H Q = (sw_i1 False st fun x r => if x < 0 then sw_A 131 147 ls r H Q else sw_A 131 127 ls r H Q) := sw_A_step (cc := cL_nears) rfl dL_nears_124 rfl ls st H Q
theorem r131_127 : sw_A 131 127 ls st H Q = (sw_lda False ls 4 fun x => sw_A 131 129 ls (.ref x :: st) H Q) := sw_A_step (cc := cL_nears) rfl dL_nears_127 rfl ls st H Q
theorem r131_129 : sw_A 131 129 ls st H Q = (sw_ldi False ls 7 fun x => sw_A 131 131 ls (.int x :: st) H Q) := sw_A_step (cc := cL_nears) rfl dL_nears_129 rfl ls st H Q
theorem r131_131 : sw_A 131 131 ls st H Q = (sw_ri False st fun a i r => sw_ald False H 0 a i fun x => sw_A 131 132 ls (.int x :: r) H Q) := sw_A_step (cc := cL_nears) rfl dL_nears_131 rfl ls st H Q
theorem r131_132 : sw_A 131 132 ls st H Q = (sw_lda False ls 0 fun x => sw_A 131 133 ls (.ref x :: st) H Q) := sw_A_step (cc := cL_nears) rfl dL_nears_132 rfl ls st H Q
theorem r131_133 : sw_A 131 133 ls st H Q = (sw_ldi False ls 8 fun x => sw_A 131 135 ls (.int x :: st) H Q) := sw_A_step (cc := cL_nears) rfl dL_nears_133 rfl ls st H Q
theorem r131_135 : sw_A 131 135 ls st H Q = (sw_ri False st fun a i r => sw_ald False H 0 a i fun x => sw_A 131 136 ls (.int x :: r) H Q) := sw_A_step (cc := cL_nears) rfl dL_nears_135 rfl ls st H Q
theorem r131_136 : sw_A 131 136 ls st H Q = (sw_i2 False st fun x y r => sw_A 131 137 ls (.int (x + y) :: r) H Q) := sw_A_step (cc := cL_nears) rfl dL_nears_136 rfl ls st H Q
theorem r131_137 : sw_A 131 137 ls st H Q = (sw_A 131 138 ls (.int (Int32.ofInt 1) :: st) H Q) := sw_A_step (cc := cL_nears) rfl dL_nears_137 rfl ls st H Q
theorem r131_138 : sw_A 131 138 ls st H Q = (sw_i2 False st fun x y r => sw_A 131 139 ls (.int (x + y) :: r) H Q) := sw_A_step (cc := cL_nears) rfl dL_nears_138 rfl ls st H Q
theorem r131_139 : sw_A 131 139 ls st H Q = (sw_lda False ls 4 fun x => sw_A 131 141 ls (.ref x :: st) H Q) := sw_A_step (cc := cL_nears) rfl dL_nears_139 rfl ls st H Q
theorem r131_141 : sw_A 131 141 ls st H Q = (sw_ldi False ls 9 fun x => sw_A 131 143 ls (.int x :: st) H Q) := sw_A_step (cc := cL_nears) rfl dL_nears_141 rfl ls st H Q
theorem r131_143 : sw_A 131 143 ls st H Q = (sw_ri False st fun a i r => sw_ald False H 0 a i fun x => sw_A 131 144 ls (.int x :: r) H Q) := sw_A_step (cc := cL_nears) rfl dL_nears_143 rfl ls st H Q
theorem r131_144 : sw_A 131 144 ls st H Q = (sw_i2 False st fun x y r => if y ≤ x then sw_A 131 164 ls r H Q else sw_A 131 147 ls r H Q) := sw_A_step (cc := cL_nears) rfl dL_nears_144 rfl ls st H Q
theorem r131_147 : sw_A 131 147 ls st H Q = (sw_lda False ls 4 fun x => sw_A 131 149 ls (.ref x :: st) H Q) := sw_A_step (cc := cL_nears) rfl dL_nears_147 rfl ls st H Q
theorem r131_149 : sw_A 131 149 ls st H Q = (sw_ldi False ls 9 fun x => sw_A 131 151 ls (.int x :: st) H Q) := sw_A_step (cc := cL_nears) rfl dL_nears_149 rfl ls st H Q
theorem r131_151 : sw_A 131 151 ls st H Q = (sw_lda False ls 4 fun x => sw_A 131 153 ls (.ref x :: st) H Q) := sw_A_step (cc := cL_nears) rfl dL_nears_151 rfl ls st H Q
theorem r131_153 : sw_A 131 153 ls st H Q = (sw_ldi False ls 7 fun x => sw_A 131 155 ls (.int x :: st) H Q) := sw_A_step (cc := cL_nears) rfl dL_nears_153 rfl ls st H Q
theorem r131_155 : sw_A 131 155 ls st H Q = (sw_ri False st fun a i r => sw_ald False H 0 a i fun x => sw_A 131 156 ls (.int x :: r) H Q) := sw_A_step (cc := cL_nears) rfl dL_nears_155 rfl ls st H Q
theorem r131_156 : sw_A 131 156 ls st H Q = (sw_lda False ls 0 fun x => sw_A 131 157 ls (.ref x :: st) H Q) := sw_A_step (cc := cL_nears) rfl dL_nears_156 rfl ls st H Q
theorem r131_157 : sw_A 131 157 ls st H Q = (sw_ldi False ls 8 fun x => sw_A 131 159 ls (.int x :: st) H Q) := sw_A_step (cc := cL_nears) rfl dL_nears_157 rfl ls st H Q
theorem r131_159 : sw_A 131 159 ls st H Q = (sw_ri False st fun a i r => sw_ald False H 0 a i fun x => sw_A 131 160 ls (.int x :: r) H Q) := sw_A_step (cc := cL_nears) rfl dL_nears_159 rfl ls st H Q
theorem r131_160 : sw_A 131 160 ls st H Q = (sw_i2 False st fun x y r => sw_A 131 161 ls (.int (x + y) :: r) H Q) := sw_A_step (cc := cL_nears) rfl dL_nears_160 rfl ls st H Q
theorem r131_161 : sw_A 131 161 ls st H Q = (sw_A 131 162 ls (.int (Int32.ofInt 1) :: st) H Q) := sw_A_step (cc := cL_nears) rfl dL_nears_161 rfl ls st H Q
theorem r131_162 : sw_A 131 162 ls st H Q = (sw_i2 False st fun x y r => sw_A 131 163 ls (.int (x + y) :: r) H Q) := sw_A_step (cc := cL_nears) rfl dL_nears_162 rfl ls st H Q
theorem r131_163 : sw_A 131 163 ls st H Q = (sw_rix False st fun a i x r => sw_ast False H 0 a i x fun H1 => sw_A 131 164 ls r H1 Q) := sw_A_step (cc := cL_nears) rfl dL_nears_163 rfl ls st H Q
theorem r131_164 : sw_A 131 164 ls st H Q = (sw_ldi False ls 8 fun x => sw_A 131 167 (sw_set1 ls 8 (.int (x + Int32.ofInt 1))) st H Q) := sw_A_step (cc := cL_nears) rfl dL_nears_164 rfl ls st H Q
theorem r131_167 : sw_A 131 167 ls st H Q = (sw_A 131 59 ls st H Q) := sw_A_step (cc := cL_nears) rfl dL_nears_167 rfl ls st H Q
theorem r131_170 : sw_A 131 170 ls st H Q = (sw_A 131 171 ls (.int (Int32.ofInt (-1)) :: st) H Q) := sw_A_step (cc := cL_nears) rfl dL_nears_170 rfl ls st H Q
theorem r131_171 : sw_A 131 171 ls st H Q = (sw_has1 False ls 7 (sw_i1 False st fun x r => sw_A 131 173 (sw_set1 ls 7 (.int x)) r H Q)) := sw_A_step (cc := cL_nears) rfl dL_nears_171 rfl ls st H Q
theorem r131_173 : sw_A 131 173 ls st H Q = (sw_A 131 174 ls (.int (Int32.ofInt 0) :: st) H Q) := sw_A_step (cc := cL_nears) rfl dL_nears_173 rfl ls st H Q
theorem r131_174 : sw_A 131 174 ls st H Q = (sw_has1 False ls 8 (sw_i1 False st fun x r => sw_A 131 176 (sw_set1 ls 8 (.int x)) r H Q)) := sw_A_step (cc := cL_nears) rfl dL_nears_174 rfl ls st H Q
theorem r131_176 : sw_A 131 176 ls st H Q = (sw_ldi False ls 8 fun x => sw_A 131 178 ls (.int x :: st) H Q) := sw_A_step (cc := cL_nears) rfl dL_nears_176 rfl ls st H Q
theorem r131_178 : sw_A 131 178 ls st H Q = (sw_A 131 180 ls (.int (Int32.ofInt 36) :: st) H Q) := sw_A_step (cc := cL_nears) rfl dL_nears_178 rfl ls st H Q
theorem r131_180 : sw_A 131 180 ls st H Q = (sw_i2 False st fun x y r => if y ≤ x then sw_A 131 229 ls r H Q else sw_A 131 183 ls r H Q) := sw_A_step (cc := cL_nears) rfl dL_nears_180 rfl ls st H Q
theorem r131_183 : sw_A 131 183 ls st H Q = (sw_ldl False ls 5 fun x => sw_A 131 185 ls (.long x :: st) H Q) := sw_A_step (cc := cL_nears) rfl dL_nears_183 rfl ls st H Q
theorem r131_185 : sw_A 131 185 ls st H Q = (sw_ldi False ls 8 fun x => sw_A 131 187 ls (.int x :: st) H Q) := sw_A_step (cc := cL_nears) rfl dL_nears_185 rfl ls st H Q
theorem r131_187 : sw_A 131 187 ls st H Q = (sw_pop False 2 st [] fun args r => sw_ck False r (sw_M 30 args H (sw_K 131 190 none ls r Q))) := sw_A_step (cc := cL_nears) rfl dL_nears_187 rfl ls st H Q
theorem r131_190 : sw_A 131 190 ls st H Q = (sw_i1 False st fun x r => if ¬ x = 0 then sw_A 131 223 ls r H Q else sw_A 131 193 ls r H Q) := sw_A_step (cc := cL_nears) rfl dL_nears_190 rfl ls st H Q
theorem r131_193 : sw_A 131 193 ls st H Q = (sw_lda False ls 4 fun x => sw_A 131 195 ls (.ref x :: st) H Q) := sw_A_step (cc := cL_nears) rfl dL_nears_193 rfl ls st H Q
theorem r131_195 : sw_A 131 195 ls st H Q = (sw_ldi False ls 8 fun x => sw_A 131 197 ls (.int x :: st) H Q) := sw_A_step (cc := cL_nears) rfl dL_nears_195 rfl ls st H Q
theorem r131_197 : sw_A 131 197 ls st H Q = (sw_ri False st fun a i r => sw_ald False H 0 a i fun x => sw_A 131 198 ls (.int x :: r) H Q) := sw_A_step (cc := cL_nears) rfl dL_nears_197 rfl ls st H Q
theorem r131_198 : sw_A 131 198 ls st H Q = (sw_i1 False st fun x r => if x < 0 then sw_A 131 223 ls r H Q else sw_A 131 201 ls r H Q) := sw_A_step (cc := cL_nears) rfl dL_nears_198 rfl ls st H Q
theorem r131_201 : sw_A 131 201 ls st H Q = (sw_ldi False ls 7 fun x => sw_A 131 203 ls (.int x :: st) H Q) := sw_A_step (cc := cL_nears) rfl dL_nears_201 rfl ls st H Q
theorem r131_203 : sw_A 131 203 ls st H Q = (sw_i1 False st fun x r => if x < 0 then sw_A 131 219 ls r H Q else sw_A 131 206 ls r H Q) := sw_A_step (cc := cL_nears) rfl dL_nears_203 rfl ls st H Q
theorem r131_206 : sw_A 131 206 ls st H Q = (sw_lda False ls 4 fun x => sw_A 131 208 ls (.ref x :: st) H Q) := sw_A_step (cc := cL_nears) rfl dL_nears_206 rfl ls st H Q
theorem r131_208 : sw_A 131 208 ls st H Q = (sw_ldi False ls 8 fun x => sw_A 131 210 ls (.int x :: st) H Q) := sw_A_step (cc := cL_nears) rfl dL_nears_208 rfl ls st H Q
theorem r131_210 : sw_A 131 210 ls st H Q = (sw_ri False st fun a i r => sw_ald False H 0 a i fun x => sw_A 131 211 ls (.int x :: r) H Q) := sw_A_step (cc := cL_nears) rfl dL_nears_210 rfl ls st H Q
theorem r131_211 : sw_A 131 211 ls st H Q = (sw_lda False ls 4 fun x => sw_A 131 213 ls (.ref x :: st) H Q) := sw_A_step (cc := cL_nears) rfl dL_nears_211 rfl ls st H Q
theorem r131_213 : sw_A 131 213 ls st H Q = (sw_ldi False ls 7 fun x => sw_A 131 215 ls (.int x :: st) H Q) := sw_A_step (cc := cL_nears) rfl dL_nears_213 rfl ls st H Q
theorem r131_215 : sw_A 131 215 ls st H Q = (sw_ri False st fun a i r => sw_ald False H 0 a i fun x => sw_A 131 216 ls (.int x :: r) H Q) := sw_A_step (cc := cL_nears) rfl dL_nears_215 rfl ls st H Q
theorem r131_216 : sw_A 131 216 ls st H Q = (sw_i2 False st fun x y r => if y ≤ x then sw_A 131 223 ls r H Q else sw_A 131 219 ls r H Q) := sw_A_step (cc := cL_nears) rfl dL_nears_216 rfl ls st H Q
theorem r131_219 : sw_A 131 219 ls st H Q = (sw_ldi False ls 8 fun x => sw_A 131 221 ls (.int x :: st) H Q) := sw_A_step (cc := cL_nears) rfl dL_nears_219 rfl ls st H Q
theorem r131_221 : sw_A 131 221 ls st H Q = (sw_has1 False ls 7 (sw_i1 False st fun x r => sw_A 131 223 (sw_set1 ls 7 (.int x)) r H Q)) := sw_A_step (cc := cL_nears) rfl dL_nears_221 rfl ls st H Q
theorem r131_223 : sw_A 131 223 ls st H Q = (sw_ldi False ls 8 fun x => sw_A 131 226 (sw_set1 ls 8 (.int (x + Int32.ofInt 1))) st H Q) := sw_A_step (cc := cL_nears) rfl dL_nears_223 rfl ls st H Q
theorem r131_226 : sw_A 131 226 ls st H Q = (sw_A 131 176 ls st H Q) := sw_A_step (cc := cL_nears) rfl dL_nears_226 rfl ls st H Q
theorem r131_229 : sw_A 131 229 ls st H Q = (sw_A 131 42 ls st H Q) := sw_A_step (cc := cL_nears) rfl dL_nears_229 rfl ls st H Q
theorem r131_232 : sw_A 131 232 ls st H Q = (match st with | [] => Q (some none) H | _ => False) := sw_A_step (cc := cL_nears) rfl dL_nears_232 rfl ls st H Q
end sw_R
