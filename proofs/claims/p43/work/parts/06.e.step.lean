section sw_R
variable (ls : sw_LS) (st : List Value) (H : sw_HS) (Q : sw_Ot → sw_HS → Prop)
theorem r103_0 : sw_A 103 0 ls st H Q = (sw_ldi False ls 3 fun x => sw_A 103 1 ls (.int x :: st) H Q) := sw_A_step (cc := cX11_sizes) rfl dX11_sizes_0 rfl ls st H Q
theorem r103_1 : sw_A 103 1 ls st H Q = (sw_A 103 2 ls (.int (Int32.ofInt 0) :: st) H Q) := sw_A_step (cc := cX11_sizes) rfl dX11_sizes_1 rfl ls st H Q
theorem r103_2 : sw_A 103 2 ls st H Q = (sw_A 103 3 ls (.int (Int32.ofInt 2) :: st) H Q) := sw_A_step (cc := cX11_sizes) rfl dX11_sizes_2 rfl ls st H Q
theorem r103_3 : sw_A 103 3 ls st H Q = (sw_pop False 3 st [] fun args r => sw_ck False r (sw_M 17 args H (sw_K 103 6 none ls r Q))) := sw_A_step (cc := cX11_sizes) rfl dX11_sizes_3 rfl ls st H Q
theorem r103_6 : sw_A 103 6 ls st H Q = (sw_lda False ls 0 fun x => sw_A 103 7 ls (.ref x :: st) H Q) := sw_A_step (cc := cX11_sizes) rfl dX11_sizes_6 rfl ls st H Q
theorem r103_7 : sw_A 103 7 ls st H Q = (sw_ldi False ls 1 fun x => sw_A 103 8 ls (.int x :: st) H Q) := sw_A_step (cc := cX11_sizes) rfl dX11_sizes_7 rfl ls st H Q
theorem r103_8 : sw_A 103 8 ls st H Q = (sw_ldi False ls 2 fun x => sw_A 103 9 ls (.int x :: st) H Q) := sw_A_step (cc := cX11_sizes) rfl dX11_sizes_8 rfl ls st H Q
theorem r103_9 : sw_A 103 9 ls st H Q = (sw_pop False 3 st [] fun args r => sw_ck False r (sw_rc False H (some 11) args (sw_M 96 args H (sw_K 103 12 none ls r Q)))) := sw_A_step (cc := cX11_sizes) rfl dX11_sizes_9 rfl ls st H Q
theorem r103_12 : sw_A 103 12 ls st H Q = (sw_lda False ls 0 fun x => sw_A 103 13 ls (.ref x :: st) H Q) := sw_A_step (cc := cX11_sizes) rfl dX11_sizes_12 rfl ls st H Q
theorem r103_13 : sw_A 103 13 ls st H Q = (sw_r1 False st fun a r => sw_gf False H (some (11, 3, 1)) a fun v => sw_A 103 16 ls (v :: r) H Q) := sw_A_step (cc := cX11_sizes) rfl dX11_sizes_13 rfl ls st H Q
theorem r103_16 : sw_A 103 16 ls st H Q = (sw_pop False 1 st [] fun args r => sw_ck False r (sw_rc False H (some 9) args (sw_M 102 args H (sw_K 103 19 none ls r Q)))) := sw_A_step (cc := cX11_sizes) rfl dX11_sizes_16 rfl ls st H Q
theorem r103_19 : sw_A 103 19 ls st H Q = (sw_ldi False ls 3 fun x => sw_A 103 20 ls (.int x :: st) H Q) := sw_A_step (cc := cX11_sizes) rfl dX11_sizes_19 rfl ls st H Q
theorem r103_20 : sw_A 103 20 ls st H Q = (sw_i1 False st fun x r => if ¬ x = 0 then sw_A 103 31 ls r H Q else sw_A 103 23 ls r H Q) := sw_A_step (cc := cX11_sizes) rfl dX11_sizes_20 rfl ls st H Q
theorem r103_23 : sw_A 103 23 ls st H Q = (sw_lda False ls 0 fun x => sw_A 103 24 ls (.ref x :: st) H Q) := sw_A_step (cc := cX11_sizes) rfl dX11_sizes_23 rfl ls st H Q
theorem r103_24 : sw_A 103 24 ls st H Q = (sw_r1 False st fun a r => sw_gf False H (some (11, 3, 1)) a fun v => sw_A 103 27 ls (v :: r) H Q) := sw_A_step (cc := cX11_sizes) rfl dX11_sizes_24 rfl ls st H Q
theorem r103_27 : sw_A 103 27 ls st H Q = (sw_r1 False st fun a r => sw_gf False H (some (9, 4, 0)) a fun v => sw_A 103 30 ls (v :: r) H Q) := sw_A_step (cc := cX11_sizes) rfl dX11_sizes_27 rfl ls st H Q
theorem r103_30 : sw_A 103 30 ls st H Q = (match st with | [.int x] => Q (some (some (.int x))) H | _ => False) := sw_A_step (cc := cX11_sizes) rfl dX11_sizes_30 rfl ls st H Q
theorem r103_31 : sw_A 103 31 ls st H Q = (sw_ldi False ls 3 fun x => sw_A 103 32 ls (.int x :: st) H Q) := sw_A_step (cc := cX11_sizes) rfl dX11_sizes_31 rfl ls st H Q
theorem r103_32 : sw_A 103 32 ls st H Q = (sw_A 103 33 ls (.int (Int32.ofInt 1) :: st) H Q) := sw_A_step (cc := cX11_sizes) rfl dX11_sizes_32 rfl ls st H Q
theorem r103_33 : sw_A 103 33 ls st H Q = (sw_i2 False st fun x y r => if ¬ x = y then sw_A 103 46 ls r H Q else sw_A 103 36 ls r H Q) := sw_A_step (cc := cX11_sizes) rfl dX11_sizes_33 rfl ls st H Q
theorem r103_36 : sw_A 103 36 ls st H Q = (sw_lda False ls 0 fun x => sw_A 103 37 ls (.ref x :: st) H Q) := sw_A_step (cc := cX11_sizes) rfl dX11_sizes_36 rfl ls st H Q
theorem r103_37 : sw_A 103 37 ls st H Q = (sw_r1 False st fun a r => sw_gf False H (some (11, 3, 1)) a fun v => sw_A 103 40 ls (v :: r) H Q) := sw_A_step (cc := cX11_sizes) rfl dX11_sizes_37 rfl ls st H Q
theorem r103_40 : sw_A 103 40 ls st H Q = (sw_r1 False st fun a r => sw_gf False H (some (9, 5, 0)) a fun v => sw_A 103 43 ls (v :: r) H Q) := sw_A_step (cc := cX11_sizes) rfl dX11_sizes_40 rfl ls st H Q
theorem r103_43 : sw_A 103 43 ls st H Q = (sw_A 103 53 ls st H Q) := sw_A_step (cc := cX11_sizes) rfl dX11_sizes_43 rfl ls st H Q
theorem r103_46 : sw_A 103 46 ls st H Q = (sw_lda False ls 0 fun x => sw_A 103 47 ls (.ref x :: st) H Q) := sw_A_step (cc := cX11_sizes) rfl dX11_sizes_46 rfl ls st H Q
theorem r103_47 : sw_A 103 47 ls st H Q = (sw_r1 False st fun a r => sw_gf False H (some (11, 3, 1)) a fun v => sw_A 103 50 ls (v :: r) H Q) := sw_A_step (cc := cX11_sizes) rfl dX11_sizes_47 rfl ls st H Q
theorem r103_50 : sw_A 103 50 ls st H Q = (sw_r1 False st fun a r => sw_gf False H (some (9, 6, 0)) a fun v => sw_A 103 53 ls (v :: r) H Q) := sw_A_step (cc := cX11_sizes) rfl dX11_sizes_50 rfl ls st H Q
theorem r103_53 : sw_A 103 53 ls st H Q = (match st with | [.int x] => Q (some (some (.int x))) H | _ => False) := sw_A_step (cc := cX11_sizes) rfl dX11_sizes_53 rfl ls st H Q
theorem r104_0 : sw_A 104 0 ls st H Q = (sw_A 104 1 ls (.int (Int32.ofInt 0) :: st) H Q) := sw_A_step (cc := cX2_partAll) rfl dX2_partAll_0 rfl ls st H Q
theorem r104_1 : sw_A 104 1 ls st H Q = (sw_has1 False ls 2 (sw_i1 False st fun x r => sw_A 104 2 (sw_set1 ls 2 (.int x)) r H Q)) := sw_A_step (cc := cX2_partAll) rfl dX2_partAll_1 rfl ls st H Q
theorem r104_2 : sw_A 104 2 ls st H Q = (sw_ldi False ls 2 fun x => sw_A 104 3 ls (.int x :: st) H Q) := sw_A_step (cc := cX2_partAll) rfl dX2_partAll_2 rfl ls st H Q
theorem r104_3 : sw_A 104 3 ls st H Q = (sw_A 104 5 ls (.int (Int32.ofInt 36) :: st) H Q) := sw_A_step (cc := cX2_partAll) rfl dX2_partAll_3 rfl ls st H Q
theorem r104_5 : sw_A 104 5 ls st H Q = (sw_i2 False st fun x y r => if y ≤ x then sw_A 104 69 ls r H Q else sw_A 104 8 ls r H Q) := sw_A_step (cc := cX2_partAll) rfl dX2_partAll_5 rfl ls st H Q
theorem r104_8 : sw_A 104 8 ls st H Q = (sw_ldi False ls 2 fun x => sw_A 104 9 ls (.int x :: st) H Q) := sw_A_step (cc := cX2_partAll) rfl dX2_partAll_8 rfl ls st H Q
theorem r104_9 : sw_A 104 9 ls st H Q = (sw_ldi False ls 1 fun x => sw_A 104 10 ls (.int x :: st) H Q) := sw_A_step (cc := cX2_partAll) rfl dX2_partAll_9 rfl ls st H Q
theorem r104_10 : sw_A 104 10 ls st H Q = (sw_i1 False st fun x r => if x = 0 then sw_A 104 17 ls r H Q else sw_A 104 13 ls r H Q) := sw_A_step (cc := cX2_partAll) rfl dX2_partAll_10 rfl ls st H Q
theorem r104_13 : sw_A 104 13 ls st H Q = (sw_A 104 14 ls (.int (Int32.ofInt 0) :: st) H Q) := sw_A_step (cc := cX2_partAll) rfl dX2_partAll_13 rfl ls st H Q
theorem r104_14 : sw_A 104 14 ls st H Q = (sw_A 104 18 ls st H Q) := sw_A_step (cc := cX2_partAll) rfl dX2_partAll_14 rfl ls st H Q
theorem r104_17 : sw_A 104 17 ls st H Q = (sw_A 104 18 ls (.int (Int32.ofInt 1) :: st) H Q) := sw_A_step (cc := cX2_partAll) rfl dX2_partAll_17 rfl ls st H Q
theorem r104_18 : sw_A 104 18 ls st H Q = (sw_pop False 2 st [] fun args r => sw_ck False r (sw_M 73 args H (sw_K 104 21 none ls r Q))) := sw_A_step (cc := cX2_partAll) rfl dX2_partAll_18 rfl ls st H Q
theorem r104_21 : sw_A 104 21 ls st H Q = (sw_i1 False st fun x r => if x = 0 then sw_A 104 35 ls r H Q else sw_A 104 24 ls r H Q) := sw_A_step (cc := cX2_partAll) rfl dX2_partAll_21 rfl ls st H Q
theorem r104_24 : sw_A 104 24 ls st H Q = (sw_lda False ls 0 fun x => sw_A 104 25 ls (.ref x :: st) H Q) := sw_A_step (cc := cX2_partAll) rfl dX2_partAll_24 rfl ls st H Q
theorem r104_25 : sw_A 104 25 ls st H Q = (sw_r1 False st fun a r => sw_gf False H (some (2, 0, 1)) a fun v => sw_A 104 28 ls (v :: r) H Q) := sw_A_step (cc := cX2_partAll) rfl dX2_partAll_25 rfl ls st H Q
theorem r104_28 : sw_A 104 28 ls st H Q = (sw_ldi False ls 2 fun x => sw_A 104 29 ls (.int x :: st) H Q) := sw_A_step (cc := cX2_partAll) rfl dX2_partAll_28 rfl ls st H Q
theorem r104_29 : sw_A 104 29 ls st H Q = (sw_A 104 31 ls (.int (Int32.ofInt 36) :: st) H Q) := sw_A_step (cc := cX2_partAll) rfl dX2_partAll_29 rfl ls st H Q
theorem r104_31 : sw_A 104 31 ls st H Q = (sw_rix False st fun a i x r => sw_ast False H 0 a i x fun H1 => sw_A 104 32 ls r H1 Q) := sw_A_step (cc := cX2_partAll) rfl dX2_partAll_31 rfl ls st H Q
theorem r104_32 : sw_A 104 32 ls st H Q = (sw_A 104 63 ls st H Q) := sw_A_step (cc := cX2_partAll) rfl dX2_partAll_32 rfl ls st H Q
theorem r104_35 : sw_A 104 35 ls st H Q = (sw_lda False ls 0 fun x => sw_A 104 36 ls (.ref x :: st) H Q) := sw_A_step (cc := cX2_partAll) rfl dX2_partAll_35 rfl ls st H Q
theorem r104_36 : sw_A 104 36 ls st H Q = (sw_r1 False st fun a r => sw_gf False H (some (2, 0, 1)) a fun v => sw_A 104 39 ls (v :: r) H Q) := sw_A_step (cc := cX2_partAll) rfl dX2_partAll_36 rfl ls st H Q
theorem r104_39 : sw_A 104 39 ls st H Q = (sw_ldi False ls 2 fun x => sw_A 104 40 ls (.int x :: st) H Q) := sw_A_step (cc := cX2_partAll) rfl dX2_partAll_39 rfl ls st H Q
theorem r104_40 : sw_A 104 40 ls st H Q = (sw_ldi False ls 2 fun x => sw_A 104 41 ls (.int x :: st) H Q) := sw_A_step (cc := cX2_partAll) rfl dX2_partAll_40 rfl ls st H Q
theorem r104_41 : sw_A 104 41 ls st H Q = (sw_ldi False ls 1 fun x => sw_A 104 42 ls (.int x :: st) H Q) := sw_A_step (cc := cX2_partAll) rfl dX2_partAll_41 rfl ls st H Q
theorem r104_42 : sw_A 104 42 ls st H Q = (sw_i1 False st fun x r => if x = 0 then sw_A 104 49 ls r H Q else sw_A 104 45 ls r H Q) := sw_A_step (cc := cX2_partAll) rfl dX2_partAll_42 rfl ls st H Q
theorem r104_45 : sw_A 104 45 ls st H Q = (sw_A 104 46 ls (.int (Int32.ofInt 3) :: st) H Q) := sw_A_step (cc := cX2_partAll) rfl dX2_partAll_45 rfl ls st H Q
theorem r104_46 : sw_A 104 46 ls st H Q = (sw_A 104 50 ls st H Q) := sw_A_step (cc := cX2_partAll) rfl dX2_partAll_46 rfl ls st H Q
theorem r104_49 : sw_A 104 49 ls st H Q = (sw_A 104 50 ls (.int (Int32.ofInt 2) :: st) H Q) := sw_A_step (cc := cX2_partAll) rfl dX2_partAll_49 rfl ls st H Q
theorem r104_50 : sw_A 104 50 ls st H Q = (sw_pop False 2 st [] fun args r => sw_ck False r (sw_M 73 args H (sw_K 104 53 none ls r Q))) := sw_A_step (cc := cX2_partAll) rfl dX2_partAll_50 rfl ls st H Q
theorem r104_53 : sw_A 104 53 ls st H Q = (sw_i1 False st fun x r => if x = 0 then sw_A 104 61 ls r H Q else sw_A 104 56 ls r H Q) := sw_A_step (cc := cX2_partAll) rfl dX2_partAll_53 rfl ls st H Q
theorem r104_56 : sw_A 104 56 ls st H Q = (sw_A 104 58 ls (.int (Int32.ofInt 37) :: st) H Q) := sw_A_step (cc := cX2_partAll) rfl dX2_partAll_56 rfl ls st H Q
theorem r104_58 : sw_A 104 58 ls st H Q = (sw_A 104 62 ls st H Q) := sw_A_step (cc := cX2_partAll) rfl dX2_partAll_58 rfl ls st H Q
theorem r104_61 : sw_A 104 61 ls st H Q = (sw_ldi False ls 2 fun x => sw_A 104 62 ls (.int x :: st) H Q) := sw_A_step (cc := cX2_partAll) rfl dX2_partAll_61 rfl ls st H Q
theorem r104_62 : sw_A 104 62 ls st H Q = (sw_rix False st fun a i x r => sw_ast False H 0 a i x fun H1 => sw_A 104 63 ls r H1 Q) := sw_A_step (cc := cX2_partAll) rfl dX2_partAll_62 rfl ls st H Q
theorem r104_63 : sw_A 104 63 ls st H Q = (sw_ldi False ls 2 fun x => sw_A 104 66 (sw_set1 ls 2 (.int (x + Int32.ofInt 1))) st H Q) := sw_A_step (cc := cX2_partAll) rfl dX2_partAll_63 rfl ls st H Q
theorem r104_66 : sw_A 104 66 ls st H Q = (sw_A 104 2 ls st H Q) := sw_A_step (cc := cX2_partAll) rfl dX2_partAll_66 rfl ls st H Q
theorem r104_69 : sw_A 104 69 ls st H Q = (sw_lda False ls 0 fun x => sw_A 104 70 ls (.ref x :: st) H Q) := sw_A_step (cc := cX2_partAll) rfl dX2_partAll_69 rfl ls st H Q
theorem r104_70 : sw_A 104 70 ls st H Q = (sw_r1 False st fun a r => sw_gf False H (some (2, 0, 1)) a fun v => sw_A 104 73 ls (v :: r) H Q) := sw_A_step (cc := cX2_partAll) rfl dX2_partAll_70 rfl ls st H Q
theorem r104_73 : sw_A 104 73 ls st H Q = (sw_A 104 75 ls (.int (Int32.ofInt 36) :: st) H Q) := sw_A_step (cc := cX2_partAll) rfl dX2_partAll_73 rfl ls st H Q
theorem r104_75 : sw_A 104 75 ls st H Q = (sw_A 104 77 ls (.int (Int32.ofInt 36) :: st) H Q) := sw_A_step (cc := cX2_partAll) rfl dX2_partAll_75 rfl ls st H Q
theorem r104_77 : sw_A 104 77 ls st H Q = (sw_rix False st fun a i x r => sw_ast False H 0 a i x fun H1 => sw_A 104 78 ls r H1 Q) := sw_A_step (cc := cX2_partAll) rfl dX2_partAll_77 rfl ls st H Q
theorem r104_78 : sw_A 104 78 ls st H Q = (sw_lda False ls 0 fun x => sw_A 104 79 ls (.ref x :: st) H Q) := sw_A_step (cc := cX2_partAll) rfl dX2_partAll_78 rfl ls st H Q
theorem r104_79 : sw_A 104 79 ls st H Q = (sw_r1 False st fun a r => sw_gf False H (some (2, 0, 1)) a fun v => sw_A 104 82 ls (v :: r) H Q) := sw_A_step (cc := cX2_partAll) rfl dX2_partAll_79 rfl ls st H Q
theorem r104_82 : sw_A 104 82 ls st H Q = (sw_A 104 84 ls (.int (Int32.ofInt 37) :: st) H Q) := sw_A_step (cc := cX2_partAll) rfl dX2_partAll_82 rfl ls st H Q
theorem r104_84 : sw_A 104 84 ls st H Q = (sw_A 104 86 ls (.int (Int32.ofInt 37) :: st) H Q) := sw_A_step (cc := cX2_partAll) rfl dX2_partAll_84 rfl ls st H Q
theorem r104_86 : sw_A 104 86 ls st H Q = (sw_rix False st fun a i x r => sw_ast False H 0 a i x fun H1 => sw_A 104 87 ls r H1 Q) := sw_A_step (cc := cX2_partAll) rfl dX2_partAll_86 rfl ls st H Q
theorem r104_87 : sw_A 104 87 ls st H Q = (match st with | [] => Q (some none) H | _ => False) := sw_A_step (cc := cX2_partAll) rfl dX2_partAll_87 rfl ls st H Q
theorem r105_0 : sw_A 105 0 ls st H Q = (sw_A 105 1 ls (.int (Int32.ofInt 0) :: st) H Q) := sw_A_step (cc := cX11_clear) rfl dX11_clear_0 rfl ls st H Q
theorem r105_1 : sw_A 105 1 ls st H Q = (sw_has1 False ls 1 (sw_i1 False st fun x r => sw_A 105 2 (sw_set1 ls 1 (.int x)) r H Q)) := sw_A_step (cc := cX11_clear) rfl dX11_clear_1 rfl ls st H Q
theorem r105_2 : sw_A 105 2 ls st H Q = (sw_ldi False ls 1 fun x => sw_A 105 3 ls (.int x :: st) H Q) := sw_A_step (cc := cX11_clear) rfl dX11_clear_2 rfl ls st H Q
theorem r105_3 : sw_A 105 3 ls st H Q = (sw_lda False ls 0 fun x => sw_A 105 4 ls (.ref x :: st) H Q) := sw_A_step (cc := cX11_clear) rfl dX11_clear_3 rfl ls st H Q
theorem r105_4 : sw_A 105 4 ls st H Q = (sw_r1 False st fun a r => sw_aln False H a fun x => sw_A 105 5 ls (.int x :: r) H Q) := sw_A_step (cc := cX11_clear) rfl dX11_clear_4 rfl ls st H Q
theorem r105_5 : sw_A 105 5 ls st H Q = (sw_i2 False st fun x y r => if y ≤ x then sw_A 105 18 ls r H Q else sw_A 105 8 ls r H Q) := sw_A_step (cc := cX11_clear) rfl dX11_clear_5 rfl ls st H Q
theorem r105_8 : sw_A 105 8 ls st H Q = (sw_lda False ls 0 fun x => sw_A 105 9 ls (.ref x :: st) H Q) := sw_A_step (cc := cX11_clear) rfl dX11_clear_8 rfl ls st H Q
theorem r105_9 : sw_A 105 9 ls st H Q = (sw_ldi False ls 1 fun x => sw_A 105 10 ls (.int x :: st) H Q) := sw_A_step (cc := cX11_clear) rfl dX11_clear_9 rfl ls st H Q
theorem r105_10 : sw_A 105 10 ls st H Q = (sw_A 105 11 ls (.int (Int32.ofInt 0) :: st) H Q) := sw_A_step (cc := cX11_clear) rfl dX11_clear_10 rfl ls st H Q
theorem r105_11 : sw_A 105 11 ls st H Q = (sw_rix False st fun a i x r => sw_ast False H 1 a i (x &&& 1) fun H1 => sw_A 105 12 ls r H1 Q) := sw_A_step (cc := cX11_clear) rfl dX11_clear_11 rfl ls st H Q
theorem r105_12 : sw_A 105 12 ls st H Q = (sw_ldi False ls 1 fun x => sw_A 105 15 (sw_set1 ls 1 (.int (x + Int32.ofInt 1))) st H Q) := sw_A_step (cc := cX11_clear) rfl dX11_clear_12 rfl ls st H Q
theorem r105_15 : sw_A 105 15 ls st H Q = (sw_A 105 2 ls st H Q) := sw_A_step (cc := cX11_clear) rfl dX11_clear_15 rfl ls st H Q
theorem r105_18 : sw_A 105 18 ls st H Q = (match st with | [] => Q (some none) H | _ => False) := sw_A_step (cc := cX11_clear) rfl dX11_clear_18 rfl ls st H Q
theorem r106_0 : sw_A 106 0 ls st H Q = (sw_ldi False ls 1 fun x => sw_A 106 1 ls (.int x :: st) H Q) := sw_A_step (cc := cX8_enoughFor) rfl dX8_enoughFor_0 rfl ls st H Q
theorem r106_1 : sw_A 106 1 ls st H Q = (sw_i1 False st fun x r => if ¬ x = 0 then sw_A 106 11 ls r H Q else sw_A 106 4 ls r H Q) := sw_A_step (cc := cX8_enoughFor) rfl dX8_enoughFor_1 rfl ls st H Q
theorem r106_4 : sw_A 106 4 ls st H Q = (sw_lda False ls 0 fun x => sw_A 106 5 ls (.ref x :: st) H Q) := sw_A_step (cc := cX8_enoughFor) rfl dX8_enoughFor_4 rfl ls st H Q
theorem r106_5 : sw_A 106 5 ls st H Q = (sw_r1 False st fun a r => sw_gf False H (some (8, 0, 1)) a fun v => sw_A 106 8 ls (v :: r) H Q) := sw_A_step (cc := cX8_enoughFor) rfl dX8_enoughFor_5 rfl ls st H Q
theorem r106_8 : sw_A 106 8 ls st H Q = (sw_ldi False ls 2 fun x => sw_A 106 9 ls (.int x :: st) H Q) := sw_A_step (cc := cX8_enoughFor) rfl dX8_enoughFor_8 rfl ls st H Q
theorem r106_9 : sw_A 106 9 ls st H Q = (sw_ri False st fun a i r => sw_ald False H 0 a i fun x => sw_A 106 10 ls (.int x :: r) H Q) := sw_A_step (cc := cX8_enoughFor) rfl dX8_enoughFor_9 rfl ls st H Q
theorem r106_10 : sw_A 106 10 ls st H Q = (match st with | [.int x] => Q (some (some (.int x))) H | _ => False) := sw_A_step (cc := cX8_enoughFor) rfl dX8_enoughFor_10 rfl ls st H Q
theorem r106_11 : sw_A 106 11 ls st H Q = (sw_lda False ls 0 fun x => sw_A 106 12 ls (.ref x :: st) H Q) := sw_A_step (cc := cX8_enoughFor) rfl dX8_enoughFor_11 rfl ls st H Q
theorem r106_12 : sw_A 106 12 ls st H Q = (sw_r1 False st fun a r => sw_gf False H (some (8, 1, 1)) a fun v => sw_A 106 15 ls (v :: r) H Q) := sw_A_step (cc := cX8_enoughFor) rfl dX8_enoughFor_12 rfl ls st H Q
theorem r106_15 : sw_A 106 15 ls st H Q = (sw_ldi False ls 2 fun x => sw_A 106 16 ls (.int x :: st) H Q) := sw_A_step (cc := cX8_enoughFor) rfl dX8_enoughFor_15 rfl ls st H Q
theorem r106_16 : sw_A 106 16 ls st H Q = (sw_pop False 1 st [] fun args r => sw_ck False r (sw_M 86 args H (sw_K 106 19 none ls r Q))) := sw_A_step (cc := cX8_enoughFor) rfl dX8_enoughFor_16 rfl ls st H Q
theorem r106_19 : sw_A 106 19 ls st H Q = (sw_ri False st fun a i r => sw_ald False H 0 a i fun x => sw_A 106 20 ls (.int x :: r) H Q) := sw_A_step (cc := cX8_enoughFor) rfl dX8_enoughFor_19 rfl ls st H Q
theorem r106_20 : sw_A 106 20 ls st H Q = (sw_lda False ls 0 fun x => sw_A 106 21 ls (.ref x :: st) H Q) := sw_A_step (cc := cX8_enoughFor) rfl dX8_enoughFor_20 rfl ls st H Q
theorem r106_21 : sw_A 106 21 ls st H Q = (sw_r1 False st fun a r => sw_gf False H (some (8, 1, 1)) a fun v => sw_A 106 24 ls (v :: r) H Q) := sw_A_step (cc := cX8_enoughFor) rfl dX8_enoughFor_21 rfl ls st H Q
theorem r106_24 : sw_A 106 24 ls st H Q = (sw_ldi False ls 2 fun x => sw_A 106 25 ls (.int x :: st) H Q) := sw_A_step (cc := cX8_enoughFor) rfl dX8_enoughFor_24 rfl ls st H Q
theorem r106_25 : sw_A 106 25 ls st H Q = (sw_pop False 1 st [] fun args r => sw_ck False r (sw_M 87 args H (sw_K 106 28 none ls r Q))) := sw_A_step (cc := cX8_enoughFor) rfl dX8_enoughFor_25 rfl ls st H Q
theorem r106_28 : sw_A 106 28 ls st H Q = (sw_ri False st fun a i r => sw_ald False H 0 a i fun x => sw_A 106 29 ls (.int x :: r) H Q) := sw_A_step (cc := cX8_enoughFor) rfl dX8_enoughFor_28 rfl ls st H Q
theorem r106_29 : sw_A 106 29 ls st H Q = (sw_pop False 2 st [] fun args r => sw_ck False r (sw_M 67 args H (sw_K 106 32 none ls r Q))) := sw_A_step (cc := cX8_enoughFor) rfl dX8_enoughFor_29 rfl ls st H Q
theorem r106_32 : sw_A 106 32 ls st H Q = (sw_has1 False ls 3 (sw_i1 False st fun x r => sw_A 106 33 (sw_set1 ls 3 (.int x)) r H Q)) := sw_A_step (cc := cX8_enoughFor) rfl dX8_enoughFor_32 rfl ls st H Q
theorem r106_33 : sw_A 106 33 ls st H Q = (sw_ldi False ls 1 fun x => sw_A 106 34 ls (.int x :: st) H Q) := sw_A_step (cc := cX8_enoughFor) rfl dX8_enoughFor_33 rfl ls st H Q
theorem r106_34 : sw_A 106 34 ls st H Q = (sw_A 106 35 ls (.int (Int32.ofInt 1) :: st) H Q) := sw_A_step (cc := cX8_enoughFor) rfl dX8_enoughFor_34 rfl ls st H Q
theorem r106_35 : sw_A 106 35 ls st H Q = (sw_i2 False st fun x y r => if ¬ x = y then sw_A 106 42 ls r H Q else sw_A 106 38 ls r H Q) := sw_A_step (cc := cX8_enoughFor) rfl dX8_enoughFor_35 rfl ls st H Q
theorem r106_38 : sw_A 106 38 ls st H Q = (sw_ldi False ls 3 fun x => sw_A 106 39 ls (.int x :: st) H Q) := sw_A_step (cc := cX8_enoughFor) rfl dX8_enoughFor_38 rfl ls st H Q
theorem r106_39 : sw_A 106 39 ls st H Q = (sw_A 106 52 ls st H Q) := sw_A_step (cc := cX8_enoughFor) rfl dX8_enoughFor_39 rfl ls st H Q
theorem r106_42 : sw_A 106 42 ls st H Q = (sw_lda False ls 0 fun x => sw_A 106 43 ls (.ref x :: st) H Q) := sw_A_step (cc := cX8_enoughFor) rfl dX8_enoughFor_42 rfl ls st H Q
theorem r106_43 : sw_A 106 43 ls st H Q = (sw_r1 False st fun a r => sw_gf False H (some (8, 0, 1)) a fun v => sw_A 106 46 ls (v :: r) H Q) := sw_A_step (cc := cX8_enoughFor) rfl dX8_enoughFor_43 rfl ls st H Q
theorem r106_46 : sw_A 106 46 ls st H Q = (sw_ldi False ls 2 fun x => sw_A 106 47 ls (.int x :: st) H Q) := sw_A_step (cc := cX8_enoughFor) rfl dX8_enoughFor_46 rfl ls st H Q
theorem r106_47 : sw_A 106 47 ls st H Q = (sw_ri False st fun a i r => sw_ald False H 0 a i fun x => sw_A 106 48 ls (.int x :: r) H Q) := sw_A_step (cc := cX8_enoughFor) rfl dX8_enoughFor_47 rfl ls st H Q
theorem r106_48 : sw_A 106 48 ls st H Q = (sw_ldi False ls 3 fun x => sw_A 106 49 ls (.int x :: st) H Q) := sw_A_step (cc := cX8_enoughFor) rfl dX8_enoughFor_48 rfl ls st H Q
theorem r106_49 : sw_A 106 49 ls st H Q = (sw_pop False 2 st [] fun args r => sw_ck False r (sw_M 67 args H (sw_K 106 52 none ls r Q))) := sw_A_step (cc := cX8_enoughFor) rfl dX8_enoughFor_49 rfl ls st H Q
theorem r106_52 : sw_A 106 52 ls st H Q = (match st with | [.int x] => Q (some (some (.int x))) H | _ => False) := sw_A_step (cc := cX8_enoughFor) rfl dX8_enoughFor_52 rfl ls st H Q
theorem r107_0 : sw_A 107 0 ls st H Q = (sw_A 107 1 ls (.int (Int32.ofInt (-1)) :: st) H Q) := sw_A_step (cc := cX2_nextToOpen) rfl dX2_nextToOpen_0 rfl ls st H Q
theorem r107_1 : sw_A 107 1 ls st H Q = (sw_has1 False ls 4 (sw_i1 False st fun x r => sw_A 107 3 (sw_set1 ls 4 (.int x)) r H Q)) := sw_A_step (cc := cX2_nextToOpen) rfl dX2_nextToOpen_1 rfl ls st H Q
theorem r107_3 : sw_A 107 3 ls st H Q = (sw_A 107 6 ls (.int (Int32.ofInt 1000) :: st) H Q) := sw_A_step (cc := cX2_nextToOpen) rfl dX2_nextToOpen_3 rfl ls st H Q
theorem r107_6 : sw_A 107 6 ls st H Q = (sw_has1 False ls 5 (sw_i1 False st fun x r => sw_A 107 8 (sw_set1 ls 5 (.int x)) r H Q)) := sw_A_step (cc := cX2_nextToOpen) rfl dX2_nextToOpen_6 rfl ls st H Q
theorem r107_8 : sw_A 107 8 ls st H Q = (sw_A 107 9 ls (.int (Int32.ofInt 0) :: st) H Q) := sw_A_step (cc := cX2_nextToOpen) rfl dX2_nextToOpen_8 rfl ls st H Q
theorem r107_9 : sw_A 107 9 ls st H Q = (sw_has1 False ls 6 (sw_i1 False st fun x r => sw_A 107 11 (sw_set1 ls 6 (.int x)) r H Q)) := sw_A_step (cc := cX2_nextToOpen) rfl dX2_nextToOpen_9 rfl ls st H Q
theorem r107_11 : sw_A 107 11 ls st H Q = (sw_ldi False ls 6 fun x => sw_A 107 13 ls (.int x :: st) H Q) := sw_A_step (cc := cX2_nextToOpen) rfl dX2_nextToOpen_11 rfl ls st H Q
theorem r107_13 : sw_A 107 13 ls st H Q = (sw_A 107 15 ls (.int (Int32.ofInt 60) :: st) H Q) := sw_A_step (cc := cX2_nextToOpen) rfl dX2_nextToOpen_13 rfl ls st H Q
theorem r107_15 : sw_A 107 15 ls st H Q = (sw_i2 False st fun x y r => if y ≤ x then sw_A 107 90 ls r H Q else sw_A 107 18 ls r H Q) := sw_A_step (cc := cX2_nextToOpen) rfl dX2_nextToOpen_15 rfl ls st H Q
theorem r107_18 : sw_A 107 18 ls st H Q = (sw_lda False ls 0 fun x => sw_A 107 19 ls (.ref x :: st) H Q) := sw_A_step (cc := cX2_nextToOpen) rfl dX2_nextToOpen_18 rfl ls st H Q
theorem r107_19 : sw_A 107 19 ls st H Q = (sw_r1 False st fun a r => sw_gf False H (some (2, 1, 1)) a fun v => sw_A 107 22 ls (v :: r) H Q) := sw_A_step (cc := cX2_nextToOpen) rfl dX2_nextToOpen_19 rfl ls st H Q
theorem r107_22 : sw_A 107 22 ls st H Q = (sw_ldi False ls 6 fun x => sw_A 107 24 ls (.int x :: st) H Q) := sw_A_step (cc := cX2_nextToOpen) rfl dX2_nextToOpen_22 rfl ls st H Q
theorem r107_24 : sw_A 107 24 ls st H Q = (sw_ri False st fun a i r => sw_ald False H 1 a i fun x => sw_A 107 25 ls (.int x :: r) H Q) := sw_A_step (cc := cX2_nextToOpen) rfl dX2_nextToOpen_24 rfl ls st H Q
theorem r107_25 : sw_A 107 25 ls st H Q = (sw_i1 False st fun x r => if ¬ x = 0 then sw_A 107 52 ls r H Q else sw_A 107 28 ls r H Q) := sw_A_step (cc := cX2_nextToOpen) rfl dX2_nextToOpen_25 rfl ls st H Q
theorem r107_28 : sw_A 107 28 ls st H Q = (sw_lda False ls 2 fun x => sw_A 107 29 ls (.ref x :: st) H Q) := sw_A_step (cc := cX2_nextToOpen) rfl dX2_nextToOpen_28 rfl ls st H Q
theorem r107_29 : sw_A 107 29 ls st H Q = (sw_ldi False ls 6 fun x => sw_A 107 31 ls (.int x :: st) H Q) := sw_A_step (cc := cX2_nextToOpen) rfl dX2_nextToOpen_29 rfl ls st H Q
theorem r107_31 : sw_A 107 31 ls st H Q = (sw_pop False 1 st [] fun args r => sw_ck False r (sw_M 86 args H (sw_K 107 34 none ls r Q))) := sw_A_step (cc := cX2_nextToOpen) rfl dX2_nextToOpen_31 rfl ls st H Q
theorem r107_34 : sw_A 107 34 ls st H Q = (sw_ri False st fun a i r => sw_ald False H 1 a i fun x => sw_A 107 35 ls (.int x :: r) H Q) := sw_A_step (cc := cX2_nextToOpen) rfl dX2_nextToOpen_34 rfl ls st H Q
theorem r107_35 : sw_A 107 35 ls st H Q = (sw_i1 False st fun x r => if ¬ x = 0 then sw_A 107 52 ls r H Q else sw_A 107 38 ls r H Q) := sw_A_step (cc := cX2_nextToOpen) rfl dX2_nextToOpen_35 rfl ls st H Q
theorem r107_38 : sw_A 107 38 ls st H Q = (sw_lda False ls 2 fun x => sw_A 107 39 ls (.ref x :: st) H Q) := sw_A_step (cc := cX2_nextToOpen) rfl dX2_nextToOpen_38 rfl ls st H Q
theorem r107_39 : sw_A 107 39 ls st H Q = (sw_ldi False ls 6 fun x => sw_A 107 41 ls (.int x :: st) H Q) := sw_A_step (cc := cX2_nextToOpen) rfl dX2_nextToOpen_39 rfl ls st H Q
theorem r107_41 : sw_A 107 41 ls st H Q = (sw_pop False 1 st [] fun args r => sw_ck False r (sw_M 87 args H (sw_K 107 44 none ls r Q))) := sw_A_step (cc := cX2_nextToOpen) rfl dX2_nextToOpen_41 rfl ls st H Q
theorem r107_44 : sw_A 107 44 ls st H Q = (sw_ri False st fun a i r => sw_ald False H 1 a i fun x => sw_A 107 45 ls (.int x :: r) H Q) := sw_A_step (cc := cX2_nextToOpen) rfl dX2_nextToOpen_44 rfl ls st H Q
theorem r107_45 : sw_A 107 45 ls st H Q = (sw_i1 False st fun x r => if ¬ x = 0 then sw_A 107 52 ls r H Q else sw_A 107 48 ls r H Q) := sw_A_step (cc := cX2_nextToOpen) rfl dX2_nextToOpen_45 rfl ls st H Q
theorem r107_48 : sw_A 107 48 ls st H Q = (sw_A 107 49 ls (.int (Int32.ofInt 1) :: st) H Q) := sw_A_step (cc := cX2_nextToOpen) rfl dX2_nextToOpen_48 rfl ls st H Q
theorem r107_49 : sw_A 107 49 ls st H Q = (sw_A 107 53 ls st H Q) := sw_A_step (cc := cX2_nextToOpen) rfl dX2_nextToOpen_49 rfl ls st H Q
theorem r107_52 : sw_A 107 52 ls st H Q = (sw_A 107 53 ls (.int (Int32.ofInt 0) :: st) H Q) := sw_A_step (cc := cX2_nextToOpen) rfl dX2_nextToOpen_52 rfl ls st H Q
theorem r107_53 : sw_A 107 53 ls st H Q = (sw_has1 False ls 7 (sw_i1 False st fun x r => sw_A 107 55 (sw_set1 ls 7 (.int x)) r H Q)) := sw_A_step (cc := cX2_nextToOpen) rfl dX2_nextToOpen_53 rfl ls st H Q
theorem r107_55 : sw_A 107 55 ls st H Q = (sw_lda False ls 1 fun x => sw_A 107 56 ls (.ref x :: st) H Q) := sw_A_step (cc := cX2_nextToOpen) rfl dX2_nextToOpen_55 rfl ls st H Q
theorem r107_56 : sw_A 107 56 ls st H Q = (sw_ldi False ls 3 fun x => sw_A 107 57 ls (.int x :: st) H Q) := sw_A_step (cc := cX2_nextToOpen) rfl dX2_nextToOpen_56 rfl ls st H Q
theorem r107_57 : sw_A 107 57 ls st H Q = (sw_ldi False ls 6 fun x => sw_A 107 59 ls (.int x :: st) H Q) := sw_A_step (cc := cX2_nextToOpen) rfl dX2_nextToOpen_57 rfl ls st H Q
theorem r107_59 : sw_A 107 59 ls st H Q = (sw_pop False 3 st [] fun args r => sw_ck False r (sw_rc False H (some 8) args (sw_M 106 args H (sw_K 107 62 none ls r Q)))) := sw_A_step (cc := cX2_nextToOpen) rfl dX2_nextToOpen_59 rfl ls st H Q
theorem r107_62 : sw_A 107 62 ls st H Q = (sw_has1 False ls 8 (sw_i1 False st fun x r => sw_A 107 64 (sw_set1 ls 8 (.int x)) r H Q)) := sw_A_step (cc := cX2_nextToOpen) rfl dX2_nextToOpen_62 rfl ls st H Q
theorem r107_64 : sw_A 107 64 ls st H Q = (sw_ldi False ls 7 fun x => sw_A 107 66 ls (.int x :: st) H Q) := sw_A_step (cc := cX2_nextToOpen) rfl dX2_nextToOpen_64 rfl ls st H Q
theorem r107_66 : sw_A 107 66 ls st H Q = (sw_i1 False st fun x r => if x = 0 then sw_A 107 84 ls r H Q else sw_A 107 69 ls r H Q) := sw_A_step (cc := cX2_nextToOpen) rfl dX2_nextToOpen_66 rfl ls st H Q
theorem r107_69 : sw_A 107 69 ls st H Q = (sw_ldi False ls 8 fun x => sw_A 107 71 ls (.int x :: st) H Q) := sw_A_step (cc := cX2_nextToOpen) rfl dX2_nextToOpen_69 rfl ls st H Q
theorem r107_71 : sw_A 107 71 ls st H Q = (sw_ldi False ls 5 fun x => sw_A 107 73 ls (.int x :: st) H Q) := sw_A_step (cc := cX2_nextToOpen) rfl dX2_nextToOpen_71 rfl ls st H Q
theorem r107_73 : sw_A 107 73 ls st H Q = (sw_i2 False st fun x y r => if y ≤ x then sw_A 107 84 ls r H Q else sw_A 107 76 ls r H Q) := sw_A_step (cc := cX2_nextToOpen) rfl dX2_nextToOpen_73 rfl ls st H Q
theorem r107_76 : sw_A 107 76 ls st H Q = (sw_ldi False ls 8 fun x => sw_A 107 78 ls (.int x :: st) H Q) := sw_A_step (cc := cX2_nextToOpen) rfl dX2_nextToOpen_76 rfl ls st H Q
theorem r107_78 : sw_A 107 78 ls st H Q = (sw_has1 False ls 5 (sw_i1 False st fun x r => sw_A 107 80 (sw_set1 ls 5 (.int x)) r H Q)) := sw_A_step (cc := cX2_nextToOpen) rfl dX2_nextToOpen_78 rfl ls st H Q
theorem r107_80 : sw_A 107 80 ls st H Q = (sw_ldi False ls 6 fun x => sw_A 107 82 ls (.int x :: st) H Q) := sw_A_step (cc := cX2_nextToOpen) rfl dX2_nextToOpen_80 rfl ls st H Q
theorem r107_82 : sw_A 107 82 ls st H Q = (sw_has1 False ls 4 (sw_i1 False st fun x r => sw_A 107 84 (sw_set1 ls 4 (.int x)) r H Q)) := sw_A_step (cc := cX2_nextToOpen) rfl dX2_nextToOpen_82 rfl ls st H Q
theorem r107_84 : sw_A 107 84 ls st H Q = (sw_ldi False ls 6 fun x => sw_A 107 87 (sw_set1 ls 6 (.int (x + Int32.ofInt 1))) st H Q) := sw_A_step (cc := cX2_nextToOpen) rfl dX2_nextToOpen_84 rfl ls st H Q
theorem r107_87 : sw_A 107 87 ls st H Q = (sw_A 107 11 ls st H Q) := sw_A_step (cc := cX2_nextToOpen) rfl dX2_nextToOpen_87 rfl ls st H Q
theorem r107_90 : sw_A 107 90 ls st H Q = (sw_ldi False ls 4 fun x => sw_A 107 92 ls (.int x :: st) H Q) := sw_A_step (cc := cX2_nextToOpen) rfl dX2_nextToOpen_90 rfl ls st H Q
theorem r107_92 : sw_A 107 92 ls st H Q = (match st with | [.int x] => Q (some (some (.int x))) H | _ => False) := sw_A_step (cc := cX2_nextToOpen) rfl dX2_nextToOpen_92 rfl ls st H Q
theorem r108_0 : sw_A 108 0 ls st H Q = (sw_ldi False ls 1 fun x => sw_A 108 1 ls (.int x :: st) H Q) := sw_A_step (cc := cX2_rootOf) rfl dX2_rootOf_0 rfl ls st H Q
theorem r108_1 : sw_A 108 1 ls st H Q = (sw_has1 False ls 2 (sw_i1 False st fun x r => sw_A 108 2 (sw_set1 ls 2 (.int x)) r H Q)) := sw_A_step (cc := cX2_rootOf) rfl dX2_rootOf_1 rfl ls st H Q
theorem r108_2 : sw_A 108 2 ls st H Q = (sw_A 108 3 ls (.int (Int32.ofInt 0) :: st) H Q) := sw_A_step (cc := cX2_rootOf) rfl dX2_rootOf_2 rfl ls st H Q
theorem r108_3 : sw_A 108 3 ls st H Q = (sw_has1 False ls 3 (sw_i1 False st fun x r => sw_A 108 4 (sw_set1 ls 3 (.int x)) r H Q)) := sw_A_step (cc := cX2_rootOf) rfl dX2_rootOf_3 rfl ls st H Q
theorem r108_4 : sw_A 108 4 ls st H Q = (sw_ldi False ls 3 fun x => sw_A 108 5 ls (.int x :: st) H Q) := sw_A_step (cc := cX2_rootOf) rfl dX2_rootOf_4 rfl ls st H Q
theorem r108_5 : sw_A 108 5 ls st H Q = (sw_lda False ls 0 fun x => sw_A 108 6 ls (.ref x :: st) H Q) := sw_A_step (cc := cX2_rootOf) rfl dX2_rootOf_5 rfl ls st H Q
theorem r108_6 : sw_A 108 6 ls st H Q = (sw_r1 False st fun a r => sw_gf False H (some (2, 0, 1)) a fun v => sw_A 108 9 ls (v :: r) H Q) := sw_A_step (cc := cX2_rootOf) rfl dX2_rootOf_6 rfl ls st H Q
theorem r108_9 : sw_A 108 9 ls st H Q = (sw_r1 False st fun a r => sw_aln False H a fun x => sw_A 108 10 ls (.int x :: r) H Q) := sw_A_step (cc := cX2_rootOf) rfl dX2_rootOf_9 rfl ls st H Q
theorem r108_10 : sw_A 108 10 ls st H Q = (sw_i2 False st fun x y r => if y ≤ x then sw_A 108 36 ls r H Q else sw_A 108 13 ls r H Q) := sw_A_step (cc := cX2_rootOf) rfl dX2_rootOf_10 rfl ls st H Q
theorem r108_13 : sw_A 108 13 ls st H Q = (sw_lda False ls 0 fun x => sw_A 108 14 ls (.ref x :: st) H Q) := sw_A_step (cc := cX2_rootOf) rfl dX2_rootOf_13 rfl ls st H Q
theorem r108_14 : sw_A 108 14 ls st H Q = (sw_r1 False st fun a r => sw_gf False H (some (2, 0, 1)) a fun v => sw_A 108 17 ls (v :: r) H Q) := sw_A_step (cc := cX2_rootOf) rfl dX2_rootOf_14 rfl ls st H Q
theorem r108_17 : sw_A 108 17 ls st H Q = (sw_ldi False ls 2 fun x => sw_A 108 18 ls (.int x :: st) H Q) := sw_A_step (cc := cX2_rootOf) rfl dX2_rootOf_17 rfl ls st H Q
theorem r108_18 : sw_A 108 18 ls st H Q = (sw_ri False st fun a i r => sw_ald False H 0 a i fun x => sw_A 108 19 ls (.int x :: r) H Q) := sw_A_step (cc := cX2_rootOf) rfl dX2_rootOf_18 rfl ls st H Q
theorem r108_19 : sw_A 108 19 ls st H Q = (sw_ldi False ls 2 fun x => sw_A 108 20 ls (.int x :: st) H Q) := sw_A_step (cc := cX2_rootOf) rfl dX2_rootOf_19 rfl ls st H Q
theorem r108_20 : sw_A 108 20 ls st H Q = (sw_i2 False st fun x y r => if x = y then sw_A 108 36 ls r H Q else sw_A 108 23 ls r H Q) := sw_A_step (cc := cX2_rootOf) rfl dX2_rootOf_20 rfl ls st H Q
theorem r108_23 : sw_A 108 23 ls st H Q = (sw_lda False ls 0 fun x => sw_A 108 24 ls (.ref x :: st) H Q) := sw_A_step (cc := cX2_rootOf) rfl dX2_rootOf_23 rfl ls st H Q
theorem r108_24 : sw_A 108 24 ls st H Q = (sw_r1 False st fun a r => sw_gf False H (some (2, 0, 1)) a fun v => sw_A 108 27 ls (v :: r) H Q) := sw_A_step (cc := cX2_rootOf) rfl dX2_rootOf_24 rfl ls st H Q
theorem r108_27 : sw_A 108 27 ls st H Q = (sw_ldi False ls 2 fun x => sw_A 108 28 ls (.int x :: st) H Q) := sw_A_step (cc := cX2_rootOf) rfl dX2_rootOf_27 rfl ls st H Q
theorem r108_28 : sw_A 108 28 ls st H Q = (sw_ri False st fun a i r => sw_ald False H 0 a i fun x => sw_A 108 29 ls (.int x :: r) H Q) := sw_A_step (cc := cX2_rootOf) rfl dX2_rootOf_28 rfl ls st H Q
theorem r108_29 : sw_A 108 29 ls st H Q = (sw_has1 False ls 2 (sw_i1 False st fun x r => sw_A 108 30 (sw_set1 ls 2 (.int x)) r H Q)) := sw_A_step (cc := cX2_rootOf) rfl dX2_rootOf_29 rfl ls st H Q
theorem r108_30 : sw_A 108 30 ls st H Q = (sw_ldi False ls 3 fun x => sw_A 108 33 (sw_set1 ls 3 (.int (x + Int32.ofInt 1))) st H Q) := sw_A_step (cc := cX2_rootOf) rfl dX2_rootOf_30 rfl ls st H Q
theorem r108_33 : sw_A 108 33 ls st H Q = (sw_A 108 4 ls st H Q) := sw_A_step (cc := cX2_rootOf) rfl dX2_rootOf_33 rfl ls st H Q
theorem r108_36 : sw_A 108 36 ls st H Q = (sw_ldi False ls 2 fun x => sw_A 108 37 ls (.int x :: st) H Q) := sw_A_step (cc := cX2_rootOf) rfl dX2_rootOf_36 rfl ls st H Q
theorem r108_37 : sw_A 108 37 ls st H Q = (match st with | [.int x] => Q (some (some (.int x))) H | _ => False) := sw_A_step (cc := cX2_rootOf) rfl dX2_rootOf_37 rfl ls st H Q
theorem r109_0 : sw_A 109 0 ls st H Q = (sw_lda False ls 0 fun x => sw_A 109 1 ls (.ref x :: st) H Q) := sw_A_step (cc := cX2_byOpening) rfl dX2_byOpening_0 rfl ls st H Q
theorem r109_1 : sw_A 109 1 ls st H Q = (sw_ldi False ls 4 fun x => sw_A 109 3 ls (.int x :: st) H Q) := sw_A_step (cc := cX2_byOpening) rfl dX2_byOpening_1 rfl ls st H Q
theorem r109_3 : sw_A 109 3 ls st H Q = (sw_pop False 2 st [] fun args r => sw_ck False r (sw_rc False H (some 2) args (sw_M 104 args H (sw_K 109 6 none ls r Q)))) := sw_A_step (cc := cX2_byOpening) rfl dX2_byOpening_3 rfl ls st H Q
theorem r109_6 : sw_A 109 6 ls st H Q = (sw_lda False ls 0 fun x => sw_A 109 7 ls (.ref x :: st) H Q) := sw_A_step (cc := cX2_byOpening) rfl dX2_byOpening_6 rfl ls st H Q
theorem r109_7 : sw_A 109 7 ls st H Q = (sw_r1 False st fun a r => sw_gf False H (some (2, 1, 1)) a fun v => sw_A 109 10 ls (v :: r) H Q) := sw_A_step (cc := cX2_byOpening) rfl dX2_byOpening_7 rfl ls st H Q
theorem r109_10 : sw_A 109 10 ls st H Q = (sw_pop False 1 st [] fun args r => sw_ck False r (sw_M 105 args H (sw_K 109 13 none ls r Q))) := sw_A_step (cc := cX2_byOpening) rfl dX2_byOpening_10 rfl ls st H Q
theorem r109_13 : sw_A 109 13 ls st H Q = (sw_A 109 14 ls (.int (Int32.ofInt 0) :: st) H Q) := sw_A_step (cc := cX2_byOpening) rfl dX2_byOpening_13 rfl ls st H Q
theorem r109_14 : sw_A 109 14 ls st H Q = (sw_has1 False ls 5 (sw_i1 False st fun x r => sw_A 109 16 (sw_set1 ls 5 (.int x)) r H Q)) := sw_A_step (cc := cX2_byOpening) rfl dX2_byOpening_14 rfl ls st H Q
theorem r109_16 : sw_A 109 16 ls st H Q = (sw_ldi False ls 5 fun x => sw_A 109 18 ls (.int x :: st) H Q) := sw_A_step (cc := cX2_byOpening) rfl dX2_byOpening_16 rfl ls st H Q
theorem r109_18 : sw_A 109 18 ls st H Q = (sw_A 109 20 ls (.int (Int32.ofInt 60) :: st) H Q) := sw_A_step (cc := cX2_byOpening) rfl dX2_byOpening_18 rfl ls st H Q
theorem r109_20 : sw_A 109 20 ls st H Q = (sw_i2 False st fun x y r => if y ≤ x then sw_A 109 103 ls r H Q else sw_A 109 23 ls r H Q) := sw_A_step (cc := cX2_byOpening) rfl dX2_byOpening_20 rfl ls st H Q
theorem r109_23 : sw_A 109 23 ls st H Q = (sw_lda False ls 0 fun x => sw_A 109 24 ls (.ref x :: st) H Q) := sw_A_step (cc := cX2_byOpening) rfl dX2_byOpening_23 rfl ls st H Q
theorem r109_24 : sw_A 109 24 ls st H Q = (sw_lda False ls 1 fun x => sw_A 109 25 ls (.ref x :: st) H Q) := sw_A_step (cc := cX2_byOpening) rfl dX2_byOpening_24 rfl ls st H Q
theorem r109_25 : sw_A 109 25 ls st H Q = (sw_lda False ls 2 fun x => sw_A 109 26 ls (.ref x :: st) H Q) := sw_A_step (cc := cX2_byOpening) rfl dX2_byOpening_25 rfl ls st H Q
theorem r109_26 : sw_A 109 26 ls st H Q = (sw_ldi False ls 3 fun x => sw_A 109 27 ls (.int x :: st) H Q) := sw_A_step (cc := cX2_byOpening) rfl dX2_byOpening_26 rfl ls st H Q
theorem r109_27 : sw_A 109 27 ls st H Q = (sw_pop False 4 st [] fun args r => sw_ck False r (sw_rc False H (some 2) args (sw_M 107 args H (sw_K 109 30 none ls r Q)))) := sw_A_step (cc := cX2_byOpening) rfl dX2_byOpening_27 rfl ls st H Q
theorem r109_30 : sw_A 109 30 ls st H Q = (sw_has1 False ls 6 (sw_i1 False st fun x r => sw_A 109 32 (sw_set1 ls 6 (.int x)) r H Q)) := sw_A_step (cc := cX2_byOpening) rfl dX2_byOpening_30 rfl ls st H Q
theorem r109_32 : sw_A 109 32 ls st H Q = (sw_ldi False ls 6 fun x => sw_A 109 34 ls (.int x :: st) H Q) := sw_A_step (cc := cX2_byOpening) rfl dX2_byOpening_32 rfl ls st H Q
theorem r109_34 : sw_A 109 34 ls st H Q = (sw_A 109 35 ls (.int (Int32.ofInt (-1)) :: st) H Q) := sw_A_step (cc := cX2_byOpening) rfl dX2_byOpening_34 rfl ls st H Q
theorem r109_35 : sw_A 109 35 ls st H Q = (sw_i2 False st fun x y r => if ¬ x = y then sw_A 109 41 ls r H Q else sw_A 109 38 ls r H Q) := sw_A_step (cc := cX2_byOpening) rfl dX2_byOpening_35 rfl ls st H Q
theorem r109_38 : sw_A 109 38 ls st H Q = (sw_A 109 103 ls st H Q) := sw_A_step (cc := cX2_byOpening) rfl dX2_byOpening_38 rfl ls st H Q
theorem r109_41 : sw_A 109 41 ls st H Q = (sw_lda False ls 0 fun x => sw_A 109 42 ls (.ref x :: st) H Q) := sw_A_step (cc := cX2_byOpening) rfl dX2_byOpening_41 rfl ls st H Q
theorem r109_42 : sw_A 109 42 ls st H Q = (sw_r1 False st fun a r => sw_gf False H (some (2, 1, 1)) a fun v => sw_A 109 45 ls (v :: r) H Q) := sw_A_step (cc := cX2_byOpening) rfl dX2_byOpening_42 rfl ls st H Q
theorem r109_45 : sw_A 109 45 ls st H Q = (sw_ldi False ls 6 fun x => sw_A 109 47 ls (.int x :: st) H Q) := sw_A_step (cc := cX2_byOpening) rfl dX2_byOpening_45 rfl ls st H Q
theorem r109_47 : sw_A 109 47 ls st H Q = (sw_A 109 48 ls (.int (Int32.ofInt 1) :: st) H Q) := sw_A_step (cc := cX2_byOpening) rfl dX2_byOpening_47 rfl ls st H Q
theorem r109_48 : sw_A 109 48 ls st H Q = (sw_rix False st fun a i x r => sw_ast False H 1 a i (x &&& 1) fun H1 => sw_A 109 49 ls r H1 Q) := sw_A_step (cc := cX2_byOpening) rfl dX2_byOpening_48 rfl ls st H Q
theorem r109_49 : sw_A 109 49 ls st H Q = (sw_lda False ls 0 fun x => sw_A 109 50 ls (.ref x :: st) H Q) := sw_A_step (cc := cX2_byOpening) rfl dX2_byOpening_49 rfl ls st H Q
theorem r109_50 : sw_A 109 50 ls st H Q = (sw_r1 False st fun a r => sw_gf False H (some (2, 0, 1)) a fun v => sw_A 109 53 ls (v :: r) H Q) := sw_A_step (cc := cX2_byOpening) rfl dX2_byOpening_50 rfl ls st H Q
theorem r109_53 : sw_A 109 53 ls st H Q = (sw_lda False ls 0 fun x => sw_A 109 54 ls (.ref x :: st) H Q) := sw_A_step (cc := cX2_byOpening) rfl dX2_byOpening_53 rfl ls st H Q
theorem r109_54 : sw_A 109 54 ls st H Q = (sw_ldi False ls 6 fun x => sw_A 109 56 ls (.int x :: st) H Q) := sw_A_step (cc := cX2_byOpening) rfl dX2_byOpening_54 rfl ls st H Q
theorem r109_56 : sw_A 109 56 ls st H Q = (sw_pop False 1 st [] fun args r => sw_ck False r (sw_M 86 args H (sw_K 109 59 none ls r Q))) := sw_A_step (cc := cX2_byOpening) rfl dX2_byOpening_56 rfl ls st H Q
theorem r109_59 : sw_A 109 59 ls st H Q = (sw_pop False 2 st [] fun args r => sw_ck False r (sw_rc False H (some 2) args (sw_M 108 args H (sw_K 109 62 none ls r Q)))) := sw_A_step (cc := cX2_byOpening) rfl dX2_byOpening_59 rfl ls st H Q
theorem r109_62 : sw_A 109 62 ls st H Q = (sw_lda False ls 0 fun x => sw_A 109 63 ls (.ref x :: st) H Q) := sw_A_step (cc := cX2_byOpening) rfl dX2_byOpening_62 rfl ls st H Q
theorem r109_63 : sw_A 109 63 ls st H Q = (sw_ldi False ls 6 fun x => sw_A 109 65 ls (.int x :: st) H Q) := sw_A_step (cc := cX2_byOpening) rfl dX2_byOpening_63 rfl ls st H Q
theorem r109_65 : sw_A 109 65 ls st H Q = (sw_pop False 1 st [] fun args r => sw_ck False r (sw_M 87 args H (sw_K 109 68 none ls r Q))) := sw_A_step (cc := cX2_byOpening) rfl dX2_byOpening_65 rfl ls st H Q
theorem r109_68 : sw_A 109 68 ls st H Q = (sw_pop False 2 st [] fun args r => sw_ck False r (sw_rc False H (some 2) args (sw_M 108 args H (sw_K 109 71 none ls r Q)))) := sw_A_step (cc := cX2_byOpening) rfl dX2_byOpening_68 rfl ls st H Q
theorem r109_71 : sw_A 109 71 ls st H Q = (sw_rix False st fun a i x r => sw_ast False H 0 a i x fun H1 => sw_A 109 72 ls r H1 Q) := sw_A_step (cc := cX2_byOpening) rfl dX2_byOpening_71 rfl ls st H Q
theorem r109_72 : sw_A 109 72 ls st H Q = (sw_lda False ls 0 fun x => sw_A 109 73 ls (.ref x :: st) H Q) := sw_A_step (cc := cX2_byOpening) rfl dX2_byOpening_72 rfl ls st H Q
theorem r109_73 : sw_A 109 73 ls st H Q = (sw_A 109 75 ls (.int (Int32.ofInt 36) :: st) H Q) := sw_A_step (cc := cX2_byOpening) rfl dX2_byOpening_73 rfl ls st H Q
theorem r109_75 : sw_A 109 75 ls st H Q = (sw_pop False 2 st [] fun args r => sw_ck False r (sw_rc False H (some 2) args (sw_M 108 args H (sw_K 109 78 none ls r Q)))) := sw_A_step (cc := cX2_byOpening) rfl dX2_byOpening_75 rfl ls st H Q
theorem r109_78 : sw_A 109 78 ls st H Q = (sw_lda False ls 0 fun x => sw_A 109 79 ls (.ref x :: st) H Q) := sw_A_step (cc := cX2_byOpening) rfl dX2_byOpening_78 rfl ls st H Q
theorem r109_79 : sw_A 109 79 ls st H Q = (sw_A 109 81 ls (.int (Int32.ofInt 37) :: st) H Q) := sw_A_step (cc := cX2_byOpening) rfl dX2_byOpening_79 rfl ls st H Q
theorem r109_81 : sw_A 109 81 ls st H Q = (sw_pop False 2 st [] fun args r => sw_ck False r (sw_rc False H (some 2) args (sw_M 108 args H (sw_K 109 84 none ls r Q)))) := sw_A_step (cc := cX2_byOpening) rfl dX2_byOpening_81 rfl ls st H Q
theorem r109_84 : sw_A 109 84 ls st H Q = (sw_i2 False st fun x y r => if ¬ x = y then sw_A 109 97 ls r H Q else sw_A 109 87 ls r H Q) := sw_A_step (cc := cX2_byOpening) rfl dX2_byOpening_84 rfl ls st H Q
theorem r109_87 : sw_A 109 87 ls st H Q = (sw_lda False ls 1 fun x => sw_A 109 88 ls (.ref x :: st) H Q) := sw_A_step (cc := cX2_byOpening) rfl dX2_byOpening_87 rfl ls st H Q
theorem r109_88 : sw_A 109 88 ls st H Q = (sw_ldi False ls 3 fun x => sw_A 109 89 ls (.int x :: st) H Q) := sw_A_step (cc := cX2_byOpening) rfl dX2_byOpening_88 rfl ls st H Q
theorem r109_89 : sw_A 109 89 ls st H Q = (sw_ldi False ls 6 fun x => sw_A 109 91 ls (.int x :: st) H Q) := sw_A_step (cc := cX2_byOpening) rfl dX2_byOpening_89 rfl ls st H Q
theorem r109_91 : sw_A 109 91 ls st H Q = (sw_pop False 3 st [] fun args r => sw_ck False r (sw_rc False H (some 8) args (sw_M 106 args H (sw_K 109 94 none ls r Q)))) := sw_A_step (cc := cX2_byOpening) rfl dX2_byOpening_91 rfl ls st H Q
theorem r109_94 : sw_A 109 94 ls st H Q = (sw_A 109 95 ls (.int (Int32.ofInt 1) :: st) H Q) := sw_A_step (cc := cX2_byOpening) rfl dX2_byOpening_94 rfl ls st H Q
theorem r109_95 : sw_A 109 95 ls st H Q = (sw_i2 False st fun x y r => sw_A 109 96 ls (.int (x + y) :: r) H Q) := sw_A_step (cc := cX2_byOpening) rfl dX2_byOpening_95 rfl ls st H Q
theorem r109_96 : sw_A 109 96 ls st H Q = (match st with | [.int x] => Q (some (some (.int x))) H | _ => False) := sw_A_step (cc := cX2_byOpening) rfl dX2_byOpening_96 rfl ls st H Q
theorem r109_97 : sw_A 109 97 ls st H Q = (sw_ldi False ls 5 fun x => sw_A 109 100 (sw_set1 ls 5 (.int (x + Int32.ofInt 1))) st H Q) := sw_A_step (cc := cX2_byOpening) rfl dX2_byOpening_97 rfl ls st H Q
theorem r109_100 : sw_A 109 100 ls st H Q = (sw_A 109 16 ls st H Q) := sw_A_step (cc := cX2_byOpening) rfl dX2_byOpening_100 rfl ls st H Q
theorem r109_103 : sw_A 109 103 ls st H Q = (sw_A 109 104 ls (.int (Int32.ofInt (-1)) :: st) H Q) := sw_A_step (cc := cX2_byOpening) rfl dX2_byOpening_103 rfl ls st H Q
theorem r109_104 : sw_A 109 104 ls st H Q = (match st with | [.int x] => Q (some (some (.int x))) H | _ => False) := sw_A_step (cc := cX2_byOpening) rfl dX2_byOpening_104 rfl ls st H Q
theorem r110_0 : sw_A 110 0 ls st H Q = (sw_ldi False ls 1 fun x => sw_A 110 1 ls (.int x :: st) H Q) := sw_A_step (cc := cX11_edge) rfl dX11_edge_0 rfl ls st H Q
theorem r110_1 : sw_A 110 1 ls st H Q = (sw_pop False 1 st [] fun args r => sw_ck False r (sw_M 85 args H (sw_K 110 4 none ls r Q))) := sw_A_step (cc := cX11_edge) rfl dX11_edge_1 rfl ls st H Q
theorem r110_4 : sw_A 110 4 ls st H Q = (sw_lda False ls 0 fun x => sw_A 110 5 ls (.ref x :: st) H Q) := sw_A_step (cc := cX11_edge) rfl dX11_edge_4 rfl ls st H Q
theorem r110_5 : sw_A 110 5 ls st H Q = (sw_r1 False st fun a r => sw_gf False H (some (11, 5, 1)) a fun v => sw_A 110 8 ls (v :: r) H Q) := sw_A_step (cc := cX11_edge) rfl dX11_edge_5 rfl ls st H Q
theorem r110_8 : sw_A 110 8 ls st H Q = (sw_lda False ls 0 fun x => sw_A 110 9 ls (.ref x :: st) H Q) := sw_A_step (cc := cX11_edge) rfl dX11_edge_8 rfl ls st H Q
theorem r110_9 : sw_A 110 9 ls st H Q = (sw_r1 False st fun a r => sw_gf False H (some (11, 0, 1)) a fun v => sw_A 110 12 ls (v :: r) H Q) := sw_A_step (cc := cX11_edge) rfl dX11_edge_9 rfl ls st H Q
theorem r110_12 : sw_A 110 12 ls st H Q = (sw_lda False ls 0 fun x => sw_A 110 13 ls (.ref x :: st) H Q) := sw_A_step (cc := cX11_edge) rfl dX11_edge_12 rfl ls st H Q
theorem r110_13 : sw_A 110 13 ls st H Q = (sw_r1 False st fun a r => sw_gf False H (some (11, 2, 1)) a fun v => sw_A 110 16 ls (v :: r) H Q) := sw_A_step (cc := cX11_edge) rfl dX11_edge_13 rfl ls st H Q
theorem r110_16 : sw_A 110 16 ls st H Q = (sw_r1 False st fun a r => sw_gf False H (some (7, 0, 1)) a fun v => sw_A 110 19 ls (v :: r) H Q) := sw_A_step (cc := cX11_edge) rfl dX11_edge_16 rfl ls st H Q
theorem r110_19 : sw_A 110 19 ls st H Q = (sw_ldi False ls 1 fun x => sw_A 110 20 ls (.int x :: st) H Q) := sw_A_step (cc := cX11_edge) rfl dX11_edge_19 rfl ls st H Q
theorem r110_20 : sw_A 110 20 ls st H Q = (sw_ldi False ls 2 fun x => sw_A 110 21 ls (.int x :: st) H Q) := sw_A_step (cc := cX11_edge) rfl dX11_edge_20 rfl ls st H Q
theorem r110_21 : sw_A 110 21 ls st H Q = (sw_pop False 5 st [] fun args r => sw_ck False r (sw_rc False H (some 2) args (sw_M 109 args H (sw_K 110 24 none ls r Q)))) := sw_A_step (cc := cX11_edge) rfl dX11_edge_21 rfl ls st H Q
theorem r110_24 : sw_A 110 24 ls st H Q = (match st with | [.int x] => Q (some (some (.int x))) H | _ => False) := sw_A_step (cc := cX11_edge) rfl dX11_edge_24 rfl ls st H Q
theorem r111_0 : sw_A 111 0 ls st H Q = (sw_lda False ls 0 fun x => sw_A 111 1 ls (.ref x :: st) H Q) := sw_A_step (cc := cX3_forget) rfl dX3_forget_0 rfl ls st H Q
theorem r111_1 : sw_A 111 1 ls st H Q = (sw_r1 False st fun a r => sw_gf False H (some (3, 0, 1)) a fun v => sw_A 111 4 ls (v :: r) H Q) := sw_A_step (cc := cX3_forget) rfl dX3_forget_1 rfl ls st H Q
theorem r111_4 : sw_A 111 4 ls st H Q = (sw_A 111 5 ls (.int (Int32.ofInt (-1)) :: st) H Q) := sw_A_step (cc := cX3_forget) rfl dX3_forget_4 rfl ls st H Q
theorem r111_5 : sw_A 111 5 ls st H Q = (sw_pop False 2 st [] fun args r => sw_ck False r (sw_M 9 args H (sw_K 111 8 none ls r Q))) := sw_A_step (cc := cX3_forget) rfl dX3_forget_5 rfl ls st H Q
theorem r111_8 : sw_A 111 8 ls st H Q = (sw_lda False ls 0 fun x => sw_A 111 9 ls (.ref x :: st) H Q) := sw_A_step (cc := cX3_forget) rfl dX3_forget_8 rfl ls st H Q
theorem r111_9 : sw_A 111 9 ls st H Q = (sw_r1 False st fun a r => sw_gf False H (some (3, 1, 1)) a fun v => sw_A 111 12 ls (v :: r) H Q) := sw_A_step (cc := cX3_forget) rfl dX3_forget_9 rfl ls st H Q
theorem r111_12 : sw_A 111 12 ls st H Q = (sw_pop False 1 st [] fun args r => sw_ck False r (sw_M 105 args H (sw_K 111 15 none ls r Q))) := sw_A_step (cc := cX3_forget) rfl dX3_forget_12 rfl ls st H Q
theorem r111_15 : sw_A 111 15 ls st H Q = (match st with | [] => Q (some none) H | _ => False) := sw_A_step (cc := cX3_forget) rfl dX3_forget_15 rfl ls st H Q
theorem r112_0 : sw_A 112 0 ls st H Q = (sw_lda False ls 0 fun x => sw_A 112 1 ls (.ref x :: st) H Q) := sw_A_step (cc := cX3_offer) rfl dX3_offer_0 rfl ls st H Q
theorem r112_1 : sw_A 112 1 ls st H Q = (sw_r1 False st fun a r => sw_gf False H (some (3, 0, 1)) a fun v => sw_A 112 4 ls (v :: r) H Q) := sw_A_step (cc := cX3_offer) rfl dX3_offer_1 rfl ls st H Q
theorem r112_4 : sw_A 112 4 ls st H Q = (sw_ldi False ls 1 fun x => sw_A 112 5 ls (.int x :: st) H Q) := sw_A_step (cc := cX3_offer) rfl dX3_offer_4 rfl ls st H Q
theorem r112_5 : sw_A 112 5 ls st H Q = (sw_ri False st fun a i r => sw_ald False H 0 a i fun x => sw_A 112 6 ls (.int x :: r) H Q) := sw_A_step (cc := cX3_offer) rfl dX3_offer_5 rfl ls st H Q
theorem r112_6 : sw_A 112 6 ls st H Q = (sw_A 112 7 ls (.int (Int32.ofInt (-1)) :: st) H Q) := sw_A_step (cc := cX3_offer) rfl dX3_offer_6 rfl ls st H Q
theorem r112_7 : sw_A 112 7 ls st H Q = (sw_i2 False st fun x y r => if x = y then sw_A 112 20 ls r H Q else sw_A 112 10 ls r H Q) := sw_A_step (cc := cX3_offer) rfl dX3_offer_7 rfl ls st H Q
theorem r112_10 : sw_A 112 10 ls st H Q = (sw_ldi False ls 2 fun x => sw_A 112 11 ls (.int x :: st) H Q) := sw_A_step (cc := cX3_offer) rfl dX3_offer_10 rfl ls st H Q
theorem r112_11 : sw_A 112 11 ls st H Q = (sw_lda False ls 0 fun x => sw_A 112 12 ls (.ref x :: st) H Q) := sw_A_step (cc := cX3_offer) rfl dX3_offer_11 rfl ls st H Q
theorem r112_12 : sw_A 112 12 ls st H Q = (sw_r1 False st fun a r => sw_gf False H (some (3, 0, 1)) a fun v => sw_A 112 15 ls (v :: r) H Q) := sw_A_step (cc := cX3_offer) rfl dX3_offer_12 rfl ls st H Q
theorem r112_15 : sw_A 112 15 ls st H Q = (sw_ldi False ls 1 fun x => sw_A 112 16 ls (.int x :: st) H Q) := sw_A_step (cc := cX3_offer) rfl dX3_offer_15 rfl ls st H Q
theorem r112_16 : sw_A 112 16 ls st H Q = (sw_ri False st fun a i r => sw_ald False H 0 a i fun x => sw_A 112 17 ls (.int x :: r) H Q) := sw_A_step (cc := cX3_offer) rfl dX3_offer_16 rfl ls st H Q
theorem r112_17 : sw_A 112 17 ls st H Q = (sw_i2 False st fun x y r => if y ≤ x then sw_A 112 27 ls r H Q else sw_A 112 20 ls r H Q) := sw_A_step (cc := cX3_offer) rfl dX3_offer_17 rfl ls st H Q
theorem r112_20 : sw_A 112 20 ls st H Q = (sw_lda False ls 0 fun x => sw_A 112 21 ls (.ref x :: st) H Q) := sw_A_step (cc := cX3_offer) rfl dX3_offer_20 rfl ls st H Q
theorem r112_21 : sw_A 112 21 ls st H Q = (sw_r1 False st fun a r => sw_gf False H (some (3, 0, 1)) a fun v => sw_A 112 24 ls (v :: r) H Q) := sw_A_step (cc := cX3_offer) rfl dX3_offer_21 rfl ls st H Q
theorem r112_24 : sw_A 112 24 ls st H Q = (sw_ldi False ls 1 fun x => sw_A 112 25 ls (.int x :: st) H Q) := sw_A_step (cc := cX3_offer) rfl dX3_offer_24 rfl ls st H Q
theorem r112_25 : sw_A 112 25 ls st H Q = (sw_ldi False ls 2 fun x => sw_A 112 26 ls (.int x :: st) H Q) := sw_A_step (cc := cX3_offer) rfl dX3_offer_25 rfl ls st H Q
theorem r112_26 : sw_A 112 26 ls st H Q = (sw_rix False st fun a i x r => sw_ast False H 0 a i x fun H1 => sw_A 112 27 ls r H1 Q) := sw_A_step (cc := cX3_offer) rfl dX3_offer_26 rfl ls st H Q
theorem r112_27 : sw_A 112 27 ls st H Q = (match st with | [] => Q (some none) H | _ => False) := sw_A_step (cc := cX3_offer) rfl dX3_offer_27 rfl ls st H Q
theorem r113_0 : sw_A 113 0 ls st H Q = (sw_lda False ls 0 fun x => sw_A 113 1 ls (.ref x :: st) H Q) := sw_A_step (cc := cX2_startAtSide) rfl dX2_startAtSide_0 rfl ls st H Q
theorem r113_1 : sw_A 113 1 ls st H Q = (sw_r1 False st fun a r => sw_gf False H (some (2, 2, 1)) a fun v => sw_A 113 4 ls (v :: r) H Q) := sw_A_step (cc := cX2_startAtSide) rfl dX2_startAtSide_1 rfl ls st H Q
theorem r113_4 : sw_A 113 4 ls st H Q = (sw_pop False 1 st [] fun args r => sw_ck False r (sw_rc False H (some 3) args (sw_M 111 args H (sw_K 113 7 none ls r Q)))) := sw_A_step (cc := cX2_startAtSide) rfl dX2_startAtSide_4 rfl ls st H Q
theorem r113_7 : sw_A 113 7 ls st H Q = (sw_A 113 8 ls (.int (Int32.ofInt 0) :: st) H Q) := sw_A_step (cc := cX2_startAtSide) rfl dX2_startAtSide_7 rfl ls st H Q
theorem r113_8 : sw_A 113 8 ls st H Q = (sw_has1 False ls 3 (sw_i1 False st fun x r => sw_A 113 9 (sw_set1 ls 3 (.int x)) r H Q)) := sw_A_step (cc := cX2_startAtSide) rfl dX2_startAtSide_8 rfl ls st H Q
theorem r113_9 : sw_A 113 9 ls st H Q = (sw_ldi False ls 3 fun x => sw_A 113 10 ls (.int x :: st) H Q) := sw_A_step (cc := cX2_startAtSide) rfl dX2_startAtSide_9 rfl ls st H Q
theorem r113_10 : sw_A 113 10 ls st H Q = (sw_A 113 12 ls (.int (Int32.ofInt 36) :: st) H Q) := sw_A_step (cc := cX2_startAtSide) rfl dX2_startAtSide_10 rfl ls st H Q
theorem r113_12 : sw_A 113 12 ls st H Q = (sw_i2 False st fun x y r => if y ≤ x then sw_A 113 44 ls r H Q else sw_A 113 15 ls r H Q) := sw_A_step (cc := cX2_startAtSide) rfl dX2_startAtSide_12 rfl ls st H Q
theorem r113_15 : sw_A 113 15 ls st H Q = (sw_lda False ls 1 fun x => sw_A 113 16 ls (.ref x :: st) H Q) := sw_A_step (cc := cX2_startAtSide) rfl dX2_startAtSide_15 rfl ls st H Q
theorem r113_16 : sw_A 113 16 ls st H Q = (sw_ldi False ls 3 fun x => sw_A 113 17 ls (.int x :: st) H Q) := sw_A_step (cc := cX2_startAtSide) rfl dX2_startAtSide_16 rfl ls st H Q
theorem r113_17 : sw_A 113 17 ls st H Q = (sw_ri False st fun a i r => sw_ald False H 1 a i fun x => sw_A 113 18 ls (.int x :: r) H Q) := sw_A_step (cc := cX2_startAtSide) rfl dX2_startAtSide_17 rfl ls st H Q
theorem r113_18 : sw_A 113 18 ls st H Q = (sw_i1 False st fun x r => if ¬ x = 0 then sw_A 113 38 ls r H Q else sw_A 113 21 ls r H Q) := sw_A_step (cc := cX2_startAtSide) rfl dX2_startAtSide_18 rfl ls st H Q
theorem r113_21 : sw_A 113 21 ls st H Q = (sw_ldi False ls 3 fun x => sw_A 113 22 ls (.int x :: st) H Q) := sw_A_step (cc := cX2_startAtSide) rfl dX2_startAtSide_21 rfl ls st H Q
theorem r113_22 : sw_A 113 22 ls st H Q = (sw_ldi False ls 2 fun x => sw_A 113 23 ls (.int x :: st) H Q) := sw_A_step (cc := cX2_startAtSide) rfl dX2_startAtSide_22 rfl ls st H Q
theorem r113_23 : sw_A 113 23 ls st H Q = (sw_pop False 2 st [] fun args r => sw_ck False r (sw_M 73 args H (sw_K 113 26 none ls r Q))) := sw_A_step (cc := cX2_startAtSide) rfl dX2_startAtSide_23 rfl ls st H Q
theorem r113_26 : sw_A 113 26 ls st H Q = (sw_i1 False st fun x r => if x = 0 then sw_A 113 38 ls r H Q else sw_A 113 29 ls r H Q) := sw_A_step (cc := cX2_startAtSide) rfl dX2_startAtSide_26 rfl ls st H Q
theorem r113_29 : sw_A 113 29 ls st H Q = (sw_lda False ls 0 fun x => sw_A 113 30 ls (.ref x :: st) H Q) := sw_A_step (cc := cX2_startAtSide) rfl dX2_startAtSide_29 rfl ls st H Q
theorem r113_30 : sw_A 113 30 ls st H Q = (sw_r1 False st fun a r => sw_gf False H (some (2, 2, 1)) a fun v => sw_A 113 33 ls (v :: r) H Q) := sw_A_step (cc := cX2_startAtSide) rfl dX2_startAtSide_30 rfl ls st H Q
theorem r113_33 : sw_A 113 33 ls st H Q = (sw_ldi False ls 3 fun x => sw_A 113 34 ls (.int x :: st) H Q) := sw_A_step (cc := cX2_startAtSide) rfl dX2_startAtSide_33 rfl ls st H Q
theorem r113_34 : sw_A 113 34 ls st H Q = (sw_A 113 35 ls (.int (Int32.ofInt 0) :: st) H Q) := sw_A_step (cc := cX2_startAtSide) rfl dX2_startAtSide_34 rfl ls st H Q
theorem r113_35 : sw_A 113 35 ls st H Q = (sw_pop False 3 st [] fun args r => sw_ck False r (sw_rc False H (some 3) args (sw_M 112 args H (sw_K 113 38 none ls r Q)))) := sw_A_step (cc := cX2_startAtSide) rfl dX2_startAtSide_35 rfl ls st H Q
theorem r113_38 : sw_A 113 38 ls st H Q = (sw_ldi False ls 3 fun x => sw_A 113 41 (sw_set1 ls 3 (.int (x + Int32.ofInt 1))) st H Q) := sw_A_step (cc := cX2_startAtSide) rfl dX2_startAtSide_38 rfl ls st H Q
theorem r113_41 : sw_A 113 41 ls st H Q = (sw_A 113 9 ls st H Q) := sw_A_step (cc := cX2_startAtSide) rfl dX2_startAtSide_41 rfl ls st H Q
theorem r113_44 : sw_A 113 44 ls st H Q = (match st with | [] => Q (some none) H | _ => False) := sw_A_step (cc := cX2_startAtSide) rfl dX2_startAtSide_44 rfl ls st H Q
theorem r114_0 : sw_A 114 0 ls st H Q = (sw_A 114 1 ls (.int (Int32.ofInt (-1)) :: st) H Q) := sw_A_step (cc := cX3_settleNearest) rfl dX3_settleNearest_0 rfl ls st H Q
theorem r114_1 : sw_A 114 1 ls st H Q = (sw_has1 False ls 1 (sw_i1 False st fun x r => sw_A 114 2 (sw_set1 ls 1 (.int x)) r H Q)) := sw_A_step (cc := cX3_settleNearest) rfl dX3_settleNearest_1 rfl ls st H Q
theorem r114_2 : sw_A 114 2 ls st H Q = (sw_A 114 3 ls (.int (Int32.ofInt 0) :: st) H Q) := sw_A_step (cc := cX3_settleNearest) rfl dX3_settleNearest_2 rfl ls st H Q
theorem r114_3 : sw_A 114 3 ls st H Q = (sw_has1 False ls 2 (sw_i1 False st fun x r => sw_A 114 4 (sw_set1 ls 2 (.int x)) r H Q)) := sw_A_step (cc := cX3_settleNearest) rfl dX3_settleNearest_3 rfl ls st H Q
theorem r114_4 : sw_A 114 4 ls st H Q = (sw_ldi False ls 2 fun x => sw_A 114 5 ls (.int x :: st) H Q) := sw_A_step (cc := cX3_settleNearest) rfl dX3_settleNearest_4 rfl ls st H Q
theorem r114_5 : sw_A 114 5 ls st H Q = (sw_A 114 7 ls (.int (Int32.ofInt 36) :: st) H Q) := sw_A_step (cc := cX3_settleNearest) rfl dX3_settleNearest_5 rfl ls st H Q
theorem r114_7 : sw_A 114 7 ls st H Q = (sw_i2 False st fun x y r => if y ≤ x then sw_A 114 67 ls r H Q else sw_A 114 10 ls r H Q) := sw_A_step (cc := cX3_settleNearest) rfl dX3_settleNearest_7 rfl ls st H Q
theorem r114_10 : sw_A 114 10 ls st H Q = (sw_lda False ls 0 fun x => sw_A 114 11 ls (.ref x :: st) H Q) := sw_A_step (cc := cX3_settleNearest) rfl dX3_settleNearest_10 rfl ls st H Q
theorem r114_11 : sw_A 114 11 ls st H Q = (sw_r1 False st fun a r => sw_gf False H (some (3, 1, 1)) a fun v => sw_A 114 14 ls (v :: r) H Q) := sw_A_step (cc := cX3_settleNearest) rfl dX3_settleNearest_11 rfl ls st H Q
theorem r114_14 : sw_A 114 14 ls st H Q = (sw_ldi False ls 2 fun x => sw_A 114 15 ls (.int x :: st) H Q) := sw_A_step (cc := cX3_settleNearest) rfl dX3_settleNearest_14 rfl ls st H Q
theorem r114_15 : sw_A 114 15 ls st H Q = (sw_ri False st fun a i r => sw_ald False H 1 a i fun x => sw_A 114 16 ls (.int x :: r) H Q) := sw_A_step (cc := cX3_settleNearest) rfl dX3_settleNearest_15 rfl ls st H Q
theorem r114_16 : sw_A 114 16 ls st H Q = (sw_i1 False st fun x r => if ¬ x = 0 then sw_A 114 33 ls r H Q else sw_A 114 19 ls r H Q) := sw_A_step (cc := cX3_settleNearest) rfl dX3_settleNearest_16 rfl ls st H Q
theorem r114_19 : sw_A 114 19 ls st H Q = (sw_lda False ls 0 fun x => sw_A 114 20 ls (.ref x :: st) H Q) := sw_A_step (cc := cX3_settleNearest) rfl dX3_settleNearest_19 rfl ls st H Q
theorem r114_20 : sw_A 114 20 ls st H Q = (sw_r1 False st fun a r => sw_gf False H (some (3, 0, 1)) a fun v => sw_A 114 23 ls (v :: r) H Q) := sw_A_step (cc := cX3_settleNearest) rfl dX3_settleNearest_20 rfl ls st H Q
theorem r114_23 : sw_A 114 23 ls st H Q = (sw_ldi False ls 2 fun x => sw_A 114 24 ls (.int x :: st) H Q) := sw_A_step (cc := cX3_settleNearest) rfl dX3_settleNearest_23 rfl ls st H Q
theorem r114_24 : sw_A 114 24 ls st H Q = (sw_ri False st fun a i r => sw_ald False H 0 a i fun x => sw_A 114 25 ls (.int x :: r) H Q) := sw_A_step (cc := cX3_settleNearest) rfl dX3_settleNearest_24 rfl ls st H Q
theorem r114_25 : sw_A 114 25 ls st H Q = (sw_A 114 26 ls (.int (Int32.ofInt (-1)) :: st) H Q) := sw_A_step (cc := cX3_settleNearest) rfl dX3_settleNearest_25 rfl ls st H Q
theorem r114_26 : sw_A 114 26 ls st H Q = (sw_i2 False st fun x y r => if x = y then sw_A 114 33 ls r H Q else sw_A 114 29 ls r H Q) := sw_A_step (cc := cX3_settleNearest) rfl dX3_settleNearest_26 rfl ls st H Q
theorem r114_29 : sw_A 114 29 ls st H Q = (sw_A 114 30 ls (.int (Int32.ofInt 1) :: st) H Q) := sw_A_step (cc := cX3_settleNearest) rfl dX3_settleNearest_29 rfl ls st H Q
theorem r114_30 : sw_A 114 30 ls st H Q = (sw_A 114 34 ls st H Q) := sw_A_step (cc := cX3_settleNearest) rfl dX3_settleNearest_30 rfl ls st H Q
theorem r114_33 : sw_A 114 33 ls st H Q = (sw_A 114 34 ls (.int (Int32.ofInt 0) :: st) H Q) := sw_A_step (cc := cX3_settleNearest) rfl dX3_settleNearest_33 rfl ls st H Q
theorem r114_34 : sw_A 114 34 ls st H Q = (sw_has1 False ls 3 (sw_i1 False st fun x r => sw_A 114 35 (sw_set1 ls 3 (.int x)) r H Q)) := sw_A_step (cc := cX3_settleNearest) rfl dX3_settleNearest_34 rfl ls st H Q
theorem r114_35 : sw_A 114 35 ls st H Q = (sw_ldi False ls 3 fun x => sw_A 114 36 ls (.int x :: st) H Q) := sw_A_step (cc := cX3_settleNearest) rfl dX3_settleNearest_35 rfl ls st H Q
theorem r114_36 : sw_A 114 36 ls st H Q = (sw_i1 False st fun x r => if x = 0 then sw_A 114 61 ls r H Q else sw_A 114 39 ls r H Q) := sw_A_step (cc := cX3_settleNearest) rfl dX3_settleNearest_36 rfl ls st H Q
theorem r114_39 : sw_A 114 39 ls st H Q = (sw_ldi False ls 1 fun x => sw_A 114 40 ls (.int x :: st) H Q) := sw_A_step (cc := cX3_settleNearest) rfl dX3_settleNearest_39 rfl ls st H Q
theorem r114_40 : sw_A 114 40 ls st H Q = (sw_A 114 41 ls (.int (Int32.ofInt (-1)) :: st) H Q) := sw_A_step (cc := cX3_settleNearest) rfl dX3_settleNearest_40 rfl ls st H Q
theorem r114_41 : sw_A 114 41 ls st H Q = (sw_i2 False st fun x y r => if x = y then sw_A 114 59 ls r H Q else sw_A 114 44 ls r H Q) := sw_A_step (cc := cX3_settleNearest) rfl dX3_settleNearest_41 rfl ls st H Q
theorem r114_44 : sw_A 114 44 ls st H Q = (sw_lda False ls 0 fun x => sw_A 114 45 ls (.ref x :: st) H Q) := sw_A_step (cc := cX3_settleNearest) rfl dX3_settleNearest_44 rfl ls st H Q
theorem r114_45 : sw_A 114 45 ls st H Q = (sw_r1 False st fun a r => sw_gf False H (some (3, 0, 1)) a fun v => sw_A 114 48 ls (v :: r) H Q) := sw_A_step (cc := cX3_settleNearest) rfl dX3_settleNearest_45 rfl ls st H Q
theorem r114_48 : sw_A 114 48 ls st H Q = (sw_ldi False ls 2 fun x => sw_A 114 49 ls (.int x :: st) H Q) := sw_A_step (cc := cX3_settleNearest) rfl dX3_settleNearest_48 rfl ls st H Q
theorem r114_49 : sw_A 114 49 ls st H Q = (sw_ri False st fun a i r => sw_ald False H 0 a i fun x => sw_A 114 50 ls (.int x :: r) H Q) := sw_A_step (cc := cX3_settleNearest) rfl dX3_settleNearest_49 rfl ls st H Q
theorem r114_50 : sw_A 114 50 ls st H Q = (sw_lda False ls 0 fun x => sw_A 114 51 ls (.ref x :: st) H Q) := sw_A_step (cc := cX3_settleNearest) rfl dX3_settleNearest_50 rfl ls st H Q
theorem r114_51 : sw_A 114 51 ls st H Q = (sw_r1 False st fun a r => sw_gf False H (some (3, 0, 1)) a fun v => sw_A 114 54 ls (v :: r) H Q) := sw_A_step (cc := cX3_settleNearest) rfl dX3_settleNearest_51 rfl ls st H Q
theorem r114_54 : sw_A 114 54 ls st H Q = (sw_ldi False ls 1 fun x => sw_A 114 55 ls (.int x :: st) H Q) := sw_A_step (cc := cX3_settleNearest) rfl dX3_settleNearest_54 rfl ls st H Q
theorem r114_55 : sw_A 114 55 ls st H Q = (sw_ri False st fun a i r => sw_ald False H 0 a i fun x => sw_A 114 56 ls (.int x :: r) H Q) := sw_A_step (cc := cX3_settleNearest) rfl dX3_settleNearest_55 rfl ls st H Q
theorem r114_56 : sw_A 114 56 ls st H Q = (sw_i2 False st fun x y r => if y ≤ x then sw_A 114 61 ls r H Q else sw_A 114 59 ls r H Q) := sw_A_step (cc := cX3_settleNearest) rfl dX3_settleNearest_56 rfl ls st H Q
theorem r114_59 : sw_A 114 59 ls st H Q = (sw_ldi False ls 2 fun x => sw_A 114 60 ls (.int x :: st) H Q) := sw_A_step (cc := cX3_settleNearest) rfl dX3_settleNearest_59 rfl ls st H Q
theorem r114_60 : sw_A 114 60 ls st H Q = (sw_has1 False ls 1 (sw_i1 False st fun x r => sw_A 114 61 (sw_set1 ls 1 (.int x)) r H Q)) := sw_A_step (cc := cX3_settleNearest) rfl dX3_settleNearest_60 rfl ls st H Q
theorem r114_61 : sw_A 114 61 ls st H Q = (sw_ldi False ls 2 fun x => sw_A 114 64 (sw_set1 ls 2 (.int (x + Int32.ofInt 1))) st H Q) := sw_A_step (cc := cX3_settleNearest) rfl dX3_settleNearest_61 rfl ls st H Q
theorem r114_64 : sw_A 114 64 ls st H Q = (sw_A 114 4 ls st H Q) := sw_A_step (cc := cX3_settleNearest) rfl dX3_settleNearest_64 rfl ls st H Q
theorem r114_67 : sw_A 114 67 ls st H Q = (sw_ldi False ls 1 fun x => sw_A 114 68 ls (.int x :: st) H Q) := sw_A_step (cc := cX3_settleNearest) rfl dX3_settleNearest_67 rfl ls st H Q
theorem r114_68 : sw_A 114 68 ls st H Q = (sw_A 114 69 ls (.int (Int32.ofInt (-1)) :: st) H Q) := sw_A_step (cc := cX3_settleNearest) rfl dX3_settleNearest_68 rfl ls st H Q
theorem r114_69 : sw_A 114 69 ls st H Q = (sw_i2 False st fun x y r => if x = y then sw_A 114 79 ls r H Q else sw_A 114 72 ls r H Q) := sw_A_step (cc := cX3_settleNearest) rfl dX3_settleNearest_69 rfl ls st H Q
theorem r114_72 : sw_A 114 72 ls st H Q = (sw_lda False ls 0 fun x => sw_A 114 73 ls (.ref x :: st) H Q) := sw_A_step (cc := cX3_settleNearest) rfl dX3_settleNearest_72 rfl ls st H Q
theorem r114_73 : sw_A 114 73 ls st H Q = (sw_r1 False st fun a r => sw_gf False H (some (3, 1, 1)) a fun v => sw_A 114 76 ls (v :: r) H Q) := sw_A_step (cc := cX3_settleNearest) rfl dX3_settleNearest_73 rfl ls st H Q
theorem r114_76 : sw_A 114 76 ls st H Q = (sw_ldi False ls 1 fun x => sw_A 114 77 ls (.int x :: st) H Q) := sw_A_step (cc := cX3_settleNearest) rfl dX3_settleNearest_76 rfl ls st H Q
theorem r114_77 : sw_A 114 77 ls st H Q = (sw_A 114 78 ls (.int (Int32.ofInt 1) :: st) H Q) := sw_A_step (cc := cX3_settleNearest) rfl dX3_settleNearest_77 rfl ls st H Q
theorem r114_78 : sw_A 114 78 ls st H Q = (sw_rix False st fun a i x r => sw_ast False H 1 a i (x &&& 1) fun H1 => sw_A 114 79 ls r H1 Q) := sw_A_step (cc := cX3_settleNearest) rfl dX3_settleNearest_78 rfl ls st H Q
theorem r114_79 : sw_A 114 79 ls st H Q = (sw_ldi False ls 1 fun x => sw_A 114 80 ls (.int x :: st) H Q) := sw_A_step (cc := cX3_settleNearest) rfl dX3_settleNearest_79 rfl ls st H Q
theorem r114_80 : sw_A 114 80 ls st H Q = (match st with | [.int x] => Q (some (some (.int x))) H | _ => False) := sw_A_step (cc := cX3_settleNearest) rfl dX3_settleNearest_80 rfl ls st H Q
theorem r115_0 : sw_A 115 0 ls st H Q = (sw_A 115 1 ls (.int (Int32.ofInt 0) :: st) H Q) := sw_A_step (cc := cX2_offerBeside) rfl dX2_offerBeside_0 rfl ls st H Q
theorem r115_1 : sw_A 115 1 ls st H Q = (sw_has1 False ls 5 (sw_i1 False st fun x r => sw_A 115 3 (sw_set1 ls 5 (.int x)) r H Q)) := sw_A_step (cc := cX2_offerBeside) rfl dX2_offerBeside_1 rfl ls st H Q
theorem r115_3 : sw_A 115 3 ls st H Q = (sw_ldi False ls 5 fun x => sw_A 115 5 ls (.int x :: st) H Q) := sw_A_step (cc := cX2_offerBeside) rfl dX2_offerBeside_3 rfl ls st H Q
theorem r115_5 : sw_A 115 5 ls st H Q = (sw_A 115 6 ls (.int (Int32.ofInt 4) :: st) H Q) := sw_A_step (cc := cX2_offerBeside) rfl dX2_offerBeside_5 rfl ls st H Q
theorem r115_6 : sw_A 115 6 ls st H Q = (sw_i2 False st fun x y r => if y ≤ x then sw_A 115 75 ls r H Q else sw_A 115 9 ls r H Q) := sw_A_step (cc := cX2_offerBeside) rfl dX2_offerBeside_6 rfl ls st H Q
theorem r115_9 : sw_A 115 9 ls st H Q = (sw_ldi False ls 4 fun x => sw_A 115 11 ls (.int x :: st) H Q) := sw_A_step (cc := cX2_offerBeside) rfl dX2_offerBeside_9 rfl ls st H Q
theorem r115_11 : sw_A 115 11 ls st H Q = (sw_ldi False ls 5 fun x => sw_A 115 13 ls (.int x :: st) H Q) := sw_A_step (cc := cX2_offerBeside) rfl dX2_offerBeside_11 rfl ls st H Q
theorem r115_13 : sw_A 115 13 ls st H Q = (sw_pop False 2 st [] fun args r => sw_ck False r (sw_M 32 args H (sw_K 115 16 none ls r Q))) := sw_A_step (cc := cX2_offerBeside) rfl dX2_offerBeside_13 rfl ls st H Q
theorem r115_16 : sw_A 115 16 ls st H Q = (sw_has1 False ls 6 (sw_i1 False st fun x r => sw_A 115 18 (sw_set1 ls 6 (.int x)) r H Q)) := sw_A_step (cc := cX2_offerBeside) rfl dX2_offerBeside_16 rfl ls st H Q
theorem r115_18 : sw_A 115 18 ls st H Q = (sw_ldi False ls 6 fun x => sw_A 115 20 ls (.int x :: st) H Q) := sw_A_step (cc := cX2_offerBeside) rfl dX2_offerBeside_18 rfl ls st H Q
theorem r115_20 : sw_A 115 20 ls st H Q = (sw_A 115 21 ls (.int (Int32.ofInt (-1)) :: st) H Q) := sw_A_step (cc := cX2_offerBeside) rfl dX2_offerBeside_20 rfl ls st H Q
theorem r115_21 : sw_A 115 21 ls st H Q = (sw_i2 False st fun x y r => if x = y then sw_A 115 69 ls r H Q else sw_A 115 24 ls r H Q) := sw_A_step (cc := cX2_offerBeside) rfl dX2_offerBeside_21 rfl ls st H Q
theorem r115_24 : sw_A 115 24 ls st H Q = (sw_lda False ls 2 fun x => sw_A 115 25 ls (.ref x :: st) H Q) := sw_A_step (cc := cX2_offerBeside) rfl dX2_offerBeside_24 rfl ls st H Q
theorem r115_25 : sw_A 115 25 ls st H Q = (sw_ldi False ls 6 fun x => sw_A 115 27 ls (.int x :: st) H Q) := sw_A_step (cc := cX2_offerBeside) rfl dX2_offerBeside_25 rfl ls st H Q
theorem r115_27 : sw_A 115 27 ls st H Q = (sw_ri False st fun a i r => sw_ald False H 1 a i fun x => sw_A 115 28 ls (.int x :: r) H Q) := sw_A_step (cc := cX2_offerBeside) rfl dX2_offerBeside_27 rfl ls st H Q
theorem r115_28 : sw_A 115 28 ls st H Q = (sw_i1 False st fun x r => if ¬ x = 0 then sw_A 115 69 ls r H Q else sw_A 115 31 ls r H Q) := sw_A_step (cc := cX2_offerBeside) rfl dX2_offerBeside_28 rfl ls st H Q
theorem r115_31 : sw_A 115 31 ls st H Q = (sw_lda False ls 1 fun x => sw_A 115 32 ls (.ref x :: st) H Q) := sw_A_step (cc := cX2_offerBeside) rfl dX2_offerBeside_31 rfl ls st H Q
theorem r115_32 : sw_A 115 32 ls st H Q = (sw_ldi False ls 3 fun x => sw_A 115 33 ls (.int x :: st) H Q) := sw_A_step (cc := cX2_offerBeside) rfl dX2_offerBeside_32 rfl ls st H Q
theorem r115_33 : sw_A 115 33 ls st H Q = (sw_ldi False ls 4 fun x => sw_A 115 35 ls (.int x :: st) H Q) := sw_A_step (cc := cX2_offerBeside) rfl dX2_offerBeside_33 rfl ls st H Q
theorem r115_35 : sw_A 115 35 ls st H Q = (sw_ldi False ls 6 fun x => sw_A 115 37 ls (.int x :: st) H Q) := sw_A_step (cc := cX2_offerBeside) rfl dX2_offerBeside_35 rfl ls st H Q
theorem r115_37 : sw_A 115 37 ls st H Q = (sw_pop False 2 st [] fun args r => sw_ck False r (sw_M 90 args H (sw_K 115 40 none ls r Q))) := sw_A_step (cc := cX2_offerBeside) rfl dX2_offerBeside_37 rfl ls st H Q
theorem r115_40 : sw_A 115 40 ls st H Q = (sw_pop False 3 st [] fun args r => sw_ck False r (sw_rc False H (some 8) args (sw_M 106 args H (sw_K 115 43 none ls r Q)))) := sw_A_step (cc := cX2_offerBeside) rfl dX2_offerBeside_40 rfl ls st H Q
theorem r115_43 : sw_A 115 43 ls st H Q = (sw_has1 False ls 7 (sw_i1 False st fun x r => sw_A 115 45 (sw_set1 ls 7 (.int x)) r H Q)) := sw_A_step (cc := cX2_offerBeside) rfl dX2_offerBeside_43 rfl ls st H Q
theorem r115_45 : sw_A 115 45 ls st H Q = (sw_lda False ls 0 fun x => sw_A 115 46 ls (.ref x :: st) H Q) := sw_A_step (cc := cX2_offerBeside) rfl dX2_offerBeside_45 rfl ls st H Q
theorem r115_46 : sw_A 115 46 ls st H Q = (sw_r1 False st fun a r => sw_gf False H (some (2, 2, 1)) a fun v => sw_A 115 49 ls (v :: r) H Q) := sw_A_step (cc := cX2_offerBeside) rfl dX2_offerBeside_46 rfl ls st H Q
theorem r115_49 : sw_A 115 49 ls st H Q = (sw_ldi False ls 6 fun x => sw_A 115 51 ls (.int x :: st) H Q) := sw_A_step (cc := cX2_offerBeside) rfl dX2_offerBeside_49 rfl ls st H Q
theorem r115_51 : sw_A 115 51 ls st H Q = (sw_lda False ls 0 fun x => sw_A 115 52 ls (.ref x :: st) H Q) := sw_A_step (cc := cX2_offerBeside) rfl dX2_offerBeside_51 rfl ls st H Q
theorem r115_52 : sw_A 115 52 ls st H Q = (sw_r1 False st fun a r => sw_gf False H (some (2, 2, 1)) a fun v => sw_A 115 55 ls (v :: r) H Q) := sw_A_step (cc := cX2_offerBeside) rfl dX2_offerBeside_52 rfl ls st H Q
theorem r115_55 : sw_A 115 55 ls st H Q = (sw_r1 False st fun a r => sw_gf False H (some (3, 0, 1)) a fun v => sw_A 115 58 ls (v :: r) H Q) := sw_A_step (cc := cX2_offerBeside) rfl dX2_offerBeside_55 rfl ls st H Q
theorem r115_58 : sw_A 115 58 ls st H Q = (sw_ldi False ls 4 fun x => sw_A 115 60 ls (.int x :: st) H Q) := sw_A_step (cc := cX2_offerBeside) rfl dX2_offerBeside_58 rfl ls st H Q
theorem r115_60 : sw_A 115 60 ls st H Q = (sw_ri False st fun a i r => sw_ald False H 0 a i fun x => sw_A 115 61 ls (.int x :: r) H Q) := sw_A_step (cc := cX2_offerBeside) rfl dX2_offerBeside_60 rfl ls st H Q
theorem r115_61 : sw_A 115 61 ls st H Q = (sw_ldi False ls 7 fun x => sw_A 115 63 ls (.int x :: st) H Q) := sw_A_step (cc := cX2_offerBeside) rfl dX2_offerBeside_61 rfl ls st H Q
theorem r115_63 : sw_A 115 63 ls st H Q = (sw_pop False 2 st [] fun args r => sw_ck False r (sw_M 67 args H (sw_K 115 66 none ls r Q))) := sw_A_step (cc := cX2_offerBeside) rfl dX2_offerBeside_63 rfl ls st H Q
theorem r115_66 : sw_A 115 66 ls st H Q = (sw_pop False 3 st [] fun args r => sw_ck False r (sw_rc False H (some 3) args (sw_M 112 args H (sw_K 115 69 none ls r Q)))) := sw_A_step (cc := cX2_offerBeside) rfl dX2_offerBeside_66 rfl ls st H Q
theorem r115_69 : sw_A 115 69 ls st H Q = (sw_ldi False ls 5 fun x => sw_A 115 72 (sw_set1 ls 5 (.int (x + Int32.ofInt 1))) st H Q) := sw_A_step (cc := cX2_offerBeside) rfl dX2_offerBeside_69 rfl ls st H Q
theorem r115_72 : sw_A 115 72 ls st H Q = (sw_A 115 3 ls st H Q) := sw_A_step (cc := cX2_offerBeside) rfl dX2_offerBeside_72 rfl ls st H Q
theorem r115_75 : sw_A 115 75 ls st H Q = (match st with | [] => Q (some none) H | _ => False) := sw_A_step (cc := cX2_offerBeside) rfl dX2_offerBeside_75 rfl ls st H Q
theorem r116_0 : sw_A 116 0 ls st H Q = (sw_lda False ls 0 fun x => sw_A 116 1 ls (.ref x :: st) H Q) := sw_A_step (cc := cX2_byBestWay) rfl dX2_byBestWay_0 rfl ls st H Q
theorem r116_1 : sw_A 116 1 ls st H Q = (sw_lda False ls 2 fun x => sw_A 116 2 ls (.ref x :: st) H Q) := sw_A_step (cc := cX2_byBestWay) rfl dX2_byBestWay_1 rfl ls st H Q
theorem r116_2 : sw_A 116 2 ls st H Q = (sw_ldi False ls 4 fun x => sw_A 116 4 ls (.int x :: st) H Q) := sw_A_step (cc := cX2_byBestWay) rfl dX2_byBestWay_2 rfl ls st H Q
theorem r116_4 : sw_A 116 4 ls st H Q = (sw_i1 False st fun x r => if x = 0 then sw_A 116 11 ls r H Q else sw_A 116 7 ls r H Q) := sw_A_step (cc := cX2_byBestWay) rfl dX2_byBestWay_4 rfl ls st H Q
theorem r116_7 : sw_A 116 7 ls st H Q = (sw_A 116 8 ls (.int (Int32.ofInt 0) :: st) H Q) := sw_A_step (cc := cX2_byBestWay) rfl dX2_byBestWay_7 rfl ls st H Q
theorem r116_8 : sw_A 116 8 ls st H Q = (sw_A 116 12 ls st H Q) := sw_A_step (cc := cX2_byBestWay) rfl dX2_byBestWay_8 rfl ls st H Q
theorem r116_11 : sw_A 116 11 ls st H Q = (sw_A 116 12 ls (.int (Int32.ofInt 1) :: st) H Q) := sw_A_step (cc := cX2_byBestWay) rfl dX2_byBestWay_11 rfl ls st H Q
theorem r116_12 : sw_A 116 12 ls st H Q = (sw_pop False 3 st [] fun args r => sw_ck False r (sw_rc False H (some 2) args (sw_M 113 args H (sw_K 116 15 none ls r Q)))) := sw_A_step (cc := cX2_byBestWay) rfl dX2_byBestWay_12 rfl ls st H Q
theorem r116_15 : sw_A 116 15 ls st H Q = (sw_A 116 16 ls (.int (Int32.ofInt 0) :: st) H Q) := sw_A_step (cc := cX2_byBestWay) rfl dX2_byBestWay_15 rfl ls st H Q
theorem r116_16 : sw_A 116 16 ls st H Q = (sw_has1 False ls 5 (sw_i1 False st fun x r => sw_A 116 18 (sw_set1 ls 5 (.int x)) r H Q)) := sw_A_step (cc := cX2_byBestWay) rfl dX2_byBestWay_16 rfl ls st H Q
theorem r116_18 : sw_A 116 18 ls st H Q = (sw_ldi False ls 5 fun x => sw_A 116 20 ls (.int x :: st) H Q) := sw_A_step (cc := cX2_byBestWay) rfl dX2_byBestWay_18 rfl ls st H Q
theorem r116_20 : sw_A 116 20 ls st H Q = (sw_A 116 22 ls (.int (Int32.ofInt 36) :: st) H Q) := sw_A_step (cc := cX2_byBestWay) rfl dX2_byBestWay_20 rfl ls st H Q
theorem r116_22 : sw_A 116 22 ls st H Q = (sw_i2 False st fun x y r => if y ≤ x then sw_A 116 89 ls r H Q else sw_A 116 25 ls r H Q) := sw_A_step (cc := cX2_byBestWay) rfl dX2_byBestWay_22 rfl ls st H Q
theorem r116_25 : sw_A 116 25 ls st H Q = (sw_lda False ls 0 fun x => sw_A 116 26 ls (.ref x :: st) H Q) := sw_A_step (cc := cX2_byBestWay) rfl dX2_byBestWay_25 rfl ls st H Q
theorem r116_26 : sw_A 116 26 ls st H Q = (sw_r1 False st fun a r => sw_gf False H (some (2, 2, 1)) a fun v => sw_A 116 29 ls (v :: r) H Q) := sw_A_step (cc := cX2_byBestWay) rfl dX2_byBestWay_26 rfl ls st H Q
theorem r116_29 : sw_A 116 29 ls st H Q = (sw_pop False 1 st [] fun args r => sw_ck False r (sw_rc False H (some 3) args (sw_M 114 args H (sw_K 116 32 none ls r Q)))) := sw_A_step (cc := cX2_byBestWay) rfl dX2_byBestWay_29 rfl ls st H Q
theorem r116_32 : sw_A 116 32 ls st H Q = (sw_has1 False ls 6 (sw_i1 False st fun x r => sw_A 116 34 (sw_set1 ls 6 (.int x)) r H Q)) := sw_A_step (cc := cX2_byBestWay) rfl dX2_byBestWay_32 rfl ls st H Q
theorem r116_34 : sw_A 116 34 ls st H Q = (sw_ldi False ls 6 fun x => sw_A 116 36 ls (.int x :: st) H Q) := sw_A_step (cc := cX2_byBestWay) rfl dX2_byBestWay_34 rfl ls st H Q
theorem r116_36 : sw_A 116 36 ls st H Q = (sw_A 116 37 ls (.int (Int32.ofInt (-1)) :: st) H Q) := sw_A_step (cc := cX2_byBestWay) rfl dX2_byBestWay_36 rfl ls st H Q
theorem r116_37 : sw_A 116 37 ls st H Q = (sw_i2 False st fun x y r => if ¬ x = y then sw_A 116 43 ls r H Q else sw_A 116 40 ls r H Q) := sw_A_step (cc := cX2_byBestWay) rfl dX2_byBestWay_37 rfl ls st H Q
theorem r116_40 : sw_A 116 40 ls st H Q = (sw_A 116 89 ls st H Q) := sw_A_step (cc := cX2_byBestWay) rfl dX2_byBestWay_40 rfl ls st H Q
theorem r116_43 : sw_A 116 43 ls st H Q = (sw_ldi False ls 6 fun x => sw_A 116 45 ls (.int x :: st) H Q) := sw_A_step (cc := cX2_byBestWay) rfl dX2_byBestWay_43 rfl ls st H Q
theorem r116_45 : sw_A 116 45 ls st H Q = (sw_ldi False ls 4 fun x => sw_A 116 47 ls (.int x :: st) H Q) := sw_A_step (cc := cX2_byBestWay) rfl dX2_byBestWay_45 rfl ls st H Q
theorem r116_47 : sw_A 116 47 ls st H Q = (sw_i1 False st fun x r => if x = 0 then sw_A 116 54 ls r H Q else sw_A 116 50 ls r H Q) := sw_A_step (cc := cX2_byBestWay) rfl dX2_byBestWay_47 rfl ls st H Q
theorem r116_50 : sw_A 116 50 ls st H Q = (sw_A 116 51 ls (.int (Int32.ofInt 3) :: st) H Q) := sw_A_step (cc := cX2_byBestWay) rfl dX2_byBestWay_50 rfl ls st H Q
theorem r116_51 : sw_A 116 51 ls st H Q = (sw_A 116 55 ls st H Q) := sw_A_step (cc := cX2_byBestWay) rfl dX2_byBestWay_51 rfl ls st H Q
theorem r116_54 : sw_A 116 54 ls st H Q = (sw_A 116 55 ls (.int (Int32.ofInt 2) :: st) H Q) := sw_A_step (cc := cX2_byBestWay) rfl dX2_byBestWay_54 rfl ls st H Q
theorem r116_55 : sw_A 116 55 ls st H Q = (sw_pop False 2 st [] fun args r => sw_ck False r (sw_M 73 args H (sw_K 116 58 none ls r Q))) := sw_A_step (cc := cX2_byBestWay) rfl dX2_byBestWay_55 rfl ls st H Q
theorem r116_58 : sw_A 116 58 ls st H Q = (sw_i1 False st fun x r => if x = 0 then sw_A 116 74 ls r H Q else sw_A 116 61 ls r H Q) := sw_A_step (cc := cX2_byBestWay) rfl dX2_byBestWay_58 rfl ls st H Q
theorem r116_61 : sw_A 116 61 ls st H Q = (sw_lda False ls 0 fun x => sw_A 116 62 ls (.ref x :: st) H Q) := sw_A_step (cc := cX2_byBestWay) rfl dX2_byBestWay_61 rfl ls st H Q
theorem r116_62 : sw_A 116 62 ls st H Q = (sw_r1 False st fun a r => sw_gf False H (some (2, 2, 1)) a fun v => sw_A 116 65 ls (v :: r) H Q) := sw_A_step (cc := cX2_byBestWay) rfl dX2_byBestWay_62 rfl ls st H Q
theorem r116_65 : sw_A 116 65 ls st H Q = (sw_r1 False st fun a r => sw_gf False H (some (3, 0, 1)) a fun v => sw_A 116 68 ls (v :: r) H Q) := sw_A_step (cc := cX2_byBestWay) rfl dX2_byBestWay_65 rfl ls st H Q
theorem r116_68 : sw_A 116 68 ls st H Q = (sw_ldi False ls 6 fun x => sw_A 116 70 ls (.int x :: st) H Q) := sw_A_step (cc := cX2_byBestWay) rfl dX2_byBestWay_68 rfl ls st H Q
theorem r116_70 : sw_A 116 70 ls st H Q = (sw_ri False st fun a i r => sw_ald False H 0 a i fun x => sw_A 116 71 ls (.int x :: r) H Q) := sw_A_step (cc := cX2_byBestWay) rfl dX2_byBestWay_70 rfl ls st H Q
theorem r116_71 : sw_A 116 71 ls st H Q = (sw_A 116 72 ls (.int (Int32.ofInt 1) :: st) H Q) := sw_A_step (cc := cX2_byBestWay) rfl dX2_byBestWay_71 rfl ls st H Q
theorem r116_72 : sw_A 116 72 ls st H Q = (sw_i2 False st fun x y r => sw_A 116 73 ls (.int (x + y) :: r) H Q) := sw_A_step (cc := cX2_byBestWay) rfl dX2_byBestWay_72 rfl ls st H Q
theorem r116_73 : sw_A 116 73 ls st H Q = (match st with | [.int x] => Q (some (some (.int x))) H | _ => False) := sw_A_step (cc := cX2_byBestWay) rfl dX2_byBestWay_73 rfl ls st H Q
theorem r116_74 : sw_A 116 74 ls st H Q = (sw_lda False ls 0 fun x => sw_A 116 75 ls (.ref x :: st) H Q) := sw_A_step (cc := cX2_byBestWay) rfl dX2_byBestWay_74 rfl ls st H Q
theorem r116_75 : sw_A 116 75 ls st H Q = (sw_lda False ls 1 fun x => sw_A 116 76 ls (.ref x :: st) H Q) := sw_A_step (cc := cX2_byBestWay) rfl dX2_byBestWay_75 rfl ls st H Q
theorem r116_76 : sw_A 116 76 ls st H Q = (sw_lda False ls 2 fun x => sw_A 116 77 ls (.ref x :: st) H Q) := sw_A_step (cc := cX2_byBestWay) rfl dX2_byBestWay_76 rfl ls st H Q
theorem r116_77 : sw_A 116 77 ls st H Q = (sw_ldi False ls 3 fun x => sw_A 116 78 ls (.int x :: st) H Q) := sw_A_step (cc := cX2_byBestWay) rfl dX2_byBestWay_77 rfl ls st H Q
theorem r116_78 : sw_A 116 78 ls st H Q = (sw_ldi False ls 6 fun x => sw_A 116 80 ls (.int x :: st) H Q) := sw_A_step (cc := cX2_byBestWay) rfl dX2_byBestWay_78 rfl ls st H Q
theorem r116_80 : sw_A 116 80 ls st H Q = (sw_pop False 5 st [] fun args r => sw_ck False r (sw_rc False H (some 2) args (sw_M 115 args H (sw_K 116 83 none ls r Q)))) := sw_A_step (cc := cX2_byBestWay) rfl dX2_byBestWay_80 rfl ls st H Q
theorem r116_83 : sw_A 116 83 ls st H Q = (sw_ldi False ls 5 fun x => sw_A 116 86 (sw_set1 ls 5 (.int (x + Int32.ofInt 1))) st H Q) := sw_A_step (cc := cX2_byBestWay) rfl dX2_byBestWay_83 rfl ls st H Q
theorem r116_86 : sw_A 116 86 ls st H Q = (sw_A 116 18 ls st H Q) := sw_A_step (cc := cX2_byBestWay) rfl dX2_byBestWay_86 rfl ls st H Q
theorem r116_89 : sw_A 116 89 ls st H Q = (sw_A 116 90 ls (.int (Int32.ofInt (-1)) :: st) H Q) := sw_A_step (cc := cX2_byBestWay) rfl dX2_byBestWay_89 rfl ls st H Q
theorem r116_90 : sw_A 116 90 ls st H Q = (match st with | [.int x] => Q (some (some (.int x))) H | _ => False) := sw_A_step (cc := cX2_byBestWay) rfl dX2_byBestWay_90 rfl ls st H Q
theorem r117_0 : sw_A 117 0 ls st H Q = (sw_ldi False ls 1 fun x => sw_A 117 1 ls (.int x :: st) H Q) := sw_A_step (cc := cX11_edgeAnew) rfl dX11_edgeAnew_0 rfl ls st H Q
theorem r117_1 : sw_A 117 1 ls st H Q = (sw_pop False 1 st [] fun args r => sw_ck False r (sw_M 85 args H (sw_K 117 4 none ls r Q))) := sw_A_step (cc := cX11_edgeAnew) rfl dX11_edgeAnew_1 rfl ls st H Q
theorem r117_4 : sw_A 117 4 ls st H Q = (sw_lda False ls 0 fun x => sw_A 117 5 ls (.ref x :: st) H Q) := sw_A_step (cc := cX11_edgeAnew) rfl dX11_edgeAnew_4 rfl ls st H Q
theorem r117_5 : sw_A 117 5 ls st H Q = (sw_r1 False st fun a r => sw_gf False H (some (11, 5, 1)) a fun v => sw_A 117 8 ls (v :: r) H Q) := sw_A_step (cc := cX11_edgeAnew) rfl dX11_edgeAnew_5 rfl ls st H Q
theorem r117_8 : sw_A 117 8 ls st H Q = (sw_lda False ls 0 fun x => sw_A 117 9 ls (.ref x :: st) H Q) := sw_A_step (cc := cX11_edgeAnew) rfl dX11_edgeAnew_8 rfl ls st H Q
theorem r117_9 : sw_A 117 9 ls st H Q = (sw_r1 False st fun a r => sw_gf False H (some (11, 0, 1)) a fun v => sw_A 117 12 ls (v :: r) H Q) := sw_A_step (cc := cX11_edgeAnew) rfl dX11_edgeAnew_9 rfl ls st H Q
theorem r117_12 : sw_A 117 12 ls st H Q = (sw_lda False ls 0 fun x => sw_A 117 13 ls (.ref x :: st) H Q) := sw_A_step (cc := cX11_edgeAnew) rfl dX11_edgeAnew_12 rfl ls st H Q
theorem r117_13 : sw_A 117 13 ls st H Q = (sw_r1 False st fun a r => sw_gf False H (some (11, 2, 1)) a fun v => sw_A 117 16 ls (v :: r) H Q) := sw_A_step (cc := cX11_edgeAnew) rfl dX11_edgeAnew_13 rfl ls st H Q
theorem r117_16 : sw_A 117 16 ls st H Q = (sw_r1 False st fun a r => sw_gf False H (some (7, 0, 1)) a fun v => sw_A 117 19 ls (v :: r) H Q) := sw_A_step (cc := cX11_edgeAnew) rfl dX11_edgeAnew_16 rfl ls st H Q
theorem r117_19 : sw_A 117 19 ls st H Q = (sw_ldi False ls 1 fun x => sw_A 117 20 ls (.int x :: st) H Q) := sw_A_step (cc := cX11_edgeAnew) rfl dX11_edgeAnew_19 rfl ls st H Q
theorem r117_20 : sw_A 117 20 ls st H Q = (sw_ldi False ls 2 fun x => sw_A 117 21 ls (.int x :: st) H Q) := sw_A_step (cc := cX11_edgeAnew) rfl dX11_edgeAnew_20 rfl ls st H Q
theorem r117_21 : sw_A 117 21 ls st H Q = (sw_pop False 5 st [] fun args r => sw_ck False r (sw_rc False H (some 2) args (sw_M 116 args H (sw_K 117 24 none ls r Q)))) := sw_A_step (cc := cX11_edgeAnew) rfl dX11_edgeAnew_21 rfl ls st H Q
theorem r117_24 : sw_A 117 24 ls st H Q = (match st with | [.int x] => Q (some (some (.int x))) H | _ => False) := sw_A_step (cc := cX11_edgeAnew) rfl dX11_edgeAnew_24 rfl ls st H Q
theorem r118_0 : sw_A 118 0 ls st H Q = (sw_A 118 2 ls (.int (Int32.ofInt 25) :: st) H Q) := sw_A_step (cc := cL_cheapest) rfl dL_cheapest_0 rfl ls st H Q
theorem r118_2 : sw_A 118 2 ls st H Q = (sw_i1 False st fun n r => sw_nw False H 0 n fun H1 => sw_A 118 4 ls (.ref H.2.1 :: r) H1 Q) := sw_A_step (cc := cL_cheapest) rfl dL_cheapest_2 rfl ls st H Q
theorem r118_4 : sw_A 118 4 ls st H Q = (sw_has1 False ls 6 (sw_r1 False st fun x r => sw_A 118 6 (sw_set1 ls 6 (.ref x)) r H Q)) := sw_A_step (cc := cL_cheapest) rfl dL_cheapest_4 rfl ls st H Q
theorem r118_6 : sw_A 118 6 ls st H Q = (sw_A 118 7 ls (.int (Int32.ofInt 0) :: st) H Q) := sw_A_step (cc := cL_cheapest) rfl dL_cheapest_6 rfl ls st H Q
theorem r118_7 : sw_A 118 7 ls st H Q = (sw_has1 False ls 7 (sw_i1 False st fun x r => sw_A 118 9 (sw_set1 ls 7 (.int x)) r H Q)) := sw_A_step (cc := cL_cheapest) rfl dL_cheapest_7 rfl ls st H Q
theorem r118_9 : sw_A 118 9 ls st H Q = (sw_ldi False ls 7 fun x => sw_A 118 11 ls (.int x :: st) H Q) := sw_A_step (cc := cL_cheapest) rfl dL_cheapest_9 rfl ls st H Q
theorem r118_11 : sw_A 118 11 ls st H Q = (sw_A 118 13 ls (.int (Int32.ofInt 25) :: st) H Q) := sw_A_step (cc := cL_cheapest) rfl dL_cheapest_11 rfl ls st H Q
theorem r118_13 : sw_A 118 13 ls st H Q = (sw_i2 False st fun x y r => if y ≤ x then sw_A 118 58 ls r H Q else sw_A 118 16 ls r H Q) := sw_A_step (cc := cL_cheapest) rfl dL_cheapest_13 rfl ls st H Q
theorem r118_16 : sw_A 118 16 ls st H Q = (sw_lda False ls 6 fun x => sw_A 118 18 ls (.ref x :: st) H Q) := sw_A_step (cc := cL_cheapest) rfl dL_cheapest_16 rfl ls st H Q
theorem r118_18 : sw_A 118 18 ls st H Q = (sw_ldi False ls 7 fun x => sw_A 118 20 ls (.int x :: st) H Q) := sw_A_step (cc := cL_cheapest) rfl dL_cheapest_18 rfl ls st H Q
theorem r118_20 : sw_A 118 20 ls st H Q = (sw_ldi False ls 7 fun x => sw_A 118 22 ls (.int x :: st) H Q) := sw_A_step (cc := cL_cheapest) rfl dL_cheapest_20 rfl ls st H Q
theorem r118_22 : sw_A 118 22 ls st H Q = (sw_A 118 23 ls (.int (Int32.ofInt 5) :: st) H Q) := sw_A_step (cc := cL_cheapest) rfl dL_cheapest_22 rfl ls st H Q
theorem r118_23 : sw_A 118 23 ls st H Q = (sw_i2 False st fun x y r => if y ≤ x then sw_A 118 49 ls r H Q else sw_A 118 26 ls r H Q) := sw_A_step (cc := cL_cheapest) rfl dL_cheapest_23 rfl ls st H Q
theorem r118_26 : sw_A 118 26 ls st H Q = (sw_lda False ls 0 fun x => sw_A 118 27 ls (.ref x :: st) H Q) := sw_A_step (cc := cL_cheapest) rfl dL_cheapest_26 rfl ls st H Q
theorem r118_27 : sw_A 118 27 ls st H Q = (sw_lda False ls 1 fun x => sw_A 118 28 ls (.ref x :: st) H Q) := sw_A_step (cc := cL_cheapest) rfl dL_cheapest_27 rfl ls st H Q
theorem r118_28 : sw_A 118 28 ls st H Q = (sw_ldl False ls 2 fun x => sw_A 118 29 ls (.long x :: st) H Q) := sw_A_step (cc := cL_cheapest) rfl dL_cheapest_28 rfl ls st H Q
theorem r118_29 : sw_A 118 29 ls st H Q = (sw_ldi False ls 4 fun x => sw_A 118 31 ls (.int x :: st) H Q) := sw_A_step (cc := cL_cheapest) rfl dL_cheapest_29 rfl ls st H Q
theorem r118_31 : sw_A 118 31 ls st H Q = (sw_ldi False ls 5 fun x => sw_A 118 33 ls (.int x :: st) H Q) := sw_A_step (cc := cL_cheapest) rfl dL_cheapest_31 rfl ls st H Q
theorem r118_33 : sw_A 118 33 ls st H Q = (sw_ldi False ls 7 fun x => sw_A 118 35 ls (.int x :: st) H Q) := sw_A_step (cc := cL_cheapest) rfl dL_cheapest_33 rfl ls st H Q
theorem r118_35 : sw_A 118 35 ls st H Q = (sw_pop False 6 st [] fun args r => sw_ck False r (sw_M 82 args H (sw_K 118 38 none ls r Q))) := sw_A_step (cc := cL_cheapest) rfl dL_cheapest_35 rfl ls st H Q
theorem r118_38 : sw_A 118 38 ls st H Q = (sw_i1 False st fun x r => if x = 0 then sw_A 118 45 ls r H Q else sw_A 118 41 ls r H Q) := sw_A_step (cc := cL_cheapest) rfl dL_cheapest_38 rfl ls st H Q
theorem r118_41 : sw_A 118 41 ls st H Q = (sw_A 118 42 ls (.int (Int32.ofInt 1) :: st) H Q) := sw_A_step (cc := cL_cheapest) rfl dL_cheapest_41 rfl ls st H Q
theorem r118_42 : sw_A 118 42 ls st H Q = (sw_A 118 51 ls st H Q) := sw_A_step (cc := cL_cheapest) rfl dL_cheapest_42 rfl ls st H Q
theorem r118_45 : sw_A 118 45 ls st H Q = (sw_A 118 46 ls (.int (Int32.ofInt 0) :: st) H Q) := sw_A_step (cc := cL_cheapest) rfl dL_cheapest_45 rfl ls st H Q
theorem r118_46 : sw_A 118 46 ls st H Q = (sw_A 118 51 ls st H Q) := sw_A_step (cc := cL_cheapest) rfl dL_cheapest_46 rfl ls st H Q
theorem r118_49 : sw_A 118 49 ls st H Q = (sw_A 118 51 ls (.int (Int32.ofInt 99) :: st) H Q) := sw_A_step (cc := cL_cheapest) rfl dL_cheapest_49 rfl ls st H Q
theorem r118_51 : sw_A 118 51 ls st H Q = (sw_rix False st fun a i x r => sw_ast False H 0 a i x fun H1 => sw_A 118 52 ls r H1 Q) := sw_A_step (cc := cL_cheapest) rfl dL_cheapest_51 rfl ls st H Q
theorem r118_52 : sw_A 118 52 ls st H Q = (sw_ldi False ls 7 fun x => sw_A 118 55 (sw_set1 ls 7 (.int (x + Int32.ofInt 1))) st H Q) := sw_A_step (cc := cL_cheapest) rfl dL_cheapest_52 rfl ls st H Q
theorem r118_55 : sw_A 118 55 ls st H Q = (sw_A 118 9 ls st H Q) := sw_A_step (cc := cL_cheapest) rfl dL_cheapest_55 rfl ls st H Q
theorem r118_58 : sw_A 118 58 ls st H Q = (sw_A 118 59 ls (.int (Int32.ofInt 1) :: st) H Q) := sw_A_step (cc := cL_cheapest) rfl dL_cheapest_58 rfl ls st H Q
theorem r118_59 : sw_A 118 59 ls st H Q = (sw_has1 False ls 7 (sw_i1 False st fun x r => sw_A 118 61 (sw_set1 ls 7 (.int x)) r H Q)) := sw_A_step (cc := cL_cheapest) rfl dL_cheapest_59 rfl ls st H Q
theorem r118_61 : sw_A 118 61 ls st H Q = (sw_ldi False ls 7 fun x => sw_A 118 63 ls (.int x :: st) H Q) := sw_A_step (cc := cL_cheapest) rfl dL_cheapest_61 rfl ls st H Q
theorem r118_63 : sw_A 118 63 ls st H Q = (sw_i1 False st fun x r => if x = 0 then sw_A 118 348 ls r H Q else sw_A 118 66 ls r H Q) := sw_A_step (cc := cL_cheapest) rfl dL_cheapest_63 rfl ls st H Q
theorem r118_66 : sw_A 118 66 ls st H Q = (sw_A 118 67 ls (.int (Int32.ofInt 0) :: st) H Q) := sw_A_step (cc := cL_cheapest) rfl dL_cheapest_66 rfl ls st H Q
theorem r118_67 : sw_A 118 67 ls st H Q = (sw_has1 False ls 7 (sw_i1 False st fun x r => sw_A 118 69 (sw_set1 ls 7 (.int x)) r H Q)) := sw_A_step (cc := cL_cheapest) rfl dL_cheapest_67 rfl ls st H Q
theorem r118_69 : sw_A 118 69 ls st H Q = (sw_A 118 70 ls (.int (Int32.ofInt 0) :: st) H Q) := sw_A_step (cc := cL_cheapest) rfl dL_cheapest_69 rfl ls st H Q
theorem r118_70 : sw_A 118 70 ls st H Q = (sw_has1 False ls 8 (sw_i1 False st fun x r => sw_A 118 72 (sw_set1 ls 8 (.int x)) r H Q)) := sw_A_step (cc := cL_cheapest) rfl dL_cheapest_70 rfl ls st H Q
theorem r118_72 : sw_A 118 72 ls st H Q = (sw_ldi False ls 8 fun x => sw_A 118 74 ls (.int x :: st) H Q) := sw_A_step (cc := cL_cheapest) rfl dL_cheapest_72 rfl ls st H Q
theorem r118_74 : sw_A 118 74 ls st H Q = (sw_A 118 76 ls (.int (Int32.ofInt 25) :: st) H Q) := sw_A_step (cc := cL_cheapest) rfl dL_cheapest_74 rfl ls st H Q
theorem r118_76 : sw_A 118 76 ls st H Q = (sw_i2 False st fun x y r => if y ≤ x then sw_A 118 345 ls r H Q else sw_A 118 79 ls r H Q) := sw_A_step (cc := cL_cheapest) rfl dL_cheapest_76 rfl ls st H Q
theorem r118_79 : sw_A 118 79 ls st H Q = (sw_A 118 80 ls (.int (Int32.ofInt 0) :: st) H Q) := sw_A_step (cc := cL_cheapest) rfl dL_cheapest_79 rfl ls st H Q
theorem r118_80 : sw_A 118 80 ls st H Q = (sw_has1 False ls 9 (sw_i1 False st fun x r => sw_A 118 82 (sw_set1 ls 9 (.int x)) r H Q)) := sw_A_step (cc := cL_cheapest) rfl dL_cheapest_80 rfl ls st H Q
theorem r118_82 : sw_A 118 82 ls st H Q = (sw_ldi False ls 9 fun x => sw_A 118 84 ls (.int x :: st) H Q) := sw_A_step (cc := cL_cheapest) rfl dL_cheapest_82 rfl ls st H Q
theorem r118_84 : sw_A 118 84 ls st H Q = (sw_A 118 85 ls (.int (Int32.ofInt 4) :: st) H Q) := sw_A_step (cc := cL_cheapest) rfl dL_cheapest_84 rfl ls st H Q
theorem r118_85 : sw_A 118 85 ls st H Q = (sw_i2 False st fun x y r => if y ≤ x then sw_A 118 339 ls r H Q else sw_A 118 88 ls r H Q) := sw_A_step (cc := cL_cheapest) rfl dL_cheapest_85 rfl ls st H Q
theorem r118_88 : sw_A 118 88 ls st H Q = (sw_ldi False ls 8 fun x => sw_A 118 90 ls (.int x :: st) H Q) := sw_A_step (cc := cL_cheapest) rfl dL_cheapest_88 rfl ls st H Q
theorem r118_90 : sw_A 118 90 ls st H Q = (sw_A 118 91 ls (.int (Int32.ofInt 5) :: st) H Q) := sw_A_step (cc := cL_cheapest) rfl dL_cheapest_90 rfl ls st H Q
theorem r118_91 : sw_A 118 91 ls st H Q = (sw_i2 False st fun x y r => if y = 0 then False else sw_A 118 92 ls (.int (x / y) :: r) H Q) := sw_A_step (cc := cL_cheapest) rfl dL_cheapest_91 rfl ls st H Q
theorem r118_92 : sw_A 118 92 ls st H Q = (sw_has1 False ls 10 (sw_i1 False st fun x r => sw_A 118 94 (sw_set1 ls 10 (.int x)) r H Q)) := sw_A_step (cc := cL_cheapest) rfl dL_cheapest_92 rfl ls st H Q
theorem r118_94 : sw_A 118 94 ls st H Q = (sw_ldi False ls 8 fun x => sw_A 118 96 ls (.int x :: st) H Q) := sw_A_step (cc := cL_cheapest) rfl dL_cheapest_94 rfl ls st H Q
theorem r118_96 : sw_A 118 96 ls st H Q = (sw_A 118 97 ls (.int (Int32.ofInt 5) :: st) H Q) := sw_A_step (cc := cL_cheapest) rfl dL_cheapest_96 rfl ls st H Q
theorem r118_97 : sw_A 118 97 ls st H Q = (sw_i2 False st fun x y r => if y = 0 then False else sw_A 118 98 ls (.int (x - x / y * y) :: r) H Q) := sw_A_step (cc := cL_cheapest) rfl dL_cheapest_97 rfl ls st H Q
theorem r118_98 : sw_A 118 98 ls st H Q = (sw_has1 False ls 11 (sw_i1 False st fun x r => sw_A 118 100 (sw_set1 ls 11 (.int x)) r H Q)) := sw_A_step (cc := cL_cheapest) rfl dL_cheapest_98 rfl ls st H Q
theorem r118_100 : sw_A 118 100 ls st H Q = (sw_ldi False ls 9 fun x => sw_A 118 102 ls (.int x :: st) H Q) := sw_A_step (cc := cL_cheapest) rfl dL_cheapest_100 rfl ls st H Q
theorem r118_102 : sw_A 118 102 ls st H Q = (sw_i1 False st fun x r => if ¬ x = 0 then sw_A 118 118 ls r H Q else sw_A 118 105 ls r H Q) := sw_A_step (cc := cL_cheapest) rfl dL_cheapest_102 rfl ls st H Q
theorem r118_105 : sw_A 118 105 ls st H Q = (sw_ldi False ls 10 fun x => sw_A 118 107 ls (.int x :: st) H Q) := sw_A_step (cc := cL_cheapest) rfl dL_cheapest_105 rfl ls st H Q
theorem r118_107 : sw_A 118 107 ls st H Q = (sw_i1 False st fun x r => if x ≤ 0 then sw_A 118 114 ls r H Q else sw_A 118 110 ls r H Q) := sw_A_step (cc := cL_cheapest) rfl dL_cheapest_107 rfl ls st H Q
theorem r118_110 : sw_A 118 110 ls st H Q = (sw_A 118 111 ls (.int (Int32.ofInt 1) :: st) H Q) := sw_A_step (cc := cL_cheapest) rfl dL_cheapest_110 rfl ls st H Q
theorem r118_111 : sw_A 118 111 ls st H Q = (sw_A 118 168 ls st H Q) := sw_A_step (cc := cL_cheapest) rfl dL_cheapest_111 rfl ls st H Q
theorem r118_114 : sw_A 118 114 ls st H Q = (sw_A 118 115 ls (.int (Int32.ofInt 0) :: st) H Q) := sw_A_step (cc := cL_cheapest) rfl dL_cheapest_114 rfl ls st H Q
theorem r118_115 : sw_A 118 115 ls st H Q = (sw_A 118 168 ls st H Q) := sw_A_step (cc := cL_cheapest) rfl dL_cheapest_115 rfl ls st H Q
theorem r118_118 : sw_A 118 118 ls st H Q = (sw_ldi False ls 9 fun x => sw_A 118 120 ls (.int x :: st) H Q) := sw_A_step (cc := cL_cheapest) rfl dL_cheapest_118 rfl ls st H Q
theorem r118_120 : sw_A 118 120 ls st H Q = (sw_A 118 121 ls (.int (Int32.ofInt 1) :: st) H Q) := sw_A_step (cc := cL_cheapest) rfl dL_cheapest_120 rfl ls st H Q
theorem r118_121 : sw_A 118 121 ls st H Q = (sw_i2 False st fun x y r => if ¬ x = y then sw_A 118 138 ls r H Q else sw_A 118 124 ls r H Q) := sw_A_step (cc := cL_cheapest) rfl dL_cheapest_121 rfl ls st H Q
theorem r118_124 : sw_A 118 124 ls st H Q = (sw_ldi False ls 10 fun x => sw_A 118 126 ls (.int x :: st) H Q) := sw_A_step (cc := cL_cheapest) rfl dL_cheapest_124 rfl ls st H Q
theorem r118_126 : sw_A 118 126 ls st H Q = (sw_A 118 127 ls (.int (Int32.ofInt 4) :: st) H Q) := sw_A_step (cc := cL_cheapest) rfl dL_cheapest_126 rfl ls st H Q
theorem r118_127 : sw_A 118 127 ls st H Q = (sw_i2 False st fun x y r => if y ≤ x then sw_A 118 134 ls r H Q else sw_A 118 130 ls r H Q) := sw_A_step (cc := cL_cheapest) rfl dL_cheapest_127 rfl ls st H Q
theorem r118_130 : sw_A 118 130 ls st H Q = (sw_A 118 131 ls (.int (Int32.ofInt 1) :: st) H Q) := sw_A_step (cc := cL_cheapest) rfl dL_cheapest_130 rfl ls st H Q
theorem r118_131 : sw_A 118 131 ls st H Q = (sw_A 118 168 ls st H Q) := sw_A_step (cc := cL_cheapest) rfl dL_cheapest_131 rfl ls st H Q
theorem r118_134 : sw_A 118 134 ls st H Q = (sw_A 118 135 ls (.int (Int32.ofInt 0) :: st) H Q) := sw_A_step (cc := cL_cheapest) rfl dL_cheapest_134 rfl ls st H Q
theorem r118_135 : sw_A 118 135 ls st H Q = (sw_A 118 168 ls st H Q) := sw_A_step (cc := cL_cheapest) rfl dL_cheapest_135 rfl ls st H Q
theorem r118_138 : sw_A 118 138 ls st H Q = (sw_ldi False ls 9 fun x => sw_A 118 140 ls (.int x :: st) H Q) := sw_A_step (cc := cL_cheapest) rfl dL_cheapest_138 rfl ls st H Q
theorem r118_140 : sw_A 118 140 ls st H Q = (sw_A 118 141 ls (.int (Int32.ofInt 2) :: st) H Q) := sw_A_step (cc := cL_cheapest) rfl dL_cheapest_140 rfl ls st H Q
theorem r118_141 : sw_A 118 141 ls st H Q = (sw_i2 False st fun x y r => if ¬ x = y then sw_A 118 157 ls r H Q else sw_A 118 144 ls r H Q) := sw_A_step (cc := cL_cheapest) rfl dL_cheapest_141 rfl ls st H Q
theorem r118_144 : sw_A 118 144 ls st H Q = (sw_ldi False ls 11 fun x => sw_A 118 146 ls (.int x :: st) H Q) := sw_A_step (cc := cL_cheapest) rfl dL_cheapest_144 rfl ls st H Q
theorem r118_146 : sw_A 118 146 ls st H Q = (sw_i1 False st fun x r => if x ≤ 0 then sw_A 118 153 ls r H Q else sw_A 118 149 ls r H Q) := sw_A_step (cc := cL_cheapest) rfl dL_cheapest_146 rfl ls st H Q
theorem r118_149 : sw_A 118 149 ls st H Q = (sw_A 118 150 ls (.int (Int32.ofInt 1) :: st) H Q) := sw_A_step (cc := cL_cheapest) rfl dL_cheapest_149 rfl ls st H Q
theorem r118_150 : sw_A 118 150 ls st H Q = (sw_A 118 168 ls st H Q) := sw_A_step (cc := cL_cheapest) rfl dL_cheapest_150 rfl ls st H Q
theorem r118_153 : sw_A 118 153 ls st H Q = (sw_A 118 154 ls (.int (Int32.ofInt 0) :: st) H Q) := sw_A_step (cc := cL_cheapest) rfl dL_cheapest_153 rfl ls st H Q
theorem r118_154 : sw_A 118 154 ls st H Q = (sw_A 118 168 ls st H Q) := sw_A_step (cc := cL_cheapest) rfl dL_cheapest_154 rfl ls st H Q
theorem r118_157 : sw_A 118 157 ls st H Q = (sw_ldi False ls 11 fun x => sw_A 118 159 ls (.int x :: st) H Q) := sw_A_step (cc := cL_cheapest) rfl dL_cheapest_157 rfl ls st H Q
theorem r118_159 : sw_A 118 159 ls st H Q = (sw_A 118 160 ls (.int (Int32.ofInt 4) :: st) H Q) := sw_A_step (cc := cL_cheapest) rfl dL_cheapest_159 rfl ls st H Q
theorem r118_160 : sw_A 118 160 ls st H Q = (sw_i2 False st fun x y r => if y ≤ x then sw_A 118 167 ls r H Q else sw_A 118 163 ls r H Q) := sw_A_step (cc := cL_cheapest) rfl dL_cheapest_160 rfl ls st H Q
theorem r118_163 : sw_A 118 163 ls st H Q = (sw_A 118 164 ls (.int (Int32.ofInt 1) :: st) H Q) := sw_A_step (cc := cL_cheapest) rfl dL_cheapest_163 rfl ls st H Q
theorem r118_164 : sw_A 118 164 ls st H Q = (sw_A 118 168 ls st H Q) := sw_A_step (cc := cL_cheapest) rfl dL_cheapest_164 rfl ls st H Q
theorem r118_167 : sw_A 118 167 ls st H Q = (sw_A 118 168 ls (.int (Int32.ofInt 0) :: st) H Q) := sw_A_step (cc := cL_cheapest) rfl dL_cheapest_167 rfl ls st H Q
theorem r118_168 : sw_A 118 168 ls st H Q = (sw_has1 False ls 12 (sw_i1 False st fun x r => sw_A 118 170 (sw_set1 ls 12 (.int x)) r H Q)) := sw_A_step (cc := cL_cheapest) rfl dL_cheapest_168 rfl ls st H Q
theorem r118_170 : sw_A 118 170 ls st H Q = (sw_ldi False ls 9 fun x => sw_A 118 172 ls (.int x :: st) H Q) := sw_A_step (cc := cL_cheapest) rfl dL_cheapest_170 rfl ls st H Q
theorem r118_172 : sw_A 118 172 ls st H Q = (sw_i1 False st fun x r => if ¬ x = 0 then sw_A 118 185 ls r H Q else sw_A 118 175 ls r H Q) := sw_A_step (cc := cL_cheapest) rfl dL_cheapest_172 rfl ls st H Q
theorem r118_175 : sw_A 118 175 ls st H Q = (sw_A 118 176 ls (.int (Int32.ofInt 5) :: st) H Q) := sw_A_step (cc := cL_cheapest) rfl dL_cheapest_175 rfl ls st H Q
theorem r118_176 : sw_A 118 176 ls st H Q = (sw_ldi False ls 10 fun x => sw_A 118 178 ls (.int x :: st) H Q) := sw_A_step (cc := cL_cheapest) rfl dL_cheapest_176 rfl ls st H Q
theorem r118_178 : sw_A 118 178 ls st H Q = (sw_i2 False st fun x y r => sw_A 118 179 ls (.int (x * y) :: r) H Q) := sw_A_step (cc := cL_cheapest) rfl dL_cheapest_178 rfl ls st H Q
theorem r118_179 : sw_A 118 179 ls st H Q = (sw_ldi False ls 11 fun x => sw_A 118 181 ls (.int x :: st) H Q) := sw_A_step (cc := cL_cheapest) rfl dL_cheapest_179 rfl ls st H Q
theorem r118_181 : sw_A 118 181 ls st H Q = (sw_i2 False st fun x y r => sw_A 118 182 ls (.int (x + y) :: r) H Q) := sw_A_step (cc := cL_cheapest) rfl dL_cheapest_181 rfl ls st H Q
theorem r118_182 : sw_A 118 182 ls st H Q = (sw_A 118 234 ls st H Q) := sw_A_step (cc := cL_cheapest) rfl dL_cheapest_182 rfl ls st H Q
theorem r118_185 : sw_A 118 185 ls st H Q = (sw_ldi False ls 9 fun x => sw_A 118 187 ls (.int x :: st) H Q) := sw_A_step (cc := cL_cheapest) rfl dL_cheapest_185 rfl ls st H Q
theorem r118_187 : sw_A 118 187 ls st H Q = (sw_A 118 188 ls (.int (Int32.ofInt 1) :: st) H Q) := sw_A_step (cc := cL_cheapest) rfl dL_cheapest_187 rfl ls st H Q
theorem r118_188 : sw_A 118 188 ls st H Q = (sw_i2 False st fun x y r => if ¬ x = y then sw_A 118 203 ls r H Q else sw_A 118 191 ls r H Q) := sw_A_step (cc := cL_cheapest) rfl dL_cheapest_188 rfl ls st H Q
theorem r118_191 : sw_A 118 191 ls st H Q = (sw_A 118 192 ls (.int (Int32.ofInt 5) :: st) H Q) := sw_A_step (cc := cL_cheapest) rfl dL_cheapest_191 rfl ls st H Q
theorem r118_192 : sw_A 118 192 ls st H Q = (sw_ldi False ls 10 fun x => sw_A 118 194 ls (.int x :: st) H Q) := sw_A_step (cc := cL_cheapest) rfl dL_cheapest_192 rfl ls st H Q
theorem r118_194 : sw_A 118 194 ls st H Q = (sw_i2 False st fun x y r => sw_A 118 195 ls (.int (x * y) :: r) H Q) := sw_A_step (cc := cL_cheapest) rfl dL_cheapest_194 rfl ls st H Q
theorem r118_195 : sw_A 118 195 ls st H Q = (sw_A 118 196 ls (.int (Int32.ofInt 5) :: st) H Q) := sw_A_step (cc := cL_cheapest) rfl dL_cheapest_195 rfl ls st H Q
theorem r118_196 : sw_A 118 196 ls st H Q = (sw_i2 False st fun x y r => sw_A 118 197 ls (.int (x + y) :: r) H Q) := sw_A_step (cc := cL_cheapest) rfl dL_cheapest_196 rfl ls st H Q
theorem r118_197 : sw_A 118 197 ls st H Q = (sw_ldi False ls 11 fun x => sw_A 118 199 ls (.int x :: st) H Q) := sw_A_step (cc := cL_cheapest) rfl dL_cheapest_197 rfl ls st H Q
theorem r118_199 : sw_A 118 199 ls st H Q = (sw_i2 False st fun x y r => sw_A 118 200 ls (.int (x + y) :: r) H Q) := sw_A_step (cc := cL_cheapest) rfl dL_cheapest_199 rfl ls st H Q
theorem r118_200 : sw_A 118 200 ls st H Q = (sw_A 118 234 ls st H Q) := sw_A_step (cc := cL_cheapest) rfl dL_cheapest_200 rfl ls st H Q
theorem r118_203 : sw_A 118 203 ls st H Q = (sw_ldi False ls 9 fun x => sw_A 118 205 ls (.int x :: st) H Q) := sw_A_step (cc := cL_cheapest) rfl dL_cheapest_203 rfl ls st H Q
theorem r118_205 : sw_A 118 205 ls st H Q = (sw_A 118 206 ls (.int (Int32.ofInt 2) :: st) H Q) := sw_A_step (cc := cL_cheapest) rfl dL_cheapest_205 rfl ls st H Q
theorem r118_206 : sw_A 118 206 ls st H Q = (sw_i2 False st fun x y r => if ¬ x = y then sw_A 118 223 ls r H Q else sw_A 118 209 ls r H Q) := sw_A_step (cc := cL_cheapest) rfl dL_cheapest_206 rfl ls st H Q
theorem r118_209 : sw_A 118 209 ls st H Q = (sw_A 118 211 ls (.int (Int32.ofInt 30) :: st) H Q) := sw_A_step (cc := cL_cheapest) rfl dL_cheapest_209 rfl ls st H Q
theorem r118_211 : sw_A 118 211 ls st H Q = (sw_A 118 213 ls (.int (Int32.ofInt 6) :: st) H Q) := sw_A_step (cc := cL_cheapest) rfl dL_cheapest_211 rfl ls st H Q
theorem r118_213 : sw_A 118 213 ls st H Q = (sw_ldi False ls 10 fun x => sw_A 118 215 ls (.int x :: st) H Q) := sw_A_step (cc := cL_cheapest) rfl dL_cheapest_213 rfl ls st H Q
theorem r118_215 : sw_A 118 215 ls st H Q = (sw_i2 False st fun x y r => sw_A 118 216 ls (.int (x * y) :: r) H Q) := sw_A_step (cc := cL_cheapest) rfl dL_cheapest_215 rfl ls st H Q
theorem r118_216 : sw_A 118 216 ls st H Q = (sw_i2 False st fun x y r => sw_A 118 217 ls (.int (x + y) :: r) H Q) := sw_A_step (cc := cL_cheapest) rfl dL_cheapest_216 rfl ls st H Q
theorem r118_217 : sw_A 118 217 ls st H Q = (sw_ldi False ls 11 fun x => sw_A 118 219 ls (.int x :: st) H Q) := sw_A_step (cc := cL_cheapest) rfl dL_cheapest_217 rfl ls st H Q
theorem r118_219 : sw_A 118 219 ls st H Q = (sw_i2 False st fun x y r => sw_A 118 220 ls (.int (x + y) :: r) H Q) := sw_A_step (cc := cL_cheapest) rfl dL_cheapest_219 rfl ls st H Q
theorem r118_220 : sw_A 118 220 ls st H Q = (sw_A 118 234 ls st H Q) := sw_A_step (cc := cL_cheapest) rfl dL_cheapest_220 rfl ls st H Q
theorem r118_223 : sw_A 118 223 ls st H Q = (sw_A 118 225 ls (.int (Int32.ofInt 31) :: st) H Q) := sw_A_step (cc := cL_cheapest) rfl dL_cheapest_223 rfl ls st H Q
theorem r118_225 : sw_A 118 225 ls st H Q = (sw_A 118 227 ls (.int (Int32.ofInt 6) :: st) H Q) := sw_A_step (cc := cL_cheapest) rfl dL_cheapest_225 rfl ls st H Q
theorem r118_227 : sw_A 118 227 ls st H Q = (sw_ldi False ls 10 fun x => sw_A 118 229 ls (.int x :: st) H Q) := sw_A_step (cc := cL_cheapest) rfl dL_cheapest_227 rfl ls st H Q
theorem r118_229 : sw_A 118 229 ls st H Q = (sw_i2 False st fun x y r => sw_A 118 230 ls (.int (x * y) :: r) H Q) := sw_A_step (cc := cL_cheapest) rfl dL_cheapest_229 rfl ls st H Q
theorem r118_230 : sw_A 118 230 ls st H Q = (sw_i2 False st fun x y r => sw_A 118 231 ls (.int (x + y) :: r) H Q) := sw_A_step (cc := cL_cheapest) rfl dL_cheapest_230 rfl ls st H Q
theorem r118_231 : sw_A 118 231 ls st H Q = (sw_ldi False ls 11 fun x => sw_A 118 233 ls (.int x :: st) H Q) := sw_A_step (cc := cL_cheapest) rfl dL_cheapest_231 rfl ls st H Q
theorem r118_233 : sw_A 118 233 ls st H Q = (sw_i2 False st fun x y r => sw_A 118 234 ls (.int (x + y) :: r) H Q) := sw_A_step (cc := cL_cheapest) rfl dL_cheapest_233 rfl ls st H Q
theorem r118_234 : sw_A 118 234 ls st H Q = (sw_has1 False ls 13 (sw_i1 False st fun x r => sw_A 118 236 (sw_set1 ls 13 (.int x)) r H Q)) := sw_A_step (cc := cL_cheapest) rfl dL_cheapest_234 rfl ls st H Q
theorem r118_236 : sw_A 118 236 ls st H Q = (sw_ldi False ls 9 fun x => sw_A 118 238 ls (.int x :: st) H Q) := sw_A_step (cc := cL_cheapest) rfl dL_cheapest_236 rfl ls st H Q
theorem r118_238 : sw_A 118 238 ls st H Q = (sw_i1 False st fun x r => if ¬ x = 0 then sw_A 118 248 ls r H Q else sw_A 118 241 ls r H Q) := sw_A_step (cc := cL_cheapest) rfl dL_cheapest_238 rfl ls st H Q
theorem r118_241 : sw_A 118 241 ls st H Q = (sw_ldi False ls 8 fun x => sw_A 118 243 ls (.int x :: st) H Q) := sw_A_step (cc := cL_cheapest) rfl dL_cheapest_241 rfl ls st H Q
theorem r118_243 : sw_A 118 243 ls st H Q = (sw_A 118 244 ls (.int (Int32.ofInt 5) :: st) H Q) := sw_A_step (cc := cL_cheapest) rfl dL_cheapest_243 rfl ls st H Q
theorem r118_244 : sw_A 118 244 ls st H Q = (sw_i2 False st fun x y r => sw_A 118 245 ls (.int (x - y) :: r) H Q) := sw_A_step (cc := cL_cheapest) rfl dL_cheapest_244 rfl ls st H Q
theorem r118_245 : sw_A 118 245 ls st H Q = (sw_A 118 278 ls st H Q) := sw_A_step (cc := cL_cheapest) rfl dL_cheapest_245 rfl ls st H Q
theorem r118_248 : sw_A 118 248 ls st H Q = (sw_ldi False ls 9 fun x => sw_A 118 250 ls (.int x :: st) H Q) := sw_A_step (cc := cL_cheapest) rfl dL_cheapest_248 rfl ls st H Q
theorem r118_250 : sw_A 118 250 ls st H Q = (sw_A 118 251 ls (.int (Int32.ofInt 1) :: st) H Q) := sw_A_step (cc := cL_cheapest) rfl dL_cheapest_250 rfl ls st H Q
theorem r118_251 : sw_A 118 251 ls st H Q = (sw_i2 False st fun x y r => if ¬ x = y then sw_A 118 261 ls r H Q else sw_A 118 254 ls r H Q) := sw_A_step (cc := cL_cheapest) rfl dL_cheapest_251 rfl ls st H Q
theorem r118_254 : sw_A 118 254 ls st H Q = (sw_ldi False ls 8 fun x => sw_A 118 256 ls (.int x :: st) H Q) := sw_A_step (cc := cL_cheapest) rfl dL_cheapest_254 rfl ls st H Q
theorem r118_256 : sw_A 118 256 ls st H Q = (sw_A 118 257 ls (.int (Int32.ofInt 5) :: st) H Q) := sw_A_step (cc := cL_cheapest) rfl dL_cheapest_256 rfl ls st H Q
theorem r118_257 : sw_A 118 257 ls st H Q = (sw_i2 False st fun x y r => sw_A 118 258 ls (.int (x + y) :: r) H Q) := sw_A_step (cc := cL_cheapest) rfl dL_cheapest_257 rfl ls st H Q
theorem r118_258 : sw_A 118 258 ls st H Q = (sw_A 118 278 ls st H Q) := sw_A_step (cc := cL_cheapest) rfl dL_cheapest_258 rfl ls st H Q
theorem r118_261 : sw_A 118 261 ls st H Q = (sw_ldi False ls 9 fun x => sw_A 118 263 ls (.int x :: st) H Q) := sw_A_step (cc := cL_cheapest) rfl dL_cheapest_261 rfl ls st H Q
theorem r118_263 : sw_A 118 263 ls st H Q = (sw_A 118 264 ls (.int (Int32.ofInt 2) :: st) H Q) := sw_A_step (cc := cL_cheapest) rfl dL_cheapest_263 rfl ls st H Q
theorem r118_264 : sw_A 118 264 ls st H Q = (sw_i2 False st fun x y r => if ¬ x = y then sw_A 118 274 ls r H Q else sw_A 118 267 ls r H Q) := sw_A_step (cc := cL_cheapest) rfl dL_cheapest_264 rfl ls st H Q
theorem r118_267 : sw_A 118 267 ls st H Q = (sw_ldi False ls 8 fun x => sw_A 118 269 ls (.int x :: st) H Q) := sw_A_step (cc := cL_cheapest) rfl dL_cheapest_267 rfl ls st H Q
theorem r118_269 : sw_A 118 269 ls st H Q = (sw_A 118 270 ls (.int (Int32.ofInt 1) :: st) H Q) := sw_A_step (cc := cL_cheapest) rfl dL_cheapest_269 rfl ls st H Q
theorem r118_270 : sw_A 118 270 ls st H Q = (sw_i2 False st fun x y r => sw_A 118 271 ls (.int (x - y) :: r) H Q) := sw_A_step (cc := cL_cheapest) rfl dL_cheapest_270 rfl ls st H Q
theorem r118_271 : sw_A 118 271 ls st H Q = (sw_A 118 278 ls st H Q) := sw_A_step (cc := cL_cheapest) rfl dL_cheapest_271 rfl ls st H Q
theorem r118_274 : sw_A 118 274 ls st H Q = (sw_ldi False ls 8 fun x => sw_A 118 276 ls (.int x :: st) H Q) := sw_A_step (cc := cL_cheapest) rfl dL_cheapest_274 rfl ls st H Q
theorem r118_276 : sw_A 118 276 ls st H Q = (sw_A 118 277 ls (.int (Int32.ofInt 1) :: st) H Q) := sw_A_step (cc := cL_cheapest) rfl dL_cheapest_276 rfl ls st H Q
theorem r118_277 : sw_A 118 277 ls st H Q = (sw_i2 False st fun x y r => sw_A 118 278 ls (.int (x + y) :: r) H Q) := sw_A_step (cc := cL_cheapest) rfl dL_cheapest_277 rfl ls st H Q
theorem r118_278 : sw_A 118 278 ls st H Q = (sw_has1 False ls 14 (sw_i1 False st fun x r => sw_A 118 280 (sw_set1 ls 14 (.int x)) r H Q)) := sw_A_step (cc := cL_cheapest) rfl dL_cheapest_278 rfl ls st H Q
theorem r118_280 : sw_A 118 280 ls st H Q = (sw_ldi False ls 12 fun x => sw_A 118 282 ls (.int x :: st) H Q) := sw_A_step (cc := cL_cheapest) rfl dL_cheapest_280 rfl ls st H Q
theorem r118_282 : sw_A 118 282 ls st H Q = (sw_i1 False st fun x r => if x = 0 then sw_A 118 333 ls r H Q else sw_A 118 285 ls r H Q) := sw_A_step (cc := cL_cheapest) rfl dL_cheapest_282 rfl ls st H Q
theorem r118_285 : sw_A 118 285 ls st H Q = (sw_lda False ls 6 fun x => sw_A 118 287 ls (.ref x :: st) H Q) := sw_A_step (cc := cL_cheapest) rfl dL_cheapest_285 rfl ls st H Q
theorem r118_287 : sw_A 118 287 ls st H Q = (sw_ldi False ls 8 fun x => sw_A 118 289 ls (.int x :: st) H Q) := sw_A_step (cc := cL_cheapest) rfl dL_cheapest_287 rfl ls st H Q
theorem r118_289 : sw_A 118 289 ls st H Q = (sw_ri False st fun a i r => sw_ald False H 0 a i fun x => sw_A 118 290 ls (.int x :: r) H Q) := sw_A_step (cc := cL_cheapest) rfl dL_cheapest_289 rfl ls st H Q
theorem r118_290 : sw_A 118 290 ls st H Q = (sw_lda False ls 0 fun x => sw_A 118 291 ls (.ref x :: st) H Q) := sw_A_step (cc := cL_cheapest) rfl dL_cheapest_290 rfl ls st H Q
theorem r118_291 : sw_A 118 291 ls st H Q = (sw_lda False ls 1 fun x => sw_A 118 292 ls (.ref x :: st) H Q) := sw_A_step (cc := cL_cheapest) rfl dL_cheapest_291 rfl ls st H Q
theorem r118_292 : sw_A 118 292 ls st H Q = (sw_ldl False ls 2 fun x => sw_A 118 293 ls (.long x :: st) H Q) := sw_A_step (cc := cL_cheapest) rfl dL_cheapest_292 rfl ls st H Q
theorem r118_293 : sw_A 118 293 ls st H Q = (sw_ldi False ls 4 fun x => sw_A 118 295 ls (.int x :: st) H Q) := sw_A_step (cc := cL_cheapest) rfl dL_cheapest_293 rfl ls st H Q
theorem r118_295 : sw_A 118 295 ls st H Q = (sw_ldi False ls 5 fun x => sw_A 118 297 ls (.int x :: st) H Q) := sw_A_step (cc := cL_cheapest) rfl dL_cheapest_295 rfl ls st H Q
theorem r118_297 : sw_A 118 297 ls st H Q = (sw_ldi False ls 13 fun x => sw_A 118 299 ls (.int x :: st) H Q) := sw_A_step (cc := cL_cheapest) rfl dL_cheapest_297 rfl ls st H Q
theorem r118_299 : sw_A 118 299 ls st H Q = (sw_pop False 6 st [] fun args r => sw_ck False r (sw_M 82 args H (sw_K 118 302 none ls r Q))) := sw_A_step (cc := cL_cheapest) rfl dL_cheapest_299 rfl ls st H Q
theorem r118_302 : sw_A 118 302 ls st H Q = (sw_i1 False st fun x r => if x = 0 then sw_A 118 309 ls r H Q else sw_A 118 305 ls r H Q) := sw_A_step (cc := cL_cheapest) rfl dL_cheapest_302 rfl ls st H Q
theorem r118_305 : sw_A 118 305 ls st H Q = (sw_A 118 306 ls (.int (Int32.ofInt 1) :: st) H Q) := sw_A_step (cc := cL_cheapest) rfl dL_cheapest_305 rfl ls st H Q
theorem r118_306 : sw_A 118 306 ls st H Q = (sw_A 118 310 ls st H Q) := sw_A_step (cc := cL_cheapest) rfl dL_cheapest_306 rfl ls st H Q
theorem r118_309 : sw_A 118 309 ls st H Q = (sw_A 118 310 ls (.int (Int32.ofInt 0) :: st) H Q) := sw_A_step (cc := cL_cheapest) rfl dL_cheapest_309 rfl ls st H Q
theorem r118_310 : sw_A 118 310 ls st H Q = (sw_i2 False st fun x y r => sw_A 118 311 ls (.int (x + y) :: r) H Q) := sw_A_step (cc := cL_cheapest) rfl dL_cheapest_310 rfl ls st H Q
theorem r118_311 : sw_A 118 311 ls st H Q = (sw_has1 False ls 15 (sw_i1 False st fun x r => sw_A 118 313 (sw_set1 ls 15 (.int x)) r H Q)) := sw_A_step (cc := cL_cheapest) rfl dL_cheapest_311 rfl ls st H Q
theorem r118_313 : sw_A 118 313 ls st H Q = (sw_ldi False ls 15 fun x => sw_A 118 315 ls (.int x :: st) H Q) := sw_A_step (cc := cL_cheapest) rfl dL_cheapest_313 rfl ls st H Q
theorem r118_315 : sw_A 118 315 ls st H Q = (sw_lda False ls 6 fun x => sw_A 118 317 ls (.ref x :: st) H Q) := sw_A_step (cc := cL_cheapest) rfl dL_cheapest_315 rfl ls st H Q
theorem r118_317 : sw_A 118 317 ls st H Q = (sw_ldi False ls 14 fun x => sw_A 118 319 ls (.int x :: st) H Q) := sw_A_step (cc := cL_cheapest) rfl dL_cheapest_317 rfl ls st H Q
theorem r118_319 : sw_A 118 319 ls st H Q = (sw_ri False st fun a i r => sw_ald False H 0 a i fun x => sw_A 118 320 ls (.int x :: r) H Q) := sw_A_step (cc := cL_cheapest) rfl dL_cheapest_319 rfl ls st H Q
theorem r118_320 : sw_A 118 320 ls st H Q = (sw_i2 False st fun x y r => if y ≤ x then sw_A 118 333 ls r H Q else sw_A 118 323 ls r H Q) := sw_A_step (cc := cL_cheapest) rfl dL_cheapest_320 rfl ls st H Q
theorem r118_323 : sw_A 118 323 ls st H Q = (sw_lda False ls 6 fun x => sw_A 118 325 ls (.ref x :: st) H Q) := sw_A_step (cc := cL_cheapest) rfl dL_cheapest_323 rfl ls st H Q
theorem r118_325 : sw_A 118 325 ls st H Q = (sw_ldi False ls 14 fun x => sw_A 118 327 ls (.int x :: st) H Q) := sw_A_step (cc := cL_cheapest) rfl dL_cheapest_325 rfl ls st H Q
theorem r118_327 : sw_A 118 327 ls st H Q = (sw_ldi False ls 15 fun x => sw_A 118 329 ls (.int x :: st) H Q) := sw_A_step (cc := cL_cheapest) rfl dL_cheapest_327 rfl ls st H Q
theorem r118_329 : sw_A 118 329 ls st H Q = (sw_rix False st fun a i x r => sw_ast False H 0 a i x fun H1 => sw_A 118 330 ls r H1 Q) := sw_A_step (cc := cL_cheapest) rfl dL_cheapest_329 rfl ls st H Q
theorem r118_330 : sw_A 118 330 ls st H Q = (sw_A 118 331 ls (.int (Int32.ofInt 1) :: st) H Q) := sw_A_step (cc := cL_cheapest) rfl dL_cheapest_330 rfl ls st H Q
theorem r118_331 : sw_A 118 331 ls st H Q = (sw_has1 False ls 7 (sw_i1 False st fun x r => sw_A 118 333 (sw_set1 ls 7 (.int x)) r H Q)) := sw_A_step (cc := cL_cheapest) rfl dL_cheapest_331 rfl ls st H Q
theorem r118_333 : sw_A 118 333 ls st H Q = (sw_ldi False ls 9 fun x => sw_A 118 336 (sw_set1 ls 9 (.int (x + Int32.ofInt 1))) st H Q) := sw_A_step (cc := cL_cheapest) rfl dL_cheapest_333 rfl ls st H Q
theorem r118_336 : sw_A 118 336 ls st H Q = (sw_A 118 82 ls st H Q) := sw_A_step (cc := cL_cheapest) rfl dL_cheapest_336 rfl ls st H Q
theorem r118_339 : sw_A 118 339 ls st H Q = (sw_ldi False ls 8 fun x => sw_A 118 342 (sw_set1 ls 8 (.int (x + Int32.ofInt 1))) st H Q) := sw_A_step (cc := cL_cheapest) rfl dL_cheapest_339 rfl ls st H Q
theorem r118_342 : sw_A 118 342 ls st H Q = (sw_A 118 72 ls st H Q) := sw_A_step (cc := cL_cheapest) rfl dL_cheapest_342 rfl ls st H Q
theorem r118_345 : sw_A 118 345 ls st H Q = (sw_A 118 61 ls st H Q) := sw_A_step (cc := cL_cheapest) rfl dL_cheapest_345 rfl ls st H Q
theorem r118_348 : sw_A 118 348 ls st H Q = (sw_A 118 350 ls (.int (Int32.ofInt 99) :: st) H Q) := sw_A_step (cc := cL_cheapest) rfl dL_cheapest_348 rfl ls st H Q
theorem r118_350 : sw_A 118 350 ls st H Q = (sw_has1 False ls 8 (sw_i1 False st fun x r => sw_A 118 352 (sw_set1 ls 8 (.int x)) r H Q)) := sw_A_step (cc := cL_cheapest) rfl dL_cheapest_350 rfl ls st H Q
theorem r118_352 : sw_A 118 352 ls st H Q = (sw_A 118 353 ls (.int (Int32.ofInt 0) :: st) H Q) := sw_A_step (cc := cL_cheapest) rfl dL_cheapest_352 rfl ls st H Q
theorem r118_353 : sw_A 118 353 ls st H Q = (sw_has1 False ls 9 (sw_i1 False st fun x r => sw_A 118 355 (sw_set1 ls 9 (.int x)) r H Q)) := sw_A_step (cc := cL_cheapest) rfl dL_cheapest_353 rfl ls st H Q
theorem r118_355 : sw_A 118 355 ls st H Q = (sw_ldi False ls 9 fun x => sw_A 118 357 ls (.int x :: st) H Q) := sw_A_step (cc := cL_cheapest) rfl dL_cheapest_355 rfl ls st H Q
theorem r118_357 : sw_A 118 357 ls st H Q = (sw_A 118 358 ls (.int (Int32.ofInt 5) :: st) H Q) := sw_A_step (cc := cL_cheapest) rfl dL_cheapest_357 rfl ls st H Q
theorem r118_358 : sw_A 118 358 ls st H Q = (sw_i2 False st fun x y r => if y ≤ x then sw_A 118 412 ls r H Q else sw_A 118 361 ls r H Q) := sw_A_step (cc := cL_cheapest) rfl dL_cheapest_358 rfl ls st H Q
theorem r118_361 : sw_A 118 361 ls st H Q = (sw_lda False ls 6 fun x => sw_A 118 363 ls (.ref x :: st) H Q) := sw_A_step (cc := cL_cheapest) rfl dL_cheapest_361 rfl ls st H Q
theorem r118_363 : sw_A 118 363 ls st H Q = (sw_A 118 365 ls (.int (Int32.ofInt 20) :: st) H Q) := sw_A_step (cc := cL_cheapest) rfl dL_cheapest_363 rfl ls st H Q
theorem r118_365 : sw_A 118 365 ls st H Q = (sw_ldi False ls 9 fun x => sw_A 118 367 ls (.int x :: st) H Q) := sw_A_step (cc := cL_cheapest) rfl dL_cheapest_365 rfl ls st H Q
theorem r118_367 : sw_A 118 367 ls st H Q = (sw_i2 False st fun x y r => sw_A 118 368 ls (.int (x + y) :: r) H Q) := sw_A_step (cc := cL_cheapest) rfl dL_cheapest_367 rfl ls st H Q
theorem r118_368 : sw_A 118 368 ls st H Q = (sw_ri False st fun a i r => sw_ald False H 0 a i fun x => sw_A 118 369 ls (.int x :: r) H Q) := sw_A_step (cc := cL_cheapest) rfl dL_cheapest_368 rfl ls st H Q
theorem r118_369 : sw_A 118 369 ls st H Q = (sw_lda False ls 0 fun x => sw_A 118 370 ls (.ref x :: st) H Q) := sw_A_step (cc := cL_cheapest) rfl dL_cheapest_369 rfl ls st H Q
theorem r118_370 : sw_A 118 370 ls st H Q = (sw_lda False ls 1 fun x => sw_A 118 371 ls (.ref x :: st) H Q) := sw_A_step (cc := cL_cheapest) rfl dL_cheapest_370 rfl ls st H Q
theorem r118_371 : sw_A 118 371 ls st H Q = (sw_ldl False ls 2 fun x => sw_A 118 372 ls (.long x :: st) H Q) := sw_A_step (cc := cL_cheapest) rfl dL_cheapest_371 rfl ls st H Q
theorem r118_372 : sw_A 118 372 ls st H Q = (sw_ldi False ls 4 fun x => sw_A 118 374 ls (.int x :: st) H Q) := sw_A_step (cc := cL_cheapest) rfl dL_cheapest_372 rfl ls st H Q
theorem r118_374 : sw_A 118 374 ls st H Q = (sw_ldi False ls 5 fun x => sw_A 118 376 ls (.int x :: st) H Q) := sw_A_step (cc := cL_cheapest) rfl dL_cheapest_374 rfl ls st H Q
theorem r118_376 : sw_A 118 376 ls st H Q = (sw_A 118 378 ls (.int (Int32.ofInt 25) :: st) H Q) := sw_A_step (cc := cL_cheapest) rfl dL_cheapest_376 rfl ls st H Q
theorem r118_378 : sw_A 118 378 ls st H Q = (sw_ldi False ls 9 fun x => sw_A 118 380 ls (.int x :: st) H Q) := sw_A_step (cc := cL_cheapest) rfl dL_cheapest_378 rfl ls st H Q
theorem r118_380 : sw_A 118 380 ls st H Q = (sw_i2 False st fun x y r => sw_A 118 381 ls (.int (x + y) :: r) H Q) := sw_A_step (cc := cL_cheapest) rfl dL_cheapest_380 rfl ls st H Q
theorem r118_381 : sw_A 118 381 ls st H Q = (sw_pop False 6 st [] fun args r => sw_ck False r (sw_M 82 args H (sw_K 118 384 none ls r Q))) := sw_A_step (cc := cL_cheapest) rfl dL_cheapest_381 rfl ls st H Q
theorem r118_384 : sw_A 118 384 ls st H Q = (sw_i1 False st fun x r => if x = 0 then sw_A 118 391 ls r H Q else sw_A 118 387 ls r H Q) := sw_A_step (cc := cL_cheapest) rfl dL_cheapest_384 rfl ls st H Q
theorem r118_387 : sw_A 118 387 ls st H Q = (sw_A 118 388 ls (.int (Int32.ofInt 1) :: st) H Q) := sw_A_step (cc := cL_cheapest) rfl dL_cheapest_387 rfl ls st H Q
theorem r118_388 : sw_A 118 388 ls st H Q = (sw_A 118 392 ls st H Q) := sw_A_step (cc := cL_cheapest) rfl dL_cheapest_388 rfl ls st H Q
theorem r118_391 : sw_A 118 391 ls st H Q = (sw_A 118 392 ls (.int (Int32.ofInt 0) :: st) H Q) := sw_A_step (cc := cL_cheapest) rfl dL_cheapest_391 rfl ls st H Q
theorem r118_392 : sw_A 118 392 ls st H Q = (sw_i2 False st fun x y r => sw_A 118 393 ls (.int (x + y) :: r) H Q) := sw_A_step (cc := cL_cheapest) rfl dL_cheapest_392 rfl ls st H Q
theorem r118_393 : sw_A 118 393 ls st H Q = (sw_has1 False ls 10 (sw_i1 False st fun x r => sw_A 118 395 (sw_set1 ls 10 (.int x)) r H Q)) := sw_A_step (cc := cL_cheapest) rfl dL_cheapest_393 rfl ls st H Q
theorem r118_395 : sw_A 118 395 ls st H Q = (sw_ldi False ls 10 fun x => sw_A 118 397 ls (.int x :: st) H Q) := sw_A_step (cc := cL_cheapest) rfl dL_cheapest_395 rfl ls st H Q
theorem r118_397 : sw_A 118 397 ls st H Q = (sw_ldi False ls 8 fun x => sw_A 118 399 ls (.int x :: st) H Q) := sw_A_step (cc := cL_cheapest) rfl dL_cheapest_397 rfl ls st H Q
theorem r118_399 : sw_A 118 399 ls st H Q = (sw_i2 False st fun x y r => if y ≤ x then sw_A 118 406 ls r H Q else sw_A 118 402 ls r H Q) := sw_A_step (cc := cL_cheapest) rfl dL_cheapest_399 rfl ls st H Q
theorem r118_402 : sw_A 118 402 ls st H Q = (sw_ldi False ls 10 fun x => sw_A 118 404 ls (.int x :: st) H Q) := sw_A_step (cc := cL_cheapest) rfl dL_cheapest_402 rfl ls st H Q
theorem r118_404 : sw_A 118 404 ls st H Q = (sw_has1 False ls 8 (sw_i1 False st fun x r => sw_A 118 406 (sw_set1 ls 8 (.int x)) r H Q)) := sw_A_step (cc := cL_cheapest) rfl dL_cheapest_404 rfl ls st H Q
theorem r118_406 : sw_A 118 406 ls st H Q = (sw_ldi False ls 9 fun x => sw_A 118 409 (sw_set1 ls 9 (.int (x + Int32.ofInt 1))) st H Q) := sw_A_step (cc := cL_cheapest) rfl dL_cheapest_406 rfl ls st H Q
theorem r118_409 : sw_A 118 409 ls st H Q = (sw_A 118 355 ls st H Q) := sw_A_step (cc := cL_cheapest) rfl dL_cheapest_409 rfl ls st H Q
theorem r118_412 : sw_A 118 412 ls st H Q = (sw_ldi False ls 8 fun x => sw_A 118 414 ls (.int x :: st) H Q) := sw_A_step (cc := cL_cheapest) rfl dL_cheapest_412 rfl ls st H Q
theorem r118_414 : sw_A 118 414 ls st H Q = (match st with | [.int x] => Q (some (some (.int x))) H | _ => False) := sw_A_step (cc := cL_cheapest) rfl dL_cheapest_414 rfl ls st H Q
theorem r119_0 : sw_A 119 0 ls st H Q = (sw_lda False ls 0 fun x => sw_A 119 1 ls (.ref x :: st) H Q) := sw_A_step (cc := cX4_startAtLeft) rfl dX4_startAtLeft_0 rfl ls st H Q
theorem r119_1 : sw_A 119 1 ls st H Q = (sw_r1 False st fun a r => sw_gf False H (some (4, 3, 1)) a fun v => sw_A 119 4 ls (v :: r) H Q) := sw_A_step (cc := cX4_startAtLeft) rfl dX4_startAtLeft_1 rfl ls st H Q
theorem r119_4 : sw_A 119 4 ls st H Q = (sw_pop False 1 st [] fun args r => sw_ck False r (sw_rc False H (some 10) args (sw_M 49 args H (sw_K 119 7 none ls r Q)))) := sw_A_step (cc := cX4_startAtLeft) rfl dX4_startAtLeft_4 rfl ls st H Q
theorem r119_7 : sw_A 119 7 ls st H Q = (sw_A 119 8 ls (.int (Int32.ofInt 0) :: st) H Q) := sw_A_step (cc := cX4_startAtLeft) rfl dX4_startAtLeft_7 rfl ls st H Q
theorem r119_8 : sw_A 119 8 ls st H Q = (sw_has1 False ls 2 (sw_i1 False st fun x r => sw_A 119 9 (sw_set1 ls 2 (.int x)) r H Q)) := sw_A_step (cc := cX4_startAtLeft) rfl dX4_startAtLeft_8 rfl ls st H Q
theorem r119_9 : sw_A 119 9 ls st H Q = (sw_ldi False ls 2 fun x => sw_A 119 10 ls (.int x :: st) H Q) := sw_A_step (cc := cX4_startAtLeft) rfl dX4_startAtLeft_9 rfl ls st H Q
theorem r119_10 : sw_A 119 10 ls st H Q = (sw_A 119 12 ls (.int (Int32.ofInt 36) :: st) H Q) := sw_A_step (cc := cX4_startAtLeft) rfl dX4_startAtLeft_10 rfl ls st H Q
theorem r119_12 : sw_A 119 12 ls st H Q = (sw_i2 False st fun x y r => if y ≤ x then sw_A 119 73 ls r H Q else sw_A 119 15 ls r H Q) := sw_A_step (cc := cX4_startAtLeft) rfl dX4_startAtLeft_12 rfl ls st H Q
theorem r119_15 : sw_A 119 15 ls st H Q = (sw_lda False ls 0 fun x => sw_A 119 16 ls (.ref x :: st) H Q) := sw_A_step (cc := cX4_startAtLeft) rfl dX4_startAtLeft_15 rfl ls st H Q
theorem r119_16 : sw_A 119 16 ls st H Q = (sw_r1 False st fun a r => sw_gf False H (some (4, 1, 1)) a fun v => sw_A 119 19 ls (v :: r) H Q) := sw_A_step (cc := cX4_startAtLeft) rfl dX4_startAtLeft_16 rfl ls st H Q
theorem r119_19 : sw_A 119 19 ls st H Q = (sw_ldi False ls 2 fun x => sw_A 119 20 ls (.int x :: st) H Q) := sw_A_step (cc := cX4_startAtLeft) rfl dX4_startAtLeft_19 rfl ls st H Q
theorem r119_20 : sw_A 119 20 ls st H Q = (sw_lda False ls 1 fun x => sw_A 119 21 ls (.ref x :: st) H Q) := sw_A_step (cc := cX4_startAtLeft) rfl dX4_startAtLeft_20 rfl ls st H Q
theorem r119_21 : sw_A 119 21 ls st H Q = (sw_r1 False st fun a r => sw_gf False H (some (9, 0, 1)) a fun v => sw_A 119 24 ls (v :: r) H Q) := sw_A_step (cc := cX4_startAtLeft) rfl dX4_startAtLeft_21 rfl ls st H Q
theorem r119_24 : sw_A 119 24 ls st H Q = (sw_ldi False ls 2 fun x => sw_A 119 25 ls (.int x :: st) H Q) := sw_A_step (cc := cX4_startAtLeft) rfl dX4_startAtLeft_24 rfl ls st H Q
theorem r119_25 : sw_A 119 25 ls st H Q = (sw_ri False st fun a i r => sw_ald False H 1 a i fun x => sw_A 119 26 ls (.int x :: r) H Q) := sw_A_step (cc := cX4_startAtLeft) rfl dX4_startAtLeft_25 rfl ls st H Q
theorem r119_26 : sw_A 119 26 ls st H Q = (sw_i1 False st fun x r => if x = 0 then sw_A 119 41 ls r H Q else sw_A 119 29 ls r H Q) := sw_A_step (cc := cX4_startAtLeft) rfl dX4_startAtLeft_26 rfl ls st H Q
theorem r119_29 : sw_A 119 29 ls st H Q = (sw_ldi False ls 2 fun x => sw_A 119 30 ls (.int x :: st) H Q) := sw_A_step (cc := cX4_startAtLeft) rfl dX4_startAtLeft_29 rfl ls st H Q
theorem r119_30 : sw_A 119 30 ls st H Q = (sw_A 119 31 ls (.int (Int32.ofInt 1) :: st) H Q) := sw_A_step (cc := cX4_startAtLeft) rfl dX4_startAtLeft_30 rfl ls st H Q
theorem r119_31 : sw_A 119 31 ls st H Q = (sw_pop False 2 st [] fun args r => sw_ck False r (sw_M 73 args H (sw_K 119 34 none ls r Q))) := sw_A_step (cc := cX4_startAtLeft) rfl dX4_startAtLeft_31 rfl ls st H Q
theorem r119_34 : sw_A 119 34 ls st H Q = (sw_i1 False st fun x r => if x = 0 then sw_A 119 41 ls r H Q else sw_A 119 37 ls r H Q) := sw_A_step (cc := cX4_startAtLeft) rfl dX4_startAtLeft_34 rfl ls st H Q
theorem r119_37 : sw_A 119 37 ls st H Q = (sw_A 119 38 ls (.int (Int32.ofInt 1) :: st) H Q) := sw_A_step (cc := cX4_startAtLeft) rfl dX4_startAtLeft_37 rfl ls st H Q
theorem r119_38 : sw_A 119 38 ls st H Q = (sw_A 119 42 ls st H Q) := sw_A_step (cc := cX4_startAtLeft) rfl dX4_startAtLeft_38 rfl ls st H Q
theorem r119_41 : sw_A 119 41 ls st H Q = (sw_A 119 42 ls (.int (Int32.ofInt 0) :: st) H Q) := sw_A_step (cc := cX4_startAtLeft) rfl dX4_startAtLeft_41 rfl ls st H Q
theorem r119_42 : sw_A 119 42 ls st H Q = (sw_rix False st fun a i x r => sw_ast False H 1 a i (x &&& 1) fun H1 => sw_A 119 43 ls r H1 Q) := sw_A_step (cc := cX4_startAtLeft) rfl dX4_startAtLeft_42 rfl ls st H Q
theorem r119_43 : sw_A 119 43 ls st H Q = (sw_lda False ls 0 fun x => sw_A 119 44 ls (.ref x :: st) H Q) := sw_A_step (cc := cX4_startAtLeft) rfl dX4_startAtLeft_43 rfl ls st H Q
theorem r119_44 : sw_A 119 44 ls st H Q = (sw_r1 False st fun a r => sw_gf False H (some (4, 2, 1)) a fun v => sw_A 119 47 ls (v :: r) H Q) := sw_A_step (cc := cX4_startAtLeft) rfl dX4_startAtLeft_44 rfl ls st H Q
theorem r119_47 : sw_A 119 47 ls st H Q = (sw_ldi False ls 2 fun x => sw_A 119 48 ls (.int x :: st) H Q) := sw_A_step (cc := cX4_startAtLeft) rfl dX4_startAtLeft_47 rfl ls st H Q
theorem r119_48 : sw_A 119 48 ls st H Q = (sw_A 119 49 ls (.int (Int32.ofInt (-1)) :: st) H Q) := sw_A_step (cc := cX4_startAtLeft) rfl dX4_startAtLeft_48 rfl ls st H Q
theorem r119_49 : sw_A 119 49 ls st H Q = (sw_rix False st fun a i x r => sw_ast False H 0 a i x fun H1 => sw_A 119 50 ls r H1 Q) := sw_A_step (cc := cX4_startAtLeft) rfl dX4_startAtLeft_49 rfl ls st H Q
theorem r119_50 : sw_A 119 50 ls st H Q = (sw_lda False ls 0 fun x => sw_A 119 51 ls (.ref x :: st) H Q) := sw_A_step (cc := cX4_startAtLeft) rfl dX4_startAtLeft_50 rfl ls st H Q
theorem r119_51 : sw_A 119 51 ls st H Q = (sw_r1 False st fun a r => sw_gf False H (some (4, 1, 1)) a fun v => sw_A 119 54 ls (v :: r) H Q) := sw_A_step (cc := cX4_startAtLeft) rfl dX4_startAtLeft_51 rfl ls st H Q
theorem r119_54 : sw_A 119 54 ls st H Q = (sw_ldi False ls 2 fun x => sw_A 119 55 ls (.int x :: st) H Q) := sw_A_step (cc := cX4_startAtLeft) rfl dX4_startAtLeft_54 rfl ls st H Q
theorem r119_55 : sw_A 119 55 ls st H Q = (sw_ri False st fun a i r => sw_ald False H 1 a i fun x => sw_A 119 56 ls (.int x :: r) H Q) := sw_A_step (cc := cX4_startAtLeft) rfl dX4_startAtLeft_55 rfl ls st H Q
theorem r119_56 : sw_A 119 56 ls st H Q = (sw_i1 False st fun x r => if x = 0 then sw_A 119 67 ls r H Q else sw_A 119 59 ls r H Q) := sw_A_step (cc := cX4_startAtLeft) rfl dX4_startAtLeft_56 rfl ls st H Q
theorem r119_59 : sw_A 119 59 ls st H Q = (sw_lda False ls 0 fun x => sw_A 119 60 ls (.ref x :: st) H Q) := sw_A_step (cc := cX4_startAtLeft) rfl dX4_startAtLeft_59 rfl ls st H Q
theorem r119_60 : sw_A 119 60 ls st H Q = (sw_r1 False st fun a r => sw_gf False H (some (4, 3, 1)) a fun v => sw_A 119 63 ls (v :: r) H Q) := sw_A_step (cc := cX4_startAtLeft) rfl dX4_startAtLeft_60 rfl ls st H Q
theorem r119_63 : sw_A 119 63 ls st H Q = (sw_ldi False ls 2 fun x => sw_A 119 64 ls (.int x :: st) H Q) := sw_A_step (cc := cX4_startAtLeft) rfl dX4_startAtLeft_63 rfl ls st H Q
theorem r119_64 : sw_A 119 64 ls st H Q = (sw_pop False 2 st [] fun args r => sw_ck False r (sw_rc False H (some 10) args (sw_M 50 args H (sw_K 119 67 none ls r Q)))) := sw_A_step (cc := cX4_startAtLeft) rfl dX4_startAtLeft_64 rfl ls st H Q
theorem r119_67 : sw_A 119 67 ls st H Q = (sw_ldi False ls 2 fun x => sw_A 119 70 (sw_set1 ls 2 (.int (x + Int32.ofInt 1))) st H Q) := sw_A_step (cc := cX4_startAtLeft) rfl dX4_startAtLeft_67 rfl ls st H Q
theorem r119_70 : sw_A 119 70 ls st H Q = (sw_A 119 9 ls st H Q) := sw_A_step (cc := cX4_startAtLeft) rfl dX4_startAtLeft_70 rfl ls st H Q
theorem r119_73 : sw_A 119 73 ls st H Q = (match st with | [] => Q (some none) H | _ => False) := sw_A_step (cc := cX4_startAtLeft) rfl dX4_startAtLeft_73 rfl ls st H Q
end sw_R
