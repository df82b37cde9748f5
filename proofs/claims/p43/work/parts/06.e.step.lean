section sw_R
variable (ls : sw_LS) (st : List Value) (H : sw_HS) (Q : sw_Ot → sw_HS → Prop)
theorem r102_0 : sw_A 102 0 ls st H Q = (sw_ldi False ls 3 fun x => sw_A 102 1 ls (.int x :: st) H Q) := sw_A_step (cc := cX11_sizes) rfl dX11_sizes_0 rfl ls st H Q
theorem r102_1 : sw_A 102 1 ls st H Q = (sw_A 102 2 ls (.int (Int32.ofInt 0) :: st) H Q) := sw_A_step (cc := cX11_sizes) rfl dX11_sizes_1 rfl ls st H Q
theorem r102_2 : sw_A 102 2 ls st H Q = (sw_A 102 3 ls (.int (Int32.ofInt 2) :: st) H Q) := sw_A_step (cc := cX11_sizes) rfl dX11_sizes_2 rfl ls st H Q
theorem r102_3 : sw_A 102 3 ls st H Q = (sw_pop False 3 st [] fun args r => sw_ck False r (sw_M 17 args H (sw_K 102 6 none ls r Q))) := sw_A_step (cc := cX11_sizes) rfl dX11_sizes_3 rfl ls st H Q
theorem r102_6 : sw_A 102 6 ls st H Q = (sw_lda False ls 0 fun x => sw_A 102 7 ls (.ref x :: st) H Q) := sw_A_step (cc := cX11_sizes) rfl dX11_sizes_6 rfl ls st H Q
theorem r102_7 : sw_A 102 7 ls st H Q = (sw_ldi False ls 1 fun x => sw_A 102 8 ls (.int x :: st) H Q) := sw_A_step (cc := cX11_sizes) rfl dX11_sizes_7 rfl ls st H Q
theorem r102_8 : sw_A 102 8 ls st H Q = (sw_ldi False ls 2 fun x => sw_A 102 9 ls (.int x :: st) H Q) := sw_A_step (cc := cX11_sizes) rfl dX11_sizes_8 rfl ls st H Q
theorem r102_9 : sw_A 102 9 ls st H Q = (sw_pop False 3 st [] fun args r => sw_ck False r (sw_rc False H (some 11) args (sw_M 95 args H (sw_K 102 12 none ls r Q)))) := sw_A_step (cc := cX11_sizes) rfl dX11_sizes_9 rfl ls st H Q
theorem r102_12 : sw_A 102 12 ls st H Q = (sw_lda False ls 0 fun x => sw_A 102 13 ls (.ref x :: st) H Q) := sw_A_step (cc := cX11_sizes) rfl dX11_sizes_12 rfl ls st H Q
theorem r102_13 : sw_A 102 13 ls st H Q = (sw_r1 False st fun a r => sw_gf False H (some (11, 3, 1)) a fun v => sw_A 102 16 ls (v :: r) H Q) := sw_A_step (cc := cX11_sizes) rfl dX11_sizes_13 rfl ls st H Q
theorem r102_16 : sw_A 102 16 ls st H Q = (sw_pop False 1 st [] fun args r => sw_ck False r (sw_rc False H (some 9) args (sw_M 101 args H (sw_K 102 19 none ls r Q)))) := sw_A_step (cc := cX11_sizes) rfl dX11_sizes_16 rfl ls st H Q
theorem r102_19 : sw_A 102 19 ls st H Q = (sw_ldi False ls 3 fun x => sw_A 102 20 ls (.int x :: st) H Q) := sw_A_step (cc := cX11_sizes) rfl dX11_sizes_19 rfl ls st H Q
theorem r102_20 : sw_A 102 20 ls st H Q = (sw_i1 False st fun x r => if ¬ x = 0 then sw_A 102 31 ls r H Q else sw_A 102 23 ls r H Q) := sw_A_step (cc := cX11_sizes) rfl dX11_sizes_20 rfl ls st H Q
theorem r102_23 : sw_A 102 23 ls st H Q = (sw_lda False ls 0 fun x => sw_A 102 24 ls (.ref x :: st) H Q) := sw_A_step (cc := cX11_sizes) rfl dX11_sizes_23 rfl ls st H Q
theorem r102_24 : sw_A 102 24 ls st H Q = (sw_r1 False st fun a r => sw_gf False H (some (11, 3, 1)) a fun v => sw_A 102 27 ls (v :: r) H Q) := sw_A_step (cc := cX11_sizes) rfl dX11_sizes_24 rfl ls st H Q
theorem r102_27 : sw_A 102 27 ls st H Q = (sw_r1 False st fun a r => sw_gf False H (some (9, 4, 3)) a fun v => sw_A 102 30 ls (v :: r) H Q) := sw_A_step (cc := cX11_sizes) rfl dX11_sizes_27 rfl ls st H Q
theorem r102_30 : sw_A 102 30 ls st H Q = (match st with | [.int x] => Q (some (some (.int x))) H | _ => False) := sw_A_step (cc := cX11_sizes) rfl dX11_sizes_30 rfl ls st H Q
theorem r102_31 : sw_A 102 31 ls st H Q = (sw_ldi False ls 3 fun x => sw_A 102 32 ls (.int x :: st) H Q) := sw_A_step (cc := cX11_sizes) rfl dX11_sizes_31 rfl ls st H Q
theorem r102_32 : sw_A 102 32 ls st H Q = (sw_A 102 33 ls (.int (Int32.ofInt 1) :: st) H Q) := sw_A_step (cc := cX11_sizes) rfl dX11_sizes_32 rfl ls st H Q
theorem r102_33 : sw_A 102 33 ls st H Q = (sw_i2 False st fun x y r => if ¬ x = y then sw_A 102 46 ls r H Q else sw_A 102 36 ls r H Q) := sw_A_step (cc := cX11_sizes) rfl dX11_sizes_33 rfl ls st H Q
theorem r102_36 : sw_A 102 36 ls st H Q = (sw_lda False ls 0 fun x => sw_A 102 37 ls (.ref x :: st) H Q) := sw_A_step (cc := cX11_sizes) rfl dX11_sizes_36 rfl ls st H Q
theorem r102_37 : sw_A 102 37 ls st H Q = (sw_r1 False st fun a r => sw_gf False H (some (11, 3, 1)) a fun v => sw_A 102 40 ls (v :: r) H Q) := sw_A_step (cc := cX11_sizes) rfl dX11_sizes_37 rfl ls st H Q
theorem r102_40 : sw_A 102 40 ls st H Q = (sw_r1 False st fun a r => sw_gf False H (some (9, 5, 3)) a fun v => sw_A 102 43 ls (v :: r) H Q) := sw_A_step (cc := cX11_sizes) rfl dX11_sizes_40 rfl ls st H Q
theorem r102_43 : sw_A 102 43 ls st H Q = (sw_A 102 53 ls st H Q) := sw_A_step (cc := cX11_sizes) rfl dX11_sizes_43 rfl ls st H Q
theorem r102_46 : sw_A 102 46 ls st H Q = (sw_lda False ls 0 fun x => sw_A 102 47 ls (.ref x :: st) H Q) := sw_A_step (cc := cX11_sizes) rfl dX11_sizes_46 rfl ls st H Q
theorem r102_47 : sw_A 102 47 ls st H Q = (sw_r1 False st fun a r => sw_gf False H (some (11, 3, 1)) a fun v => sw_A 102 50 ls (v :: r) H Q) := sw_A_step (cc := cX11_sizes) rfl dX11_sizes_47 rfl ls st H Q
theorem r102_50 : sw_A 102 50 ls st H Q = (sw_r1 False st fun a r => sw_gf False H (some (9, 6, 3)) a fun v => sw_A 102 53 ls (v :: r) H Q) := sw_A_step (cc := cX11_sizes) rfl dX11_sizes_50 rfl ls st H Q
theorem r102_53 : sw_A 102 53 ls st H Q = (match st with | [.int x] => Q (some (some (.int x))) H | _ => False) := sw_A_step (cc := cX11_sizes) rfl dX11_sizes_53 rfl ls st H Q
theorem r103_0 : sw_A 103 0 ls st H Q = (sw_A 103 1 ls (.int (Int32.ofInt 0) :: st) H Q) := sw_A_step (cc := cX2_partAll) rfl dX2_partAll_0 rfl ls st H Q
theorem r103_1 : sw_A 103 1 ls st H Q = (sw_has1 False ls 2 (sw_i1 False st fun x r => sw_A 103 2 (sw_set1 ls 2 (.int x)) r H Q)) := sw_A_step (cc := cX2_partAll) rfl dX2_partAll_1 rfl ls st H Q
theorem r103_2 : sw_A 103 2 ls st H Q = (sw_ldi False ls 2 fun x => sw_A 103 3 ls (.int x :: st) H Q) := sw_A_step (cc := cX2_partAll) rfl dX2_partAll_2 rfl ls st H Q
theorem r103_3 : sw_A 103 3 ls st H Q = (sw_A 103 5 ls (.int (Int32.ofInt 36) :: st) H Q) := sw_A_step (cc := cX2_partAll) rfl dX2_partAll_3 rfl ls st H Q
theorem r103_5 : sw_A 103 5 ls st H Q = (sw_i2 False st fun x y r => if y ≤ x then sw_A 103 69 ls r H Q else sw_A 103 8 ls r H Q) := sw_A_step (cc := cX2_partAll) rfl dX2_partAll_5 rfl ls st H Q
theorem r103_8 : sw_A 103 8 ls st H Q = (sw_ldi False ls 2 fun x => sw_A 103 9 ls (.int x :: st) H Q) := sw_A_step (cc := cX2_partAll) rfl dX2_partAll_8 rfl ls st H Q
theorem r103_9 : sw_A 103 9 ls st H Q = (sw_ldi False ls 1 fun x => sw_A 103 10 ls (.int x :: st) H Q) := sw_A_step (cc := cX2_partAll) rfl dX2_partAll_9 rfl ls st H Q
theorem r103_10 : sw_A 103 10 ls st H Q = (sw_i1 False st fun x r => if x = 0 then sw_A 103 17 ls r H Q else sw_A 103 13 ls r H Q) := sw_A_step (cc := cX2_partAll) rfl dX2_partAll_10 rfl ls st H Q
theorem r103_13 : sw_A 103 13 ls st H Q = (sw_A 103 14 ls (.int (Int32.ofInt 0) :: st) H Q) := sw_A_step (cc := cX2_partAll) rfl dX2_partAll_13 rfl ls st H Q
theorem r103_14 : sw_A 103 14 ls st H Q = (sw_A 103 18 ls st H Q) := sw_A_step (cc := cX2_partAll) rfl dX2_partAll_14 rfl ls st H Q
theorem r103_17 : sw_A 103 17 ls st H Q = (sw_A 103 18 ls (.int (Int32.ofInt 1) :: st) H Q) := sw_A_step (cc := cX2_partAll) rfl dX2_partAll_17 rfl ls st H Q
theorem r103_18 : sw_A 103 18 ls st H Q = (sw_pop False 2 st [] fun args r => sw_ck False r (sw_M 72 args H (sw_K 103 21 none ls r Q))) := sw_A_step (cc := cX2_partAll) rfl dX2_partAll_18 rfl ls st H Q
theorem r103_21 : sw_A 103 21 ls st H Q = (sw_i1 False st fun x r => if x = 0 then sw_A 103 35 ls r H Q else sw_A 103 24 ls r H Q) := sw_A_step (cc := cX2_partAll) rfl dX2_partAll_21 rfl ls st H Q
theorem r103_24 : sw_A 103 24 ls st H Q = (sw_lda False ls 0 fun x => sw_A 103 25 ls (.ref x :: st) H Q) := sw_A_step (cc := cX2_partAll) rfl dX2_partAll_24 rfl ls st H Q
theorem r103_25 : sw_A 103 25 ls st H Q = (sw_r1 False st fun a r => sw_gf False H (some (2, 0, 1)) a fun v => sw_A 103 28 ls (v :: r) H Q) := sw_A_step (cc := cX2_partAll) rfl dX2_partAll_25 rfl ls st H Q
theorem r103_28 : sw_A 103 28 ls st H Q = (sw_ldi False ls 2 fun x => sw_A 103 29 ls (.int x :: st) H Q) := sw_A_step (cc := cX2_partAll) rfl dX2_partAll_28 rfl ls st H Q
theorem r103_29 : sw_A 103 29 ls st H Q = (sw_A 103 31 ls (.int (Int32.ofInt 36) :: st) H Q) := sw_A_step (cc := cX2_partAll) rfl dX2_partAll_29 rfl ls st H Q
theorem r103_31 : sw_A 103 31 ls st H Q = (sw_rix False st fun a i x r => sw_ast False H 0 a i x fun H1 => sw_A 103 32 ls r H1 Q) := sw_A_step (cc := cX2_partAll) rfl dX2_partAll_31 rfl ls st H Q
theorem r103_32 : sw_A 103 32 ls st H Q = (sw_A 103 63 ls st H Q) := sw_A_step (cc := cX2_partAll) rfl dX2_partAll_32 rfl ls st H Q
theorem r103_35 : sw_A 103 35 ls st H Q = (sw_lda False ls 0 fun x => sw_A 103 36 ls (.ref x :: st) H Q) := sw_A_step (cc := cX2_partAll) rfl dX2_partAll_35 rfl ls st H Q
theorem r103_36 : sw_A 103 36 ls st H Q = (sw_r1 False st fun a r => sw_gf False H (some (2, 0, 1)) a fun v => sw_A 103 39 ls (v :: r) H Q) := sw_A_step (cc := cX2_partAll) rfl dX2_partAll_36 rfl ls st H Q
theorem r103_39 : sw_A 103 39 ls st H Q = (sw_ldi False ls 2 fun x => sw_A 103 40 ls (.int x :: st) H Q) := sw_A_step (cc := cX2_partAll) rfl dX2_partAll_39 rfl ls st H Q
theorem r103_40 : sw_A 103 40 ls st H Q = (sw_ldi False ls 2 fun x => sw_A 103 41 ls (.int x :: st) H Q) := sw_A_step (cc := cX2_partAll) rfl dX2_partAll_40 rfl ls st H Q
theorem r103_41 : sw_A 103 41 ls st H Q = (sw_ldi False ls 1 fun x => sw_A 103 42 ls (.int x :: st) H Q) := sw_A_step (cc := cX2_partAll) rfl dX2_partAll_41 rfl ls st H Q
theorem r103_42 : sw_A 103 42 ls st H Q = (sw_i1 False st fun x r => if x = 0 then sw_A 103 49 ls r H Q else sw_A 103 45 ls r H Q) := sw_A_step (cc := cX2_partAll) rfl dX2_partAll_42 rfl ls st H Q
theorem r103_45 : sw_A 103 45 ls st H Q = (sw_A 103 46 ls (.int (Int32.ofInt 3) :: st) H Q) := sw_A_step (cc := cX2_partAll) rfl dX2_partAll_45 rfl ls st H Q
theorem r103_46 : sw_A 103 46 ls st H Q = (sw_A 103 50 ls st H Q) := sw_A_step (cc := cX2_partAll) rfl dX2_partAll_46 rfl ls st H Q
theorem r103_49 : sw_A 103 49 ls st H Q = (sw_A 103 50 ls (.int (Int32.ofInt 2) :: st) H Q) := sw_A_step (cc := cX2_partAll) rfl dX2_partAll_49 rfl ls st H Q
theorem r103_50 : sw_A 103 50 ls st H Q = (sw_pop False 2 st [] fun args r => sw_ck False r (sw_M 72 args H (sw_K 103 53 none ls r Q))) := sw_A_step (cc := cX2_partAll) rfl dX2_partAll_50 rfl ls st H Q
theorem r103_53 : sw_A 103 53 ls st H Q = (sw_i1 False st fun x r => if x = 0 then sw_A 103 61 ls r H Q else sw_A 103 56 ls r H Q) := sw_A_step (cc := cX2_partAll) rfl dX2_partAll_53 rfl ls st H Q
theorem r103_56 : sw_A 103 56 ls st H Q = (sw_A 103 58 ls (.int (Int32.ofInt 37) :: st) H Q) := sw_A_step (cc := cX2_partAll) rfl dX2_partAll_56 rfl ls st H Q
theorem r103_58 : sw_A 103 58 ls st H Q = (sw_A 103 62 ls st H Q) := sw_A_step (cc := cX2_partAll) rfl dX2_partAll_58 rfl ls st H Q
theorem r103_61 : sw_A 103 61 ls st H Q = (sw_ldi False ls 2 fun x => sw_A 103 62 ls (.int x :: st) H Q) := sw_A_step (cc := cX2_partAll) rfl dX2_partAll_61 rfl ls st H Q
theorem r103_62 : sw_A 103 62 ls st H Q = (sw_rix False st fun a i x r => sw_ast False H 0 a i x fun H1 => sw_A 103 63 ls r H1 Q) := sw_A_step (cc := cX2_partAll) rfl dX2_partAll_62 rfl ls st H Q
theorem r103_63 : sw_A 103 63 ls st H Q = (sw_ldi False ls 2 fun x => sw_A 103 66 (sw_set1 ls 2 (.int (x + Int32.ofInt 1))) st H Q) := sw_A_step (cc := cX2_partAll) rfl dX2_partAll_63 rfl ls st H Q
theorem r103_66 : sw_A 103 66 ls st H Q = (sw_A 103 2 ls st H Q) := sw_A_step (cc := cX2_partAll) rfl dX2_partAll_66 rfl ls st H Q
theorem r103_69 : sw_A 103 69 ls st H Q = (sw_lda False ls 0 fun x => sw_A 103 70 ls (.ref x :: st) H Q) := sw_A_step (cc := cX2_partAll) rfl dX2_partAll_69 rfl ls st H Q
theorem r103_70 : sw_A 103 70 ls st H Q = (sw_r1 False st fun a r => sw_gf False H (some (2, 0, 1)) a fun v => sw_A 103 73 ls (v :: r) H Q) := sw_A_step (cc := cX2_partAll) rfl dX2_partAll_70 rfl ls st H Q
theorem r103_73 : sw_A 103 73 ls st H Q = (sw_A 103 75 ls (.int (Int32.ofInt 36) :: st) H Q) := sw_A_step (cc := cX2_partAll) rfl dX2_partAll_73 rfl ls st H Q
theorem r103_75 : sw_A 103 75 ls st H Q = (sw_A 103 77 ls (.int (Int32.ofInt 36) :: st) H Q) := sw_A_step (cc := cX2_partAll) rfl dX2_partAll_75 rfl ls st H Q
theorem r103_77 : sw_A 103 77 ls st H Q = (sw_rix False st fun a i x r => sw_ast False H 0 a i x fun H1 => sw_A 103 78 ls r H1 Q) := sw_A_step (cc := cX2_partAll) rfl dX2_partAll_77 rfl ls st H Q
theorem r103_78 : sw_A 103 78 ls st H Q = (sw_lda False ls 0 fun x => sw_A 103 79 ls (.ref x :: st) H Q) := sw_A_step (cc := cX2_partAll) rfl dX2_partAll_78 rfl ls st H Q
theorem r103_79 : sw_A 103 79 ls st H Q = (sw_r1 False st fun a r => sw_gf False H (some (2, 0, 1)) a fun v => sw_A 103 82 ls (v :: r) H Q) := sw_A_step (cc := cX2_partAll) rfl dX2_partAll_79 rfl ls st H Q
theorem r103_82 : sw_A 103 82 ls st H Q = (sw_A 103 84 ls (.int (Int32.ofInt 37) :: st) H Q) := sw_A_step (cc := cX2_partAll) rfl dX2_partAll_82 rfl ls st H Q
theorem r103_84 : sw_A 103 84 ls st H Q = (sw_A 103 86 ls (.int (Int32.ofInt 37) :: st) H Q) := sw_A_step (cc := cX2_partAll) rfl dX2_partAll_84 rfl ls st H Q
theorem r103_86 : sw_A 103 86 ls st H Q = (sw_rix False st fun a i x r => sw_ast False H 0 a i x fun H1 => sw_A 103 87 ls r H1 Q) := sw_A_step (cc := cX2_partAll) rfl dX2_partAll_86 rfl ls st H Q
theorem r103_87 : sw_A 103 87 ls st H Q = (match st with | [] => Q (some none) H | _ => False) := sw_A_step (cc := cX2_partAll) rfl dX2_partAll_87 rfl ls st H Q
theorem r104_0 : sw_A 104 0 ls st H Q = (sw_A 104 1 ls (.int (Int32.ofInt 0) :: st) H Q) := sw_A_step (cc := cX11_clear) rfl dX11_clear_0 rfl ls st H Q
theorem r104_1 : sw_A 104 1 ls st H Q = (sw_has1 False ls 1 (sw_i1 False st fun x r => sw_A 104 2 (sw_set1 ls 1 (.int x)) r H Q)) := sw_A_step (cc := cX11_clear) rfl dX11_clear_1 rfl ls st H Q
theorem r104_2 : sw_A 104 2 ls st H Q = (sw_ldi False ls 1 fun x => sw_A 104 3 ls (.int x :: st) H Q) := sw_A_step (cc := cX11_clear) rfl dX11_clear_2 rfl ls st H Q
theorem r104_3 : sw_A 104 3 ls st H Q = (sw_lda False ls 0 fun x => sw_A 104 4 ls (.ref x :: st) H Q) := sw_A_step (cc := cX11_clear) rfl dX11_clear_3 rfl ls st H Q
theorem r104_4 : sw_A 104 4 ls st H Q = (sw_r1 False st fun a r => sw_aln False H a fun x => sw_A 104 5 ls (.int x :: r) H Q) := sw_A_step (cc := cX11_clear) rfl dX11_clear_4 rfl ls st H Q
theorem r104_5 : sw_A 104 5 ls st H Q = (sw_i2 False st fun x y r => if y ≤ x then sw_A 104 18 ls r H Q else sw_A 104 8 ls r H Q) := sw_A_step (cc := cX11_clear) rfl dX11_clear_5 rfl ls st H Q
theorem r104_8 : sw_A 104 8 ls st H Q = (sw_lda False ls 0 fun x => sw_A 104 9 ls (.ref x :: st) H Q) := sw_A_step (cc := cX11_clear) rfl dX11_clear_8 rfl ls st H Q
theorem r104_9 : sw_A 104 9 ls st H Q = (sw_ldi False ls 1 fun x => sw_A 104 10 ls (.int x :: st) H Q) := sw_A_step (cc := cX11_clear) rfl dX11_clear_9 rfl ls st H Q
theorem r104_10 : sw_A 104 10 ls st H Q = (sw_A 104 11 ls (.int (Int32.ofInt 0) :: st) H Q) := sw_A_step (cc := cX11_clear) rfl dX11_clear_10 rfl ls st H Q
theorem r104_11 : sw_A 104 11 ls st H Q = (sw_rix False st fun a i x r => sw_ast False H 1 a i (x &&& 1) fun H1 => sw_A 104 12 ls r H1 Q) := sw_A_step (cc := cX11_clear) rfl dX11_clear_11 rfl ls st H Q
theorem r104_12 : sw_A 104 12 ls st H Q = (sw_ldi False ls 1 fun x => sw_A 104 15 (sw_set1 ls 1 (.int (x + Int32.ofInt 1))) st H Q) := sw_A_step (cc := cX11_clear) rfl dX11_clear_12 rfl ls st H Q
theorem r104_15 : sw_A 104 15 ls st H Q = (sw_A 104 2 ls st H Q) := sw_A_step (cc := cX11_clear) rfl dX11_clear_15 rfl ls st H Q
theorem r104_18 : sw_A 104 18 ls st H Q = (match st with | [] => Q (some none) H | _ => False) := sw_A_step (cc := cX11_clear) rfl dX11_clear_18 rfl ls st H Q
theorem r105_0 : sw_A 105 0 ls st H Q = (sw_ldi False ls 1 fun x => sw_A 105 1 ls (.int x :: st) H Q) := sw_A_step (cc := cX8_enoughFor) rfl dX8_enoughFor_0 rfl ls st H Q
theorem r105_1 : sw_A 105 1 ls st H Q = (sw_i1 False st fun x r => if ¬ x = 0 then sw_A 105 11 ls r H Q else sw_A 105 4 ls r H Q) := sw_A_step (cc := cX8_enoughFor) rfl dX8_enoughFor_1 rfl ls st H Q
theorem r105_4 : sw_A 105 4 ls st H Q = (sw_lda False ls 0 fun x => sw_A 105 5 ls (.ref x :: st) H Q) := sw_A_step (cc := cX8_enoughFor) rfl dX8_enoughFor_4 rfl ls st H Q
theorem r105_5 : sw_A 105 5 ls st H Q = (sw_r1 False st fun a r => sw_gf False H (some (8, 0, 1)) a fun v => sw_A 105 8 ls (v :: r) H Q) := sw_A_step (cc := cX8_enoughFor) rfl dX8_enoughFor_5 rfl ls st H Q
theorem r105_8 : sw_A 105 8 ls st H Q = (sw_ldi False ls 2 fun x => sw_A 105 9 ls (.int x :: st) H Q) := sw_A_step (cc := cX8_enoughFor) rfl dX8_enoughFor_8 rfl ls st H Q
theorem r105_9 : sw_A 105 9 ls st H Q = (sw_ri False st fun a i r => sw_ald False H 0 a i fun x => sw_A 105 10 ls (.int x :: r) H Q) := sw_A_step (cc := cX8_enoughFor) rfl dX8_enoughFor_9 rfl ls st H Q
theorem r105_10 : sw_A 105 10 ls st H Q = (match st with | [.int x] => Q (some (some (.int x))) H | _ => False) := sw_A_step (cc := cX8_enoughFor) rfl dX8_enoughFor_10 rfl ls st H Q
theorem r105_11 : sw_A 105 11 ls st H Q = (sw_lda False ls 0 fun x => sw_A 105 12 ls (.ref x :: st) H Q) := sw_A_step (cc := cX8_enoughFor) rfl dX8_enoughFor_11 rfl ls st H Q
theorem r105_12 : sw_A 105 12 ls st H Q = (sw_r1 False st fun a r => sw_gf False H (some (8, 1, 1)) a fun v => sw_A 105 15 ls (v :: r) H Q) := sw_A_step (cc := cX8_enoughFor) rfl dX8_enoughFor_12 rfl ls st H Q
theorem r105_15 : sw_A 105 15 ls st H Q = (sw_ldi False ls 2 fun x => sw_A 105 16 ls (.int x :: st) H Q) := sw_A_step (cc := cX8_enoughFor) rfl dX8_enoughFor_15 rfl ls st H Q
theorem r105_16 : sw_A 105 16 ls st H Q = (sw_pop False 1 st [] fun args r => sw_ck False r (sw_M 85 args H (sw_K 105 19 none ls r Q))) := sw_A_step (cc := cX8_enoughFor) rfl dX8_enoughFor_16 rfl ls st H Q
theorem r105_19 : sw_A 105 19 ls st H Q = (sw_ri False st fun a i r => sw_ald False H 0 a i fun x => sw_A 105 20 ls (.int x :: r) H Q) := sw_A_step (cc := cX8_enoughFor) rfl dX8_enoughFor_19 rfl ls st H Q
theorem r105_20 : sw_A 105 20 ls st H Q = (sw_lda False ls 0 fun x => sw_A 105 21 ls (.ref x :: st) H Q) := sw_A_step (cc := cX8_enoughFor) rfl dX8_enoughFor_20 rfl ls st H Q
theorem r105_21 : sw_A 105 21 ls st H Q = (sw_r1 False st fun a r => sw_gf False H (some (8, 1, 1)) a fun v => sw_A 105 24 ls (v :: r) H Q) := sw_A_step (cc := cX8_enoughFor) rfl dX8_enoughFor_21 rfl ls st H Q
theorem r105_24 : sw_A 105 24 ls st H Q = (sw_ldi False ls 2 fun x => sw_A 105 25 ls (.int x :: st) H Q) := sw_A_step (cc := cX8_enoughFor) rfl dX8_enoughFor_24 rfl ls st H Q
theorem r105_25 : sw_A 105 25 ls st H Q = (sw_pop False 1 st [] fun args r => sw_ck False r (sw_M 86 args H (sw_K 105 28 none ls r Q))) := sw_A_step (cc := cX8_enoughFor) rfl dX8_enoughFor_25 rfl ls st H Q
theorem r105_28 : sw_A 105 28 ls st H Q = (sw_ri False st fun a i r => sw_ald False H 0 a i fun x => sw_A 105 29 ls (.int x :: r) H Q) := sw_A_step (cc := cX8_enoughFor) rfl dX8_enoughFor_28 rfl ls st H Q
theorem r105_29 : sw_A 105 29 ls st H Q = (sw_i2 False st fun x y r => sw_ck False r (sw_A 105 32 ls (.int (if x < y then y else x) :: r) H Q)) := sw_A_step (cc := cX8_enoughFor) rfl dX8_enoughFor_29 rfl ls st H Q
theorem r105_32 : sw_A 105 32 ls st H Q = (sw_has1 False ls 3 (sw_i1 False st fun x r => sw_A 105 33 (sw_set1 ls 3 (.int x)) r H Q)) := sw_A_step (cc := cX8_enoughFor) rfl dX8_enoughFor_32 rfl ls st H Q
theorem r105_33 : sw_A 105 33 ls st H Q = (sw_ldi False ls 1 fun x => sw_A 105 34 ls (.int x :: st) H Q) := sw_A_step (cc := cX8_enoughFor) rfl dX8_enoughFor_33 rfl ls st H Q
theorem r105_34 : sw_A 105 34 ls st H Q = (sw_A 105 35 ls (.int (Int32.ofInt 1) :: st) H Q) := sw_A_step (cc := cX8_enoughFor) rfl dX8_enoughFor_34 rfl ls st H Q
theorem r105_35 : sw_A 105 35 ls st H Q = (sw_i2 False st fun x y r => if ¬ x = y then sw_A 105 42 ls r H Q else sw_A 105 38 ls r H Q) := sw_A_step (cc := cX8_enoughFor) rfl dX8_enoughFor_35 rfl ls st H Q
theorem r105_38 : sw_A 105 38 ls st H Q = (sw_ldi False ls 3 fun x => sw_A 105 39 ls (.int x :: st) H Q) := sw_A_step (cc := cX8_enoughFor) rfl dX8_enoughFor_38 rfl ls st H Q
theorem r105_39 : sw_A 105 39 ls st H Q = (sw_A 105 52 ls st H Q) := sw_A_step (cc := cX8_enoughFor) rfl dX8_enoughFor_39 rfl ls st H Q
theorem r105_42 : sw_A 105 42 ls st H Q = (sw_lda False ls 0 fun x => sw_A 105 43 ls (.ref x :: st) H Q) := sw_A_step (cc := cX8_enoughFor) rfl dX8_enoughFor_42 rfl ls st H Q
theorem r105_43 : sw_A 105 43 ls st H Q = (sw_r1 False st fun a r => sw_gf False H (some (8, 0, 1)) a fun v => sw_A 105 46 ls (v :: r) H Q) := sw_A_step (cc := cX8_enoughFor) rfl dX8_enoughFor_43 rfl ls st H Q
theorem r105_46 : sw_A 105 46 ls st H Q = (sw_ldi False ls 2 fun x => sw_A 105 47 ls (.int x :: st) H Q) := sw_A_step (cc := cX8_enoughFor) rfl dX8_enoughFor_46 rfl ls st H Q
theorem r105_47 : sw_A 105 47 ls st H Q = (sw_ri False st fun a i r => sw_ald False H 0 a i fun x => sw_A 105 48 ls (.int x :: r) H Q) := sw_A_step (cc := cX8_enoughFor) rfl dX8_enoughFor_47 rfl ls st H Q
theorem r105_48 : sw_A 105 48 ls st H Q = (sw_ldi False ls 3 fun x => sw_A 105 49 ls (.int x :: st) H Q) := sw_A_step (cc := cX8_enoughFor) rfl dX8_enoughFor_48 rfl ls st H Q
theorem r105_49 : sw_A 105 49 ls st H Q = (sw_i2 False st fun x y r => sw_ck False r (sw_A 105 52 ls (.int (if x < y then y else x) :: r) H Q)) := sw_A_step (cc := cX8_enoughFor) rfl dX8_enoughFor_49 rfl ls st H Q
theorem r105_52 : sw_A 105 52 ls st H Q = (match st with | [.int x] => Q (some (some (.int x))) H | _ => False) := sw_A_step (cc := cX8_enoughFor) rfl dX8_enoughFor_52 rfl ls st H Q
theorem r106_0 : sw_A 106 0 ls st H Q = (sw_A 106 1 ls (.int (Int32.ofInt (-1)) :: st) H Q) := sw_A_step (cc := cX2_nextToOpen) rfl dX2_nextToOpen_0 rfl ls st H Q
theorem r106_1 : sw_A 106 1 ls st H Q = (sw_has1 False ls 4 (sw_i1 False st fun x r => sw_A 106 3 (sw_set1 ls 4 (.int x)) r H Q)) := sw_A_step (cc := cX2_nextToOpen) rfl dX2_nextToOpen_1 rfl ls st H Q
theorem r106_3 : sw_A 106 3 ls st H Q = (sw_A 106 6 ls (.int (Int32.ofInt 1000) :: st) H Q) := sw_A_step (cc := cX2_nextToOpen) rfl dX2_nextToOpen_3 rfl ls st H Q
theorem r106_6 : sw_A 106 6 ls st H Q = (sw_has1 False ls 5 (sw_i1 False st fun x r => sw_A 106 8 (sw_set1 ls 5 (.int x)) r H Q)) := sw_A_step (cc := cX2_nextToOpen) rfl dX2_nextToOpen_6 rfl ls st H Q
theorem r106_8 : sw_A 106 8 ls st H Q = (sw_A 106 9 ls (.int (Int32.ofInt 0) :: st) H Q) := sw_A_step (cc := cX2_nextToOpen) rfl dX2_nextToOpen_8 rfl ls st H Q
theorem r106_9 : sw_A 106 9 ls st H Q = (sw_has1 False ls 6 (sw_i1 False st fun x r => sw_A 106 11 (sw_set1 ls 6 (.int x)) r H Q)) := sw_A_step (cc := cX2_nextToOpen) rfl dX2_nextToOpen_9 rfl ls st H Q
theorem r106_11 : sw_A 106 11 ls st H Q = (sw_ldi False ls 6 fun x => sw_A 106 13 ls (.int x :: st) H Q) := sw_A_step (cc := cX2_nextToOpen) rfl dX2_nextToOpen_11 rfl ls st H Q
theorem r106_13 : sw_A 106 13 ls st H Q = (sw_A 106 15 ls (.int (Int32.ofInt 60) :: st) H Q) := sw_A_step (cc := cX2_nextToOpen) rfl dX2_nextToOpen_13 rfl ls st H Q
theorem r106_15 : sw_A 106 15 ls st H Q = (sw_i2 False st fun x y r => if y ≤ x then sw_A 106 90 ls r H Q else sw_A 106 18 ls r H Q) := sw_A_step (cc := cX2_nextToOpen) rfl dX2_nextToOpen_15 rfl ls st H Q
theorem r106_18 : sw_A 106 18 ls st H Q = (sw_lda False ls 0 fun x => sw_A 106 19 ls (.ref x :: st) H Q) := sw_A_step (cc := cX2_nextToOpen) rfl dX2_nextToOpen_18 rfl ls st H Q
theorem r106_19 : sw_A 106 19 ls st H Q = (sw_r1 False st fun a r => sw_gf False H (some (2, 1, 1)) a fun v => sw_A 106 22 ls (v :: r) H Q) := sw_A_step (cc := cX2_nextToOpen) rfl dX2_nextToOpen_19 rfl ls st H Q
theorem r106_22 : sw_A 106 22 ls st H Q = (sw_ldi False ls 6 fun x => sw_A 106 24 ls (.int x :: st) H Q) := sw_A_step (cc := cX2_nextToOpen) rfl dX2_nextToOpen_22 rfl ls st H Q
theorem r106_24 : sw_A 106 24 ls st H Q = (sw_ri False st fun a i r => sw_ald False H 1 a i fun x => sw_A 106 25 ls (.int x :: r) H Q) := sw_A_step (cc := cX2_nextToOpen) rfl dX2_nextToOpen_24 rfl ls st H Q
theorem r106_25 : sw_A 106 25 ls st H Q = (sw_i1 False st fun x r => if ¬ x = 0 then sw_A 106 52 ls r H Q else sw_A 106 28 ls r H Q) := sw_A_step (cc := cX2_nextToOpen) rfl dX2_nextToOpen_25 rfl ls st H Q
theorem r106_28 : sw_A 106 28 ls st H Q = (sw_lda False ls 2 fun x => sw_A 106 29 ls (.ref x :: st) H Q) := sw_A_step (cc := cX2_nextToOpen) rfl dX2_nextToOpen_28 rfl ls st H Q
theorem r106_29 : sw_A 106 29 ls st H Q = (sw_ldi False ls 6 fun x => sw_A 106 31 ls (.int x :: st) H Q) := sw_A_step (cc := cX2_nextToOpen) rfl dX2_nextToOpen_29 rfl ls st H Q
theorem r106_31 : sw_A 106 31 ls st H Q = (sw_pop False 1 st [] fun args r => sw_ck False r (sw_M 85 args H (sw_K 106 34 none ls r Q))) := sw_A_step (cc := cX2_nextToOpen) rfl dX2_nextToOpen_31 rfl ls st H Q
theorem r106_34 : sw_A 106 34 ls st H Q = (sw_ri False st fun a i r => sw_ald False H 1 a i fun x => sw_A 106 35 ls (.int x :: r) H Q) := sw_A_step (cc := cX2_nextToOpen) rfl dX2_nextToOpen_34 rfl ls st H Q
theorem r106_35 : sw_A 106 35 ls st H Q = (sw_i1 False st fun x r => if ¬ x = 0 then sw_A 106 52 ls r H Q else sw_A 106 38 ls r H Q) := sw_A_step (cc := cX2_nextToOpen) rfl dX2_nextToOpen_35 rfl ls st H Q
theorem r106_38 : sw_A 106 38 ls st H Q = (sw_lda False ls 2 fun x => sw_A 106 39 ls (.ref x :: st) H Q) := sw_A_step (cc := cX2_nextToOpen) rfl dX2_nextToOpen_38 rfl ls st H Q
theorem r106_39 : sw_A 106 39 ls st H Q = (sw_ldi False ls 6 fun x => sw_A 106 41 ls (.int x :: st) H Q) := sw_A_step (cc := cX2_nextToOpen) rfl dX2_nextToOpen_39 rfl ls st H Q
theorem r106_41 : sw_A 106 41 ls st H Q = (sw_pop False 1 st [] fun args r => sw_ck False r (sw_M 86 args H (sw_K 106 44 none ls r Q))) := sw_A_step (cc := cX2_nextToOpen) rfl dX2_nextToOpen_41 rfl ls st H Q
theorem r106_44 : sw_A 106 44 ls st H Q = (sw_ri False st fun a i r => sw_ald False H 1 a i fun x => sw_A 106 45 ls (.int x :: r) H Q) := sw_A_step (cc := cX2_nextToOpen) rfl dX2_nextToOpen_44 rfl ls st H Q
theorem r106_45 : sw_A 106 45 ls st H Q = (sw_i1 False st fun x r => if ¬ x = 0 then sw_A 106 52 ls r H Q else sw_A 106 48 ls r H Q) := sw_A_step (cc := cX2_nextToOpen) rfl dX2_nextToOpen_45 rfl ls st H Q
theorem r106_48 : sw_A 106 48 ls st H Q = (sw_A 106 49 ls (.int (Int32.ofInt 1) :: st) H Q) := sw_A_step (cc := cX2_nextToOpen) rfl dX2_nextToOpen_48 rfl ls st H Q
theorem r106_49 : sw_A 106 49 ls st H Q = (sw_A 106 53 ls st H Q) := sw_A_step (cc := cX2_nextToOpen) rfl dX2_nextToOpen_49 rfl ls st H Q
theorem r106_52 : sw_A 106 52 ls st H Q = (sw_A 106 53 ls (.int (Int32.ofInt 0) :: st) H Q) := sw_A_step (cc := cX2_nextToOpen) rfl dX2_nextToOpen_52 rfl ls st H Q
theorem r106_53 : sw_A 106 53 ls st H Q = (sw_has1 False ls 7 (sw_i1 False st fun x r => sw_A 106 55 (sw_set1 ls 7 (.int x)) r H Q)) := sw_A_step (cc := cX2_nextToOpen) rfl dX2_nextToOpen_53 rfl ls st H Q
theorem r106_55 : sw_A 106 55 ls st H Q = (sw_lda False ls 1 fun x => sw_A 106 56 ls (.ref x :: st) H Q) := sw_A_step (cc := cX2_nextToOpen) rfl dX2_nextToOpen_55 rfl ls st H Q
theorem r106_56 : sw_A 106 56 ls st H Q = (sw_ldi False ls 3 fun x => sw_A 106 57 ls (.int x :: st) H Q) := sw_A_step (cc := cX2_nextToOpen) rfl dX2_nextToOpen_56 rfl ls st H Q
theorem r106_57 : sw_A 106 57 ls st H Q = (sw_ldi False ls 6 fun x => sw_A 106 59 ls (.int x :: st) H Q) := sw_A_step (cc := cX2_nextToOpen) rfl dX2_nextToOpen_57 rfl ls st H Q
theorem r106_59 : sw_A 106 59 ls st H Q = (sw_pop False 3 st [] fun args r => sw_ck False r (sw_rc False H (some 8) args (sw_M 105 args H (sw_K 106 62 none ls r Q)))) := sw_A_step (cc := cX2_nextToOpen) rfl dX2_nextToOpen_59 rfl ls st H Q
theorem r106_62 : sw_A 106 62 ls st H Q = (sw_has1 False ls 8 (sw_i1 False st fun x r => sw_A 106 64 (sw_set1 ls 8 (.int x)) r H Q)) := sw_A_step (cc := cX2_nextToOpen) rfl dX2_nextToOpen_62 rfl ls st H Q
theorem r106_64 : sw_A 106 64 ls st H Q = (sw_ldi False ls 7 fun x => sw_A 106 66 ls (.int x :: st) H Q) := sw_A_step (cc := cX2_nextToOpen) rfl dX2_nextToOpen_64 rfl ls st H Q
theorem r106_66 : sw_A 106 66 ls st H Q = (sw_i1 False st fun x r => if x = 0 then sw_A 106 84 ls r H Q else sw_A 106 69 ls r H Q) := sw_A_step (cc := cX2_nextToOpen) rfl dX2_nextToOpen_66 rfl ls st H Q
theorem r106_69 : sw_A 106 69 ls st H Q = (sw_ldi False ls 8 fun x => sw_A 106 71 ls (.int x :: st) H Q) := sw_A_step (cc := cX2_nextToOpen) rfl dX2_nextToOpen_69 rfl ls st H Q
theorem r106_71 : sw_A 106 71 ls st H Q = (sw_ldi False ls 5 fun x => sw_A 106 73 ls (.int x :: st) H Q) := sw_A_step (cc := cX2_nextToOpen) rfl dX2_nextToOpen_71 rfl ls st H Q
theorem r106_73 : sw_A 106 73 ls st H Q = (sw_i2 False st fun x y r => if y ≤ x then sw_A 106 84 ls r H Q else sw_A 106 76 ls r H Q) := sw_A_step (cc := cX2_nextToOpen) rfl dX2_nextToOpen_73 rfl ls st H Q
theorem r106_76 : sw_A 106 76 ls st H Q = (sw_ldi False ls 8 fun x => sw_A 106 78 ls (.int x :: st) H Q) := sw_A_step (cc := cX2_nextToOpen) rfl dX2_nextToOpen_76 rfl ls st H Q
theorem r106_78 : sw_A 106 78 ls st H Q = (sw_has1 False ls 5 (sw_i1 False st fun x r => sw_A 106 80 (sw_set1 ls 5 (.int x)) r H Q)) := sw_A_step (cc := cX2_nextToOpen) rfl dX2_nextToOpen_78 rfl ls st H Q
theorem r106_80 : sw_A 106 80 ls st H Q = (sw_ldi False ls 6 fun x => sw_A 106 82 ls (.int x :: st) H Q) := sw_A_step (cc := cX2_nextToOpen) rfl dX2_nextToOpen_80 rfl ls st H Q
theorem r106_82 : sw_A 106 82 ls st H Q = (sw_has1 False ls 4 (sw_i1 False st fun x r => sw_A 106 84 (sw_set1 ls 4 (.int x)) r H Q)) := sw_A_step (cc := cX2_nextToOpen) rfl dX2_nextToOpen_82 rfl ls st H Q
theorem r106_84 : sw_A 106 84 ls st H Q = (sw_ldi False ls 6 fun x => sw_A 106 87 (sw_set1 ls 6 (.int (x + Int32.ofInt 1))) st H Q) := sw_A_step (cc := cX2_nextToOpen) rfl dX2_nextToOpen_84 rfl ls st H Q
theorem r106_87 : sw_A 106 87 ls st H Q = (sw_A 106 11 ls st H Q) := sw_A_step (cc := cX2_nextToOpen) rfl dX2_nextToOpen_87 rfl ls st H Q
theorem r106_90 : sw_A 106 90 ls st H Q = (sw_ldi False ls 4 fun x => sw_A 106 92 ls (.int x :: st) H Q) := sw_A_step (cc := cX2_nextToOpen) rfl dX2_nextToOpen_90 rfl ls st H Q
theorem r106_92 : sw_A 106 92 ls st H Q = (match st with | [.int x] => Q (some (some (.int x))) H | _ => False) := sw_A_step (cc := cX2_nextToOpen) rfl dX2_nextToOpen_92 rfl ls st H Q
theorem r107_0 : sw_A 107 0 ls st H Q = (sw_ldi False ls 1 fun x => sw_A 107 1 ls (.int x :: st) H Q) := sw_A_step (cc := cX2_rootOf) rfl dX2_rootOf_0 rfl ls st H Q
theorem r107_1 : sw_A 107 1 ls st H Q = (sw_has1 False ls 2 (sw_i1 False st fun x r => sw_A 107 2 (sw_set1 ls 2 (.int x)) r H Q)) := sw_A_step (cc := cX2_rootOf) rfl dX2_rootOf_1 rfl ls st H Q
theorem r107_2 : sw_A 107 2 ls st H Q = (sw_A 107 3 ls (.int (Int32.ofInt 0) :: st) H Q) := sw_A_step (cc := cX2_rootOf) rfl dX2_rootOf_2 rfl ls st H Q
theorem r107_3 : sw_A 107 3 ls st H Q = (sw_has1 False ls 3 (sw_i1 False st fun x r => sw_A 107 4 (sw_set1 ls 3 (.int x)) r H Q)) := sw_A_step (cc := cX2_rootOf) rfl dX2_rootOf_3 rfl ls st H Q
theorem r107_4 : sw_A 107 4 ls st H Q = (sw_ldi False ls 3 fun x => sw_A 107 5 ls (.int x :: st) H Q) := sw_A_step (cc := cX2_rootOf) rfl dX2_rootOf_4 rfl ls st H Q
theorem r107_5 : sw_A 107 5 ls st H Q = (sw_lda False ls 0 fun x => sw_A 107 6 ls (.ref x :: st) H Q) := sw_A_step (cc := cX2_rootOf) rfl dX2_rootOf_5 rfl ls st H Q
theorem r107_6 : sw_A 107 6 ls st H Q = (sw_r1 False st fun a r => sw_gf False H (some (2, 0, 1)) a fun v => sw_A 107 9 ls (v :: r) H Q) := sw_A_step (cc := cX2_rootOf) rfl dX2_rootOf_6 rfl ls st H Q
theorem r107_9 : sw_A 107 9 ls st H Q = (sw_r1 False st fun a r => sw_aln False H a fun x => sw_A 107 10 ls (.int x :: r) H Q) := sw_A_step (cc := cX2_rootOf) rfl dX2_rootOf_9 rfl ls st H Q
theorem r107_10 : sw_A 107 10 ls st H Q = (sw_i2 False st fun x y r => if y ≤ x then sw_A 107 36 ls r H Q else sw_A 107 13 ls r H Q) := sw_A_step (cc := cX2_rootOf) rfl dX2_rootOf_10 rfl ls st H Q
theorem r107_13 : sw_A 107 13 ls st H Q = (sw_lda False ls 0 fun x => sw_A 107 14 ls (.ref x :: st) H Q) := sw_A_step (cc := cX2_rootOf) rfl dX2_rootOf_13 rfl ls st H Q
theorem r107_14 : sw_A 107 14 ls st H Q = (sw_r1 False st fun a r => sw_gf False H (some (2, 0, 1)) a fun v => sw_A 107 17 ls (v :: r) H Q) := sw_A_step (cc := cX2_rootOf) rfl dX2_rootOf_14 rfl ls st H Q
theorem r107_17 : sw_A 107 17 ls st H Q = (sw_ldi False ls 2 fun x => sw_A 107 18 ls (.int x :: st) H Q) := sw_A_step (cc := cX2_rootOf) rfl dX2_rootOf_17 rfl ls st H Q
theorem r107_18 : sw_A 107 18 ls st H Q = (sw_ri False st fun a i r => sw_ald False H 0 a i fun x => sw_A 107 19 ls (.int x :: r) H Q) := sw_A_step (cc := cX2_rootOf) rfl dX2_rootOf_18 rfl ls st H Q
theorem r107_19 : sw_A 107 19 ls st H Q = (sw_ldi False ls 2 fun x => sw_A 107 20 ls (.int x :: st) H Q) := sw_A_step (cc := cX2_rootOf) rfl dX2_rootOf_19 rfl ls st H Q
theorem r107_20 : sw_A 107 20 ls st H Q = (sw_i2 False st fun x y r => if x = y then sw_A 107 36 ls r H Q else sw_A 107 23 ls r H Q) := sw_A_step (cc := cX2_rootOf) rfl dX2_rootOf_20 rfl ls st H Q
theorem r107_23 : sw_A 107 23 ls st H Q = (sw_lda False ls 0 fun x => sw_A 107 24 ls (.ref x :: st) H Q) := sw_A_step (cc := cX2_rootOf) rfl dX2_rootOf_23 rfl ls st H Q
theorem r107_24 : sw_A 107 24 ls st H Q = (sw_r1 False st fun a r => sw_gf False H (some (2, 0, 1)) a fun v => sw_A 107 27 ls (v :: r) H Q) := sw_A_step (cc := cX2_rootOf) rfl dX2_rootOf_24 rfl ls st H Q
theorem r107_27 : sw_A 107 27 ls st H Q = (sw_ldi False ls 2 fun x => sw_A 107 28 ls (.int x :: st) H Q) := sw_A_step (cc := cX2_rootOf) rfl dX2_rootOf_27 rfl ls st H Q
theorem r107_28 : sw_A 107 28 ls st H Q = (sw_ri False st fun a i r => sw_ald False H 0 a i fun x => sw_A 107 29 ls (.int x :: r) H Q) := sw_A_step (cc := cX2_rootOf) rfl dX2_rootOf_28 rfl ls st H Q
theorem r107_29 : sw_A 107 29 ls st H Q = (sw_has1 False ls 2 (sw_i1 False st fun x r => sw_A 107 30 (sw_set1 ls 2 (.int x)) r H Q)) := sw_A_step (cc := cX2_rootOf) rfl dX2_rootOf_29 rfl ls st H Q
theorem r107_30 : sw_A 107 30 ls st H Q = (sw_ldi False ls 3 fun x => sw_A 107 33 (sw_set1 ls 3 (.int (x + Int32.ofInt 1))) st H Q) := sw_A_step (cc := cX2_rootOf) rfl dX2_rootOf_30 rfl ls st H Q
theorem r107_33 : sw_A 107 33 ls st H Q = (sw_A 107 4 ls st H Q) := sw_A_step (cc := cX2_rootOf) rfl dX2_rootOf_33 rfl ls st H Q
theorem r107_36 : sw_A 107 36 ls st H Q = (sw_ldi False ls 2 fun x => sw_A 107 37 ls (.int x :: st) H Q) := sw_A_step (cc := cX2_rootOf) rfl dX2_rootOf_36 rfl ls st H Q
theorem r107_37 : sw_A 107 37 ls st H Q = (match st with | [.int x] => Q (some (some (.int x))) H | _ => False) := sw_A_step (cc := cX2_rootOf) rfl dX2_rootOf_37 rfl ls st H Q
theorem r108_0 : sw_A 108 0 ls st H Q = (sw_lda False ls 0 fun x => sw_A 108 1 ls (.ref x :: st) H Q) := sw_A_step (cc := cX2_byOpening) rfl dX2_byOpening_0 rfl ls st H Q
theorem r108_1 : sw_A 108 1 ls st H Q = (sw_ldi False ls 4 fun x => sw_A 108 3 ls (.int x :: st) H Q) := sw_A_step (cc := cX2_byOpening) rfl dX2_byOpening_1 rfl ls st H Q
theorem r108_3 : sw_A 108 3 ls st H Q = (sw_pop False 2 st [] fun args r => sw_ck False r (sw_rc False H (some 2) args (sw_M 103 args H (sw_K 108 6 none ls r Q)))) := sw_A_step (cc := cX2_byOpening) rfl dX2_byOpening_3 rfl ls st H Q
theorem r108_6 : sw_A 108 6 ls st H Q = (sw_lda False ls 0 fun x => sw_A 108 7 ls (.ref x :: st) H Q) := sw_A_step (cc := cX2_byOpening) rfl dX2_byOpening_6 rfl ls st H Q
theorem r108_7 : sw_A 108 7 ls st H Q = (sw_r1 False st fun a r => sw_gf False H (some (2, 1, 1)) a fun v => sw_A 108 10 ls (v :: r) H Q) := sw_A_step (cc := cX2_byOpening) rfl dX2_byOpening_7 rfl ls st H Q
theorem r108_10 : sw_A 108 10 ls st H Q = (sw_pop False 1 st [] fun args r => sw_ck False r (sw_M 104 args H (sw_K 108 13 none ls r Q))) := sw_A_step (cc := cX2_byOpening) rfl dX2_byOpening_10 rfl ls st H Q
theorem r108_13 : sw_A 108 13 ls st H Q = (sw_A 108 14 ls (.int (Int32.ofInt 0) :: st) H Q) := sw_A_step (cc := cX2_byOpening) rfl dX2_byOpening_13 rfl ls st H Q
theorem r108_14 : sw_A 108 14 ls st H Q = (sw_has1 False ls 5 (sw_i1 False st fun x r => sw_A 108 16 (sw_set1 ls 5 (.int x)) r H Q)) := sw_A_step (cc := cX2_byOpening) rfl dX2_byOpening_14 rfl ls st H Q
theorem r108_16 : sw_A 108 16 ls st H Q = (sw_ldi False ls 5 fun x => sw_A 108 18 ls (.int x :: st) H Q) := sw_A_step (cc := cX2_byOpening) rfl dX2_byOpening_16 rfl ls st H Q
theorem r108_18 : sw_A 108 18 ls st H Q = (sw_A 108 20 ls (.int (Int32.ofInt 60) :: st) H Q) := sw_A_step (cc := cX2_byOpening) rfl dX2_byOpening_18 rfl ls st H Q
theorem r108_20 : sw_A 108 20 ls st H Q = (sw_i2 False st fun x y r => if y ≤ x then sw_A 108 103 ls r H Q else sw_A 108 23 ls r H Q) := sw_A_step (cc := cX2_byOpening) rfl dX2_byOpening_20 rfl ls st H Q
theorem r108_23 : sw_A 108 23 ls st H Q = (sw_lda False ls 0 fun x => sw_A 108 24 ls (.ref x :: st) H Q) := sw_A_step (cc := cX2_byOpening) rfl dX2_byOpening_23 rfl ls st H Q
theorem r108_24 : sw_A 108 24 ls st H Q = (sw_lda False ls 1 fun x => sw_A 108 25 ls (.ref x :: st) H Q) := sw_A_step (cc := cX2_byOpening) rfl dX2_byOpening_24 rfl ls st H Q
theorem r108_25 : sw_A 108 25 ls st H Q = (sw_lda False ls 2 fun x => sw_A 108 26 ls (.ref x :: st) H Q) := sw_A_step (cc := cX2_byOpening) rfl dX2_byOpening_25 rfl ls st H Q
theorem r108_26 : sw_A 108 26 ls st H Q = (sw_ldi False ls 3 fun x => sw_A 108 27 ls (.int x :: st) H Q) := sw_A_step (cc := cX2_byOpening) rfl dX2_byOpening_26 rfl ls st H Q
theorem r108_27 : sw_A 108 27 ls st H Q = (sw_pop False 4 st [] fun args r => sw_ck False r (sw_rc False H (some 2) args (sw_M 106 args H (sw_K 108 30 none ls r Q)))) := sw_A_step (cc := cX2_byOpening) rfl dX2_byOpening_27 rfl ls st H Q
theorem r108_30 : sw_A 108 30 ls st H Q = (sw_has1 False ls 6 (sw_i1 False st fun x r => sw_A 108 32 (sw_set1 ls 6 (.int x)) r H Q)) := sw_A_step (cc := cX2_byOpening) rfl dX2_byOpening_30 rfl ls st H Q
theorem r108_32 : sw_A 108 32 ls st H Q = (sw_ldi False ls 6 fun x => sw_A 108 34 ls (.int x :: st) H Q) := sw_A_step (cc := cX2_byOpening) rfl dX2_byOpening_32 rfl ls st H Q
theorem r108_34 : sw_A 108 34 ls st H Q = (sw_A 108 35 ls (.int (Int32.ofInt (-1)) :: st) H Q) := sw_A_step (cc := cX2_byOpening) rfl dX2_byOpening_34 rfl ls st H Q
theorem r108_35 : sw_A 108 35 ls st H Q = (sw_i2 False st fun x y r => if ¬ x = y then sw_A 108 41 ls r H Q else sw_A 108 38 ls r H Q) := sw_A_step (cc := cX2_byOpening) rfl dX2_byOpening_35 rfl ls st H Q
theorem r108_38 : sw_A 108 38 ls st H Q = (sw_A 108 103 ls st H Q) := sw_A_step (cc := cX2_byOpening) rfl dX2_byOpening_38 rfl ls st H Q
theorem r108_41 : sw_A 108 41 ls st H Q = (sw_lda False ls 0 fun x => sw_A 108 42 ls (.ref x :: st) H Q) := sw_A_step (cc := cX2_byOpening) rfl dX2_byOpening_41 rfl ls st H Q
theorem r108_42 : sw_A 108 42 ls st H Q = (sw_r1 False st fun a r => sw_gf False H (some (2, 1, 1)) a fun v => sw_A 108 45 ls (v :: r) H Q) := sw_A_step (cc := cX2_byOpening) rfl dX2_byOpening_42 rfl ls st H Q
theorem r108_45 : sw_A 108 45 ls st H Q = (sw_ldi False ls 6 fun x => sw_A 108 47 ls (.int x :: st) H Q) := sw_A_step (cc := cX2_byOpening) rfl dX2_byOpening_45 rfl ls st H Q
theorem r108_47 : sw_A 108 47 ls st H Q = (sw_A 108 48 ls (.int (Int32.ofInt 1) :: st) H Q) := sw_A_step (cc := cX2_byOpening) rfl dX2_byOpening_47 rfl ls st H Q
theorem r108_48 : sw_A 108 48 ls st H Q = (sw_rix False st fun a i x r => sw_ast False H 1 a i (x &&& 1) fun H1 => sw_A 108 49 ls r H1 Q) := sw_A_step (cc := cX2_byOpening) rfl dX2_byOpening_48 rfl ls st H Q
theorem r108_49 : sw_A 108 49 ls st H Q = (sw_lda False ls 0 fun x => sw_A 108 50 ls (.ref x :: st) H Q) := sw_A_step (cc := cX2_byOpening) rfl dX2_byOpening_49 rfl ls st H Q
theorem r108_50 : sw_A 108 50 ls st H Q = (sw_r1 False st fun a r => sw_gf False H (some (2, 0, 1)) a fun v => sw_A 108 53 ls (v :: r) H Q) := sw_A_step (cc := cX2_byOpening) rfl dX2_byOpening_50 rfl ls st H Q
theorem r108_53 : sw_A 108 53 ls st H Q = (sw_lda False ls 0 fun x => sw_A 108 54 ls (.ref x :: st) H Q) := sw_A_step (cc := cX2_byOpening) rfl dX2_byOpening_53 rfl ls st H Q
theorem r108_54 : sw_A 108 54 ls st H Q = (sw_ldi False ls 6 fun x => sw_A 108 56 ls (.int x :: st) H Q) := sw_A_step (cc := cX2_byOpening) rfl dX2_byOpening_54 rfl ls st H Q
theorem r108_56 : sw_A 108 56 ls st H Q = (sw_pop False 1 st [] fun args r => sw_ck False r (sw_M 85 args H (sw_K 108 59 none ls r Q))) := sw_A_step (cc := cX2_byOpening) rfl dX2_byOpening_56 rfl ls st H Q
theorem r108_59 : sw_A 108 59 ls st H Q = (sw_pop False 2 st [] fun args r => sw_ck False r (sw_rc False H (some 2) args (sw_M 107 args H (sw_K 108 62 none ls r Q)))) := sw_A_step (cc := cX2_byOpening) rfl dX2_byOpening_59 rfl ls st H Q
theorem r108_62 : sw_A 108 62 ls st H Q = (sw_lda False ls 0 fun x => sw_A 108 63 ls (.ref x :: st) H Q) := sw_A_step (cc := cX2_byOpening) rfl dX2_byOpening_62 rfl ls st H Q
theorem r108_63 : sw_A 108 63 ls st H Q = (sw_ldi False ls 6 fun x => sw_A 108 65 ls (.int x :: st) H Q) := sw_A_step (cc := cX2_byOpening) rfl dX2_byOpening_63 rfl ls st H Q
theorem r108_65 : sw_A 108 65 ls st H Q = (sw_pop False 1 st [] fun args r => sw_ck False r (sw_M 86 args H (sw_K 108 68 none ls r Q))) := sw_A_step (cc := cX2_byOpening) rfl dX2_byOpening_65 rfl ls st H Q
theorem r108_68 : sw_A 108 68 ls st H Q = (sw_pop False 2 st [] fun args r => sw_ck False r (sw_rc False H (some 2) args (sw_M 107 args H (sw_K 108 71 none ls r Q)))) := sw_A_step (cc := cX2_byOpening) rfl dX2_byOpening_68 rfl ls st H Q
theorem r108_71 : sw_A 108 71 ls st H Q = (sw_rix False st fun a i x r => sw_ast False H 0 a i x fun H1 => sw_A 108 72 ls r H1 Q) := sw_A_step (cc := cX2_byOpening) rfl dX2_byOpening_71 rfl ls st H Q
theorem r108_72 : sw_A 108 72 ls st H Q = (sw_lda False ls 0 fun x => sw_A 108 73 ls (.ref x :: st) H Q) := sw_A_step (cc := cX2_byOpening) rfl dX2_byOpening_72 rfl ls st H Q
theorem r108_73 : sw_A 108 73 ls st H Q = (sw_A 108 75 ls (.int (Int32.ofInt 36) :: st) H Q) := sw_A_step (cc := cX2_byOpening) rfl dX2_byOpening_73 rfl ls st H Q
theorem r108_75 : sw_A 108 75 ls st H Q = (sw_pop False 2 st [] fun args r => sw_ck False r (sw_rc False H (some 2) args (sw_M 107 args H (sw_K 108 78 none ls r Q)))) := sw_A_step (cc := cX2_byOpening) rfl dX2_byOpening_75 rfl ls st H Q
theorem r108_78 : sw_A 108 78 ls st H Q = (sw_lda False ls 0 fun x => sw_A 108 79 ls (.ref x :: st) H Q) := sw_A_step (cc := cX2_byOpening) rfl dX2_byOpening_78 rfl ls st H Q
theorem r108_79 : sw_A 108 79 ls st H Q = (sw_A 108 81 ls (.int (Int32.ofInt 37) :: st) H Q) := sw_A_step (cc := cX2_byOpening) rfl dX2_byOpening_79 rfl ls st H Q
theorem r108_81 : sw_A 108 81 ls st H Q = (sw_pop False 2 st [] fun args r => sw_ck False r (sw_rc False H (some 2) args (sw_M 107 args H (sw_K 108 84 none ls r Q)))) := sw_A_step (cc := cX2_byOpening) rfl dX2_byOpening_81 rfl ls st H Q
theorem r108_84 : sw_A 108 84 ls st H Q = (sw_i2 False st fun x y r => if ¬ x = y then sw_A 108 97 ls r H Q else sw_A 108 87 ls r H Q) := sw_A_step (cc := cX2_byOpening) rfl dX2_byOpening_84 rfl ls st H Q
theorem r108_87 : sw_A 108 87 ls st H Q = (sw_lda False ls 1 fun x => sw_A 108 88 ls (.ref x :: st) H Q) := sw_A_step (cc := cX2_byOpening) rfl dX2_byOpening_87 rfl ls st H Q
theorem r108_88 : sw_A 108 88 ls st H Q = (sw_ldi False ls 3 fun x => sw_A 108 89 ls (.int x :: st) H Q) := sw_A_step (cc := cX2_byOpening) rfl dX2_byOpening_88 rfl ls st H Q
theorem r108_89 : sw_A 108 89 ls st H Q = (sw_ldi False ls 6 fun x => sw_A 108 91 ls (.int x :: st) H Q) := sw_A_step (cc := cX2_byOpening) rfl dX2_byOpening_89 rfl ls st H Q
theorem r108_91 : sw_A 108 91 ls st H Q = (sw_pop False 3 st [] fun args r => sw_ck False r (sw_rc False H (some 8) args (sw_M 105 args H (sw_K 108 94 none ls r Q)))) := sw_A_step (cc := cX2_byOpening) rfl dX2_byOpening_91 rfl ls st H Q
theorem r108_94 : sw_A 108 94 ls st H Q = (sw_A 108 95 ls (.int (Int32.ofInt 1) :: st) H Q) := sw_A_step (cc := cX2_byOpening) rfl dX2_byOpening_94 rfl ls st H Q
theorem r108_95 : sw_A 108 95 ls st H Q = (sw_i2 False st fun x y r => sw_A 108 96 ls (.int (x + y) :: r) H Q) := sw_A_step (cc := cX2_byOpening) rfl dX2_byOpening_95 rfl ls st H Q
theorem r108_96 : sw_A 108 96 ls st H Q = (match st with | [.int x] => Q (some (some (.int x))) H | _ => False) := sw_A_step (cc := cX2_byOpening) rfl dX2_byOpening_96 rfl ls st H Q
theorem r108_97 : sw_A 108 97 ls st H Q = (sw_ldi False ls 5 fun x => sw_A 108 100 (sw_set1 ls 5 (.int (x + Int32.ofInt 1))) st H Q) := sw_A_step (cc := cX2_byOpening) rfl dX2_byOpening_97 rfl ls st H Q
theorem r108_100 : sw_A 108 100 ls st H Q = (sw_A 108 16 ls st H Q) := sw_A_step (cc := cX2_byOpening) rfl dX2_byOpening_100 rfl ls st H Q
theorem r108_103 : sw_A 108 103 ls st H Q = (sw_A 108 104 ls (.int (Int32.ofInt (-1)) :: st) H Q) := sw_A_step (cc := cX2_byOpening) rfl dX2_byOpening_103 rfl ls st H Q
theorem r108_104 : sw_A 108 104 ls st H Q = (match st with | [.int x] => Q (some (some (.int x))) H | _ => False) := sw_A_step (cc := cX2_byOpening) rfl dX2_byOpening_104 rfl ls st H Q
theorem r109_0 : sw_A 109 0 ls st H Q = (sw_ldi False ls 1 fun x => sw_A 109 1 ls (.int x :: st) H Q) := sw_A_step (cc := cX11_edge) rfl dX11_edge_0 rfl ls st H Q
theorem r109_1 : sw_A 109 1 ls st H Q = (sw_pop False 1 st [] fun args r => sw_ck False r (sw_M 84 args H (sw_K 109 4 none ls r Q))) := sw_A_step (cc := cX11_edge) rfl dX11_edge_1 rfl ls st H Q
theorem r109_4 : sw_A 109 4 ls st H Q = (sw_lda False ls 0 fun x => sw_A 109 5 ls (.ref x :: st) H Q) := sw_A_step (cc := cX11_edge) rfl dX11_edge_4 rfl ls st H Q
theorem r109_5 : sw_A 109 5 ls st H Q = (sw_r1 False st fun a r => sw_gf False H (some (11, 5, 1)) a fun v => sw_A 109 8 ls (v :: r) H Q) := sw_A_step (cc := cX11_edge) rfl dX11_edge_5 rfl ls st H Q
theorem r109_8 : sw_A 109 8 ls st H Q = (sw_lda False ls 0 fun x => sw_A 109 9 ls (.ref x :: st) H Q) := sw_A_step (cc := cX11_edge) rfl dX11_edge_8 rfl ls st H Q
theorem r109_9 : sw_A 109 9 ls st H Q = (sw_r1 False st fun a r => sw_gf False H (some (11, 0, 1)) a fun v => sw_A 109 12 ls (v :: r) H Q) := sw_A_step (cc := cX11_edge) rfl dX11_edge_9 rfl ls st H Q
theorem r109_12 : sw_A 109 12 ls st H Q = (sw_lda False ls 0 fun x => sw_A 109 13 ls (.ref x :: st) H Q) := sw_A_step (cc := cX11_edge) rfl dX11_edge_12 rfl ls st H Q
theorem r109_13 : sw_A 109 13 ls st H Q = (sw_r1 False st fun a r => sw_gf False H (some (11, 2, 1)) a fun v => sw_A 109 16 ls (v :: r) H Q) := sw_A_step (cc := cX11_edge) rfl dX11_edge_13 rfl ls st H Q
theorem r109_16 : sw_A 109 16 ls st H Q = (sw_r1 False st fun a r => sw_gf False H (some (7, 0, 3)) a fun v => sw_A 109 19 ls (v :: r) H Q) := sw_A_step (cc := cX11_edge) rfl dX11_edge_16 rfl ls st H Q
theorem r109_19 : sw_A 109 19 ls st H Q = (sw_ldi False ls 1 fun x => sw_A 109 20 ls (.int x :: st) H Q) := sw_A_step (cc := cX11_edge) rfl dX11_edge_19 rfl ls st H Q
theorem r109_20 : sw_A 109 20 ls st H Q = (sw_ldi False ls 2 fun x => sw_A 109 21 ls (.int x :: st) H Q) := sw_A_step (cc := cX11_edge) rfl dX11_edge_20 rfl ls st H Q
theorem r109_21 : sw_A 109 21 ls st H Q = (sw_pop False 5 st [] fun args r => sw_ck False r (sw_rc False H (some 2) args (sw_M 108 args H (sw_K 109 24 none ls r Q)))) := sw_A_step (cc := cX11_edge) rfl dX11_edge_21 rfl ls st H Q
theorem r109_24 : sw_A 109 24 ls st H Q = (match st with | [.int x] => Q (some (some (.int x))) H | _ => False) := sw_A_step (cc := cX11_edge) rfl dX11_edge_24 rfl ls st H Q
theorem r110_0 : sw_A 110 0 ls st H Q = (sw_lda False ls 0 fun x => sw_A 110 1 ls (.ref x :: st) H Q) := sw_A_step (cc := cX3_forget) rfl dX3_forget_0 rfl ls st H Q
theorem r110_1 : sw_A 110 1 ls st H Q = (sw_r1 False st fun a r => sw_gf False H (some (3, 0, 1)) a fun v => sw_A 110 4 ls (v :: r) H Q) := sw_A_step (cc := cX3_forget) rfl dX3_forget_1 rfl ls st H Q
theorem r110_4 : sw_A 110 4 ls st H Q = (sw_A 110 5 ls (.int (Int32.ofInt (-1)) :: st) H Q) := sw_A_step (cc := cX3_forget) rfl dX3_forget_4 rfl ls st H Q
theorem r110_5 : sw_A 110 5 ls st H Q = (sw_pop False 2 st [] fun args r => sw_ck False r (sw_M 9 args H (sw_K 110 8 none ls r Q))) := sw_A_step (cc := cX3_forget) rfl dX3_forget_5 rfl ls st H Q
theorem r110_8 : sw_A 110 8 ls st H Q = (sw_lda False ls 0 fun x => sw_A 110 9 ls (.ref x :: st) H Q) := sw_A_step (cc := cX3_forget) rfl dX3_forget_8 rfl ls st H Q
theorem r110_9 : sw_A 110 9 ls st H Q = (sw_r1 False st fun a r => sw_gf False H (some (3, 1, 1)) a fun v => sw_A 110 12 ls (v :: r) H Q) := sw_A_step (cc := cX3_forget) rfl dX3_forget_9 rfl ls st H Q
theorem r110_12 : sw_A 110 12 ls st H Q = (sw_pop False 1 st [] fun args r => sw_ck False r (sw_M 104 args H (sw_K 110 15 none ls r Q))) := sw_A_step (cc := cX3_forget) rfl dX3_forget_12 rfl ls st H Q
theorem r110_15 : sw_A 110 15 ls st H Q = (match st with | [] => Q (some none) H | _ => False) := sw_A_step (cc := cX3_forget) rfl dX3_forget_15 rfl ls st H Q
theorem r111_0 : sw_A 111 0 ls st H Q = (sw_lda False ls 0 fun x => sw_A 111 1 ls (.ref x :: st) H Q) := sw_A_step (cc := cX3_offer) rfl dX3_offer_0 rfl ls st H Q
theorem r111_1 : sw_A 111 1 ls st H Q = (sw_r1 False st fun a r => sw_gf False H (some (3, 0, 1)) a fun v => sw_A 111 4 ls (v :: r) H Q) := sw_A_step (cc := cX3_offer) rfl dX3_offer_1 rfl ls st H Q
theorem r111_4 : sw_A 111 4 ls st H Q = (sw_ldi False ls 1 fun x => sw_A 111 5 ls (.int x :: st) H Q) := sw_A_step (cc := cX3_offer) rfl dX3_offer_4 rfl ls st H Q
theorem r111_5 : sw_A 111 5 ls st H Q = (sw_ri False st fun a i r => sw_ald False H 0 a i fun x => sw_A 111 6 ls (.int x :: r) H Q) := sw_A_step (cc := cX3_offer) rfl dX3_offer_5 rfl ls st H Q
theorem r111_6 : sw_A 111 6 ls st H Q = (sw_A 111 7 ls (.int (Int32.ofInt (-1)) :: st) H Q) := sw_A_step (cc := cX3_offer) rfl dX3_offer_6 rfl ls st H Q
theorem r111_7 : sw_A 111 7 ls st H Q = (sw_i2 False st fun x y r => if x = y then sw_A 111 20 ls r H Q else sw_A 111 10 ls r H Q) := sw_A_step (cc := cX3_offer) rfl dX3_offer_7 rfl ls st H Q
theorem r111_10 : sw_A 111 10 ls st H Q = (sw_ldi False ls 2 fun x => sw_A 111 11 ls (.int x :: st) H Q) := sw_A_step (cc := cX3_offer) rfl dX3_offer_10 rfl ls st H Q
theorem r111_11 : sw_A 111 11 ls st H Q = (sw_lda False ls 0 fun x => sw_A 111 12 ls (.ref x :: st) H Q) := sw_A_step (cc := cX3_offer) rfl dX3_offer_11 rfl ls st H Q
theorem r111_12 : sw_A 111 12 ls st H Q = (sw_r1 False st fun a r => sw_gf False H (some (3, 0, 1)) a fun v => sw_A 111 15 ls (v :: r) H Q) := sw_A_step (cc := cX3_offer) rfl dX3_offer_12 rfl ls st H Q
theorem r111_15 : sw_A 111 15 ls st H Q = (sw_ldi False ls 1 fun x => sw_A 111 16 ls (.int x :: st) H Q) := sw_A_step (cc := cX3_offer) rfl dX3_offer_15 rfl ls st H Q
theorem r111_16 : sw_A 111 16 ls st H Q = (sw_ri False st fun a i r => sw_ald False H 0 a i fun x => sw_A 111 17 ls (.int x :: r) H Q) := sw_A_step (cc := cX3_offer) rfl dX3_offer_16 rfl ls st H Q
theorem r111_17 : sw_A 111 17 ls st H Q = (sw_i2 False st fun x y r => if y ≤ x then sw_A 111 27 ls r H Q else sw_A 111 20 ls r H Q) := sw_A_step (cc := cX3_offer) rfl dX3_offer_17 rfl ls st H Q
theorem r111_20 : sw_A 111 20 ls st H Q = (sw_lda False ls 0 fun x => sw_A 111 21 ls (.ref x :: st) H Q) := sw_A_step (cc := cX3_offer) rfl dX3_offer_20 rfl ls st H Q
theorem r111_21 : sw_A 111 21 ls st H Q = (sw_r1 False st fun a r => sw_gf False H (some (3, 0, 1)) a fun v => sw_A 111 24 ls (v :: r) H Q) := sw_A_step (cc := cX3_offer) rfl dX3_offer_21 rfl ls st H Q
theorem r111_24 : sw_A 111 24 ls st H Q = (sw_ldi False ls 1 fun x => sw_A 111 25 ls (.int x :: st) H Q) := sw_A_step (cc := cX3_offer) rfl dX3_offer_24 rfl ls st H Q
theorem r111_25 : sw_A 111 25 ls st H Q = (sw_ldi False ls 2 fun x => sw_A 111 26 ls (.int x :: st) H Q) := sw_A_step (cc := cX3_offer) rfl dX3_offer_25 rfl ls st H Q
theorem r111_26 : sw_A 111 26 ls st H Q = (sw_rix False st fun a i x r => sw_ast False H 0 a i x fun H1 => sw_A 111 27 ls r H1 Q) := sw_A_step (cc := cX3_offer) rfl dX3_offer_26 rfl ls st H Q
theorem r111_27 : sw_A 111 27 ls st H Q = (match st with | [] => Q (some none) H | _ => False) := sw_A_step (cc := cX3_offer) rfl dX3_offer_27 rfl ls st H Q
theorem r112_0 : sw_A 112 0 ls st H Q = (sw_lda False ls 0 fun x => sw_A 112 1 ls (.ref x :: st) H Q) := sw_A_step (cc := cX2_startAtSide) rfl dX2_startAtSide_0 rfl ls st H Q
theorem r112_1 : sw_A 112 1 ls st H Q = (sw_r1 False st fun a r => sw_gf False H (some (2, 2, 1)) a fun v => sw_A 112 4 ls (v :: r) H Q) := sw_A_step (cc := cX2_startAtSide) rfl dX2_startAtSide_1 rfl ls st H Q
theorem r112_4 : sw_A 112 4 ls st H Q = (sw_pop False 1 st [] fun args r => sw_ck False r (sw_rc False H (some 3) args (sw_M 110 args H (sw_K 112 7 none ls r Q)))) := sw_A_step (cc := cX2_startAtSide) rfl dX2_startAtSide_4 rfl ls st H Q
theorem r112_7 : sw_A 112 7 ls st H Q = (sw_A 112 8 ls (.int (Int32.ofInt 0) :: st) H Q) := sw_A_step (cc := cX2_startAtSide) rfl dX2_startAtSide_7 rfl ls st H Q
theorem r112_8 : sw_A 112 8 ls st H Q = (sw_has1 False ls 3 (sw_i1 False st fun x r => sw_A 112 9 (sw_set1 ls 3 (.int x)) r H Q)) := sw_A_step (cc := cX2_startAtSide) rfl dX2_startAtSide_8 rfl ls st H Q
theorem r112_9 : sw_A 112 9 ls st H Q = (sw_ldi False ls 3 fun x => sw_A 112 10 ls (.int x :: st) H Q) := sw_A_step (cc := cX2_startAtSide) rfl dX2_startAtSide_9 rfl ls st H Q
theorem r112_10 : sw_A 112 10 ls st H Q = (sw_A 112 12 ls (.int (Int32.ofInt 36) :: st) H Q) := sw_A_step (cc := cX2_startAtSide) rfl dX2_startAtSide_10 rfl ls st H Q
theorem r112_12 : sw_A 112 12 ls st H Q = (sw_i2 False st fun x y r => if y ≤ x then sw_A 112 44 ls r H Q else sw_A 112 15 ls r H Q) := sw_A_step (cc := cX2_startAtSide) rfl dX2_startAtSide_12 rfl ls st H Q
theorem r112_15 : sw_A 112 15 ls st H Q = (sw_lda False ls 1 fun x => sw_A 112 16 ls (.ref x :: st) H Q) := sw_A_step (cc := cX2_startAtSide) rfl dX2_startAtSide_15 rfl ls st H Q
theorem r112_16 : sw_A 112 16 ls st H Q = (sw_ldi False ls 3 fun x => sw_A 112 17 ls (.int x :: st) H Q) := sw_A_step (cc := cX2_startAtSide) rfl dX2_startAtSide_16 rfl ls st H Q
theorem r112_17 : sw_A 112 17 ls st H Q = (sw_ri False st fun a i r => sw_ald False H 1 a i fun x => sw_A 112 18 ls (.int x :: r) H Q) := sw_A_step (cc := cX2_startAtSide) rfl dX2_startAtSide_17 rfl ls st H Q
theorem r112_18 : sw_A 112 18 ls st H Q = (sw_i1 False st fun x r => if ¬ x = 0 then sw_A 112 38 ls r H Q else sw_A 112 21 ls r H Q) := sw_A_step (cc := cX2_startAtSide) rfl dX2_startAtSide_18 rfl ls st H Q
theorem r112_21 : sw_A 112 21 ls st H Q = (sw_ldi False ls 3 fun x => sw_A 112 22 ls (.int x :: st) H Q) := sw_A_step (cc := cX2_startAtSide) rfl dX2_startAtSide_21 rfl ls st H Q
theorem r112_22 : sw_A 112 22 ls st H Q = (sw_ldi False ls 2 fun x => sw_A 112 23 ls (.int x :: st) H Q) := sw_A_step (cc := cX2_startAtSide) rfl dX2_startAtSide_22 rfl ls st H Q
theorem r112_23 : sw_A 112 23 ls st H Q = (sw_pop False 2 st [] fun args r => sw_ck False r (sw_M 72 args H (sw_K 112 26 none ls r Q))) := sw_A_step (cc := cX2_startAtSide) rfl dX2_startAtSide_23 rfl ls st H Q
theorem r112_26 : sw_A 112 26 ls st H Q = (sw_i1 False st fun x r => if x = 0 then sw_A 112 38 ls r H Q else sw_A 112 29 ls r H Q) := sw_A_step (cc := cX2_startAtSide) rfl dX2_startAtSide_26 rfl ls st H Q
theorem r112_29 : sw_A 112 29 ls st H Q = (sw_lda False ls 0 fun x => sw_A 112 30 ls (.ref x :: st) H Q) := sw_A_step (cc := cX2_startAtSide) rfl dX2_startAtSide_29 rfl ls st H Q
theorem r112_30 : sw_A 112 30 ls st H Q = (sw_r1 False st fun a r => sw_gf False H (some (2, 2, 1)) a fun v => sw_A 112 33 ls (v :: r) H Q) := sw_A_step (cc := cX2_startAtSide) rfl dX2_startAtSide_30 rfl ls st H Q
theorem r112_33 : sw_A 112 33 ls st H Q = (sw_ldi False ls 3 fun x => sw_A 112 34 ls (.int x :: st) H Q) := sw_A_step (cc := cX2_startAtSide) rfl dX2_startAtSide_33 rfl ls st H Q
theorem r112_34 : sw_A 112 34 ls st H Q = (sw_A 112 35 ls (.int (Int32.ofInt 0) :: st) H Q) := sw_A_step (cc := cX2_startAtSide) rfl dX2_startAtSide_34 rfl ls st H Q
theorem r112_35 : sw_A 112 35 ls st H Q = (sw_pop False 3 st [] fun args r => sw_ck False r (sw_rc False H (some 3) args (sw_M 111 args H (sw_K 112 38 none ls r Q)))) := sw_A_step (cc := cX2_startAtSide) rfl dX2_startAtSide_35 rfl ls st H Q
theorem r112_38 : sw_A 112 38 ls st H Q = (sw_ldi False ls 3 fun x => sw_A 112 41 (sw_set1 ls 3 (.int (x + Int32.ofInt 1))) st H Q) := sw_A_step (cc := cX2_startAtSide) rfl dX2_startAtSide_38 rfl ls st H Q
theorem r112_41 : sw_A 112 41 ls st H Q = (sw_A 112 9 ls st H Q) := sw_A_step (cc := cX2_startAtSide) rfl dX2_startAtSide_41 rfl ls st H Q
theorem r112_44 : sw_A 112 44 ls st H Q = (match st with | [] => Q (some none) H | _ => False) := sw_A_step (cc := cX2_startAtSide) rfl dX2_startAtSide_44 rfl ls st H Q
theorem r113_0 : sw_A 113 0 ls st H Q = (sw_A 113 1 ls (.int (Int32.ofInt (-1)) :: st) H Q) := sw_A_step (cc := cX3_settleNearest) rfl dX3_settleNearest_0 rfl ls st H Q
theorem r113_1 : sw_A 113 1 ls st H Q = (sw_has1 False ls 1 (sw_i1 False st fun x r => sw_A 113 2 (sw_set1 ls 1 (.int x)) r H Q)) := sw_A_step (cc := cX3_settleNearest) rfl dX3_settleNearest_1 rfl ls st H Q
theorem r113_2 : sw_A 113 2 ls st H Q = (sw_A 113 3 ls (.int (Int32.ofInt 0) :: st) H Q) := sw_A_step (cc := cX3_settleNearest) rfl dX3_settleNearest_2 rfl ls st H Q
theorem r113_3 : sw_A 113 3 ls st H Q = (sw_has1 False ls 2 (sw_i1 False st fun x r => sw_A 113 4 (sw_set1 ls 2 (.int x)) r H Q)) := sw_A_step (cc := cX3_settleNearest) rfl dX3_settleNearest_3 rfl ls st H Q
theorem r113_4 : sw_A 113 4 ls st H Q = (sw_ldi False ls 2 fun x => sw_A 113 5 ls (.int x :: st) H Q) := sw_A_step (cc := cX3_settleNearest) rfl dX3_settleNearest_4 rfl ls st H Q
theorem r113_5 : sw_A 113 5 ls st H Q = (sw_A 113 7 ls (.int (Int32.ofInt 36) :: st) H Q) := sw_A_step (cc := cX3_settleNearest) rfl dX3_settleNearest_5 rfl ls st H Q
theorem r113_7 : sw_A 113 7 ls st H Q = (sw_i2 False st fun x y r => if y ≤ x then sw_A 113 67 ls r H Q else sw_A 113 10 ls r H Q) := sw_A_step (cc := cX3_settleNearest) rfl dX3_settleNearest_7 rfl ls st H Q
theorem r113_10 : sw_A 113 10 ls st H Q = (sw_lda False ls 0 fun x => sw_A 113 11 ls (.ref x :: st) H Q) := sw_A_step (cc := cX3_settleNearest) rfl dX3_settleNearest_10 rfl ls st H Q
theorem r113_11 : sw_A 113 11 ls st H Q = (sw_r1 False st fun a r => sw_gf False H (some (3, 1, 1)) a fun v => sw_A 113 14 ls (v :: r) H Q) := sw_A_step (cc := cX3_settleNearest) rfl dX3_settleNearest_11 rfl ls st H Q
theorem r113_14 : sw_A 113 14 ls st H Q = (sw_ldi False ls 2 fun x => sw_A 113 15 ls (.int x :: st) H Q) := sw_A_step (cc := cX3_settleNearest) rfl dX3_settleNearest_14 rfl ls st H Q
theorem r113_15 : sw_A 113 15 ls st H Q = (sw_ri False st fun a i r => sw_ald False H 1 a i fun x => sw_A 113 16 ls (.int x :: r) H Q) := sw_A_step (cc := cX3_settleNearest) rfl dX3_settleNearest_15 rfl ls st H Q
theorem r113_16 : sw_A 113 16 ls st H Q = (sw_i1 False st fun x r => if ¬ x = 0 then sw_A 113 33 ls r H Q else sw_A 113 19 ls r H Q) := sw_A_step (cc := cX3_settleNearest) rfl dX3_settleNearest_16 rfl ls st H Q
theorem r113_19 : sw_A 113 19 ls st H Q = (sw_lda False ls 0 fun x => sw_A 113 20 ls (.ref x :: st) H Q) := sw_A_step (cc := cX3_settleNearest) rfl dX3_settleNearest_19 rfl ls st H Q
theorem r113_20 : sw_A 113 20 ls st H Q = (sw_r1 False st fun a r => sw_gf False H (some (3, 0, 1)) a fun v => sw_A 113 23 ls (v :: r) H Q) := sw_A_step (cc := cX3_settleNearest) rfl dX3_settleNearest_20 rfl ls st H Q
theorem r113_23 : sw_A 113 23 ls st H Q = (sw_ldi False ls 2 fun x => sw_A 113 24 ls (.int x :: st) H Q) := sw_A_step (cc := cX3_settleNearest) rfl dX3_settleNearest_23 rfl ls st H Q
theorem r113_24 : sw_A 113 24 ls st H Q = (sw_ri False st fun a i r => sw_ald False H 0 a i fun x => sw_A 113 25 ls (.int x :: r) H Q) := sw_A_step (cc := cX3_settleNearest) rfl dX3_settleNearest_24 rfl ls st H Q
theorem r113_25 : sw_A 113 25 ls st H Q = (sw_A 113 26 ls (.int (Int32.ofInt (-1)) :: st) H Q) := sw_A_step (cc := cX3_settleNearest) rfl dX3_settleNearest_25 rfl ls st H Q
theorem r113_26 : sw_A 113 26 ls st H Q = (sw_i2 False st fun x y r => if x = y then sw_A 113 33 ls r H Q else sw_A 113 29 ls r H Q) := sw_A_step (cc := cX3_settleNearest) rfl dX3_settleNearest_26 rfl ls st H Q
theorem r113_29 : sw_A 113 29 ls st H Q = (sw_A 113 30 ls (.int (Int32.ofInt 1) :: st) H Q) := sw_A_step (cc := cX3_settleNearest) rfl dX3_settleNearest_29 rfl ls st H Q
theorem r113_30 : sw_A 113 30 ls st H Q = (sw_A 113 34 ls st H Q) := sw_A_step (cc := cX3_settleNearest) rfl dX3_settleNearest_30 rfl ls st H Q
theorem r113_33 : sw_A 113 33 ls st H Q = (sw_A 113 34 ls (.int (Int32.ofInt 0) :: st) H Q) := sw_A_step (cc := cX3_settleNearest) rfl dX3_settleNearest_33 rfl ls st H Q
theorem r113_34 : sw_A 113 34 ls st H Q = (sw_has1 False ls 3 (sw_i1 False st fun x r => sw_A 113 35 (sw_set1 ls 3 (.int x)) r H Q)) := sw_A_step (cc := cX3_settleNearest) rfl dX3_settleNearest_34 rfl ls st H Q
theorem r113_35 : sw_A 113 35 ls st H Q = (sw_ldi False ls 3 fun x => sw_A 113 36 ls (.int x :: st) H Q) := sw_A_step (cc := cX3_settleNearest) rfl dX3_settleNearest_35 rfl ls st H Q
theorem r113_36 : sw_A 113 36 ls st H Q = (sw_i1 False st fun x r => if x = 0 then sw_A 113 61 ls r H Q else sw_A 113 39 ls r H Q) := sw_A_step (cc := cX3_settleNearest) rfl dX3_settleNearest_36 rfl ls st H Q
theorem r113_39 : sw_A 113 39 ls st H Q = (sw_ldi False ls 1 fun x => sw_A 113 40 ls (.int x :: st) H Q) := sw_A_step (cc := cX3_settleNearest) rfl dX3_settleNearest_39 rfl ls st H Q
theorem r113_40 : sw_A 113 40 ls st H Q = (sw_A 113 41 ls (.int (Int32.ofInt (-1)) :: st) H Q) := sw_A_step (cc := cX3_settleNearest) rfl dX3_settleNearest_40 rfl ls st H Q
theorem r113_41 : sw_A 113 41 ls st H Q = (sw_i2 False st fun x y r => if x = y then sw_A 113 59 ls r H Q else sw_A 113 44 ls r H Q) := sw_A_step (cc := cX3_settleNearest) rfl dX3_settleNearest_41 rfl ls st H Q
theorem r113_44 : sw_A 113 44 ls st H Q = (sw_lda False ls 0 fun x => sw_A 113 45 ls (.ref x :: st) H Q) := sw_A_step (cc := cX3_settleNearest) rfl dX3_settleNearest_44 rfl ls st H Q
theorem r113_45 : sw_A 113 45 ls st H Q = (sw_r1 False st fun a r => sw_gf False H (some (3, 0, 1)) a fun v => sw_A 113 48 ls (v :: r) H Q) := sw_A_step (cc := cX3_settleNearest) rfl dX3_settleNearest_45 rfl ls st H Q
theorem r113_48 : sw_A 113 48 ls st H Q = (sw_ldi False ls 2 fun x => sw_A 113 49 ls (.int x :: st) H Q) := sw_A_step (cc := cX3_settleNearest) rfl dX3_settleNearest_48 rfl ls st H Q
theorem r113_49 : sw_A 113 49 ls st H Q = (sw_ri False st fun a i r => sw_ald False H 0 a i fun x => sw_A 113 50 ls (.int x :: r) H Q) := sw_A_step (cc := cX3_settleNearest) rfl dX3_settleNearest_49 rfl ls st H Q
theorem r113_50 : sw_A 113 50 ls st H Q = (sw_lda False ls 0 fun x => sw_A 113 51 ls (.ref x :: st) H Q) := sw_A_step (cc := cX3_settleNearest) rfl dX3_settleNearest_50 rfl ls st H Q
theorem r113_51 : sw_A 113 51 ls st H Q = (sw_r1 False st fun a r => sw_gf False H (some (3, 0, 1)) a fun v => sw_A 113 54 ls (v :: r) H Q) := sw_A_step (cc := cX3_settleNearest) rfl dX3_settleNearest_51 rfl ls st H Q
theorem r113_54 : sw_A 113 54 ls st H Q = (sw_ldi False ls 1 fun x => sw_A 113 55 ls (.int x :: st) H Q) := sw_A_step (cc := cX3_settleNearest) rfl dX3_settleNearest_54 rfl ls st H Q
theorem r113_55 : sw_A 113 55 ls st H Q = (sw_ri False st fun a i r => sw_ald False H 0 a i fun x => sw_A 113 56 ls (.int x :: r) H Q) := sw_A_step (cc := cX3_settleNearest) rfl dX3_settleNearest_55 rfl ls st H Q
theorem r113_56 : sw_A 113 56 ls st H Q = (sw_i2 False st fun x y r => if y ≤ x then sw_A 113 61 ls r H Q else sw_A 113 59 ls r H Q) := sw_A_step (cc := cX3_settleNearest) rfl dX3_settleNearest_56 rfl ls st H Q
theorem r113_59 : sw_A 113 59 ls st H Q = (sw_ldi False ls 2 fun x => sw_A 113 60 ls (.int x :: st) H Q) := sw_A_step (cc := cX3_settleNearest) rfl dX3_settleNearest_59 rfl ls st H Q
theorem r113_60 : sw_A 113 60 ls st H Q = (sw_has1 False ls 1 (sw_i1 False st fun x r => sw_A 113 61 (sw_set1 ls 1 (.int x)) r H Q)) := sw_A_step (cc := cX3_settleNearest) rfl dX3_settleNearest_60 rfl ls st H Q
theorem r113_61 : sw_A 113 61 ls st H Q = (sw_ldi False ls 2 fun x => sw_A 113 64 (sw_set1 ls 2 (.int (x + Int32.ofInt 1))) st H Q) := sw_A_step (cc := cX3_settleNearest) rfl dX3_settleNearest_61 rfl ls st H Q
theorem r113_64 : sw_A 113 64 ls st H Q = (sw_A 113 4 ls st H Q) := sw_A_step (cc := cX3_settleNearest) rfl dX3_settleNearest_64 rfl ls st H Q
theorem r113_67 : sw_A 113 67 ls st H Q = (sw_ldi False ls 1 fun x => sw_A 113 68 ls (.int x :: st) H Q) := sw_A_step (cc := cX3_settleNearest) rfl dX3_settleNearest_67 rfl ls st H Q
theorem r113_68 : sw_A 113 68 ls st H Q = (sw_A 113 69 ls (.int (Int32.ofInt (-1)) :: st) H Q) := sw_A_step (cc := cX3_settleNearest) rfl dX3_settleNearest_68 rfl ls st H Q
theorem r113_69 : sw_A 113 69 ls st H Q = (sw_i2 False st fun x y r => if x = y then sw_A 113 79 ls r H Q else sw_A 113 72 ls r H Q) := sw_A_step (cc := cX3_settleNearest) rfl dX3_settleNearest_69 rfl ls st H Q
theorem r113_72 : sw_A 113 72 ls st H Q = (sw_lda False ls 0 fun x => sw_A 113 73 ls (.ref x :: st) H Q) := sw_A_step (cc := cX3_settleNearest) rfl dX3_settleNearest_72 rfl ls st H Q
theorem r113_73 : sw_A 113 73 ls st H Q = (sw_r1 False st fun a r => sw_gf False H (some (3, 1, 1)) a fun v => sw_A 113 76 ls (v :: r) H Q) := sw_A_step (cc := cX3_settleNearest) rfl dX3_settleNearest_73 rfl ls st H Q
theorem r113_76 : sw_A 113 76 ls st H Q = (sw_ldi False ls 1 fun x => sw_A 113 77 ls (.int x :: st) H Q) := sw_A_step (cc := cX3_settleNearest) rfl dX3_settleNearest_76 rfl ls st H Q
theorem r113_77 : sw_A 113 77 ls st H Q = (sw_A 113 78 ls (.int (Int32.ofInt 1) :: st) H Q) := sw_A_step (cc := cX3_settleNearest) rfl dX3_settleNearest_77 rfl ls st H Q
theorem r113_78 : sw_A 113 78 ls st H Q = (sw_rix False st fun a i x r => sw_ast False H 1 a i (x &&& 1) fun H1 => sw_A 113 79 ls r H1 Q) := sw_A_step (cc := cX3_settleNearest) rfl dX3_settleNearest_78 rfl ls st H Q
theorem r113_79 : sw_A 113 79 ls st H Q = (sw_ldi False ls 1 fun x => sw_A 113 80 ls (.int x :: st) H Q) := sw_A_step (cc := cX3_settleNearest) rfl dX3_settleNearest_79 rfl ls st H Q
theorem r113_80 : sw_A 113 80 ls st H Q = (match st with | [.int x] => Q (some (some (.int x))) H | _ => False) := sw_A_step (cc := cX3_settleNearest) rfl dX3_settleNearest_80 rfl ls st H Q
theorem r114_0 : sw_A 114 0 ls st H Q = (sw_A 114 1 ls (.int (Int32.ofInt 0) :: st) H Q) := sw_A_step (cc := cX2_offerBeside) rfl dX2_offerBeside_0 rfl ls st H Q
theorem r114_1 : sw_A 114 1 ls st H Q = (sw_has1 False ls 5 (sw_i1 False st fun x r => sw_A 114 3 (sw_set1 ls 5 (.int x)) r H Q)) := sw_A_step (cc := cX2_offerBeside) rfl dX2_offerBeside_1 rfl ls st H Q
theorem r114_3 : sw_A 114 3 ls st H Q = (sw_ldi False ls 5 fun x => sw_A 114 5 ls (.int x :: st) H Q) := sw_A_step (cc := cX2_offerBeside) rfl dX2_offerBeside_3 rfl ls st H Q
theorem r114_5 : sw_A 114 5 ls st H Q = (sw_A 114 6 ls (.int (Int32.ofInt 4) :: st) H Q) := sw_A_step (cc := cX2_offerBeside) rfl dX2_offerBeside_5 rfl ls st H Q
theorem r114_6 : sw_A 114 6 ls st H Q = (sw_i2 False st fun x y r => if y ≤ x then sw_A 114 75 ls r H Q else sw_A 114 9 ls r H Q) := sw_A_step (cc := cX2_offerBeside) rfl dX2_offerBeside_6 rfl ls st H Q
theorem r114_9 : sw_A 114 9 ls st H Q = (sw_ldi False ls 4 fun x => sw_A 114 11 ls (.int x :: st) H Q) := sw_A_step (cc := cX2_offerBeside) rfl dX2_offerBeside_9 rfl ls st H Q
theorem r114_11 : sw_A 114 11 ls st H Q = (sw_ldi False ls 5 fun x => sw_A 114 13 ls (.int x :: st) H Q) := sw_A_step (cc := cX2_offerBeside) rfl dX2_offerBeside_11 rfl ls st H Q
theorem r114_13 : sw_A 114 13 ls st H Q = (sw_pop False 2 st [] fun args r => sw_ck False r (sw_M 32 args H (sw_K 114 16 none ls r Q))) := sw_A_step (cc := cX2_offerBeside) rfl dX2_offerBeside_13 rfl ls st H Q
theorem r114_16 : sw_A 114 16 ls st H Q = (sw_has1 False ls 6 (sw_i1 False st fun x r => sw_A 114 18 (sw_set1 ls 6 (.int x)) r H Q)) := sw_A_step (cc := cX2_offerBeside) rfl dX2_offerBeside_16 rfl ls st H Q
theorem r114_18 : sw_A 114 18 ls st H Q = (sw_ldi False ls 6 fun x => sw_A 114 20 ls (.int x :: st) H Q) := sw_A_step (cc := cX2_offerBeside) rfl dX2_offerBeside_18 rfl ls st H Q
theorem r114_20 : sw_A 114 20 ls st H Q = (sw_A 114 21 ls (.int (Int32.ofInt (-1)) :: st) H Q) := sw_A_step (cc := cX2_offerBeside) rfl dX2_offerBeside_20 rfl ls st H Q
theorem r114_21 : sw_A 114 21 ls st H Q = (sw_i2 False st fun x y r => if x = y then sw_A 114 69 ls r H Q else sw_A 114 24 ls r H Q) := sw_A_step (cc := cX2_offerBeside) rfl dX2_offerBeside_21 rfl ls st H Q
theorem r114_24 : sw_A 114 24 ls st H Q = (sw_lda False ls 2 fun x => sw_A 114 25 ls (.ref x :: st) H Q) := sw_A_step (cc := cX2_offerBeside) rfl dX2_offerBeside_24 rfl ls st H Q
theorem r114_25 : sw_A 114 25 ls st H Q = (sw_ldi False ls 6 fun x => sw_A 114 27 ls (.int x :: st) H Q) := sw_A_step (cc := cX2_offerBeside) rfl dX2_offerBeside_25 rfl ls st H Q
theorem r114_27 : sw_A 114 27 ls st H Q = (sw_ri False st fun a i r => sw_ald False H 1 a i fun x => sw_A 114 28 ls (.int x :: r) H Q) := sw_A_step (cc := cX2_offerBeside) rfl dX2_offerBeside_27 rfl ls st H Q
theorem r114_28 : sw_A 114 28 ls st H Q = (sw_i1 False st fun x r => if ¬ x = 0 then sw_A 114 69 ls r H Q else sw_A 114 31 ls r H Q) := sw_A_step (cc := cX2_offerBeside) rfl dX2_offerBeside_28 rfl ls st H Q
theorem r114_31 : sw_A 114 31 ls st H Q = (sw_lda False ls 1 fun x => sw_A 114 32 ls (.ref x :: st) H Q) := sw_A_step (cc := cX2_offerBeside) rfl dX2_offerBeside_31 rfl ls st H Q
theorem r114_32 : sw_A 114 32 ls st H Q = (sw_ldi False ls 3 fun x => sw_A 114 33 ls (.int x :: st) H Q) := sw_A_step (cc := cX2_offerBeside) rfl dX2_offerBeside_32 rfl ls st H Q
theorem r114_33 : sw_A 114 33 ls st H Q = (sw_ldi False ls 4 fun x => sw_A 114 35 ls (.int x :: st) H Q) := sw_A_step (cc := cX2_offerBeside) rfl dX2_offerBeside_33 rfl ls st H Q
theorem r114_35 : sw_A 114 35 ls st H Q = (sw_ldi False ls 6 fun x => sw_A 114 37 ls (.int x :: st) H Q) := sw_A_step (cc := cX2_offerBeside) rfl dX2_offerBeside_35 rfl ls st H Q
theorem r114_37 : sw_A 114 37 ls st H Q = (sw_pop False 2 st [] fun args r => sw_ck False r (sw_M 89 args H (sw_K 114 40 none ls r Q))) := sw_A_step (cc := cX2_offerBeside) rfl dX2_offerBeside_37 rfl ls st H Q
theorem r114_40 : sw_A 114 40 ls st H Q = (sw_pop False 3 st [] fun args r => sw_ck False r (sw_rc False H (some 8) args (sw_M 105 args H (sw_K 114 43 none ls r Q)))) := sw_A_step (cc := cX2_offerBeside) rfl dX2_offerBeside_40 rfl ls st H Q
theorem r114_43 : sw_A 114 43 ls st H Q = (sw_has1 False ls 7 (sw_i1 False st fun x r => sw_A 114 45 (sw_set1 ls 7 (.int x)) r H Q)) := sw_A_step (cc := cX2_offerBeside) rfl dX2_offerBeside_43 rfl ls st H Q
theorem r114_45 : sw_A 114 45 ls st H Q = (sw_lda False ls 0 fun x => sw_A 114 46 ls (.ref x :: st) H Q) := sw_A_step (cc := cX2_offerBeside) rfl dX2_offerBeside_45 rfl ls st H Q
theorem r114_46 : sw_A 114 46 ls st H Q = (sw_r1 False st fun a r => sw_gf False H (some (2, 2, 1)) a fun v => sw_A 114 49 ls (v :: r) H Q) := sw_A_step (cc := cX2_offerBeside) rfl dX2_offerBeside_46 rfl ls st H Q
theorem r114_49 : sw_A 114 49 ls st H Q = (sw_ldi False ls 6 fun x => sw_A 114 51 ls (.int x :: st) H Q) := sw_A_step (cc := cX2_offerBeside) rfl dX2_offerBeside_49 rfl ls st H Q
theorem r114_51 : sw_A 114 51 ls st H Q = (sw_lda False ls 0 fun x => sw_A 114 52 ls (.ref x :: st) H Q) := sw_A_step (cc := cX2_offerBeside) rfl dX2_offerBeside_51 rfl ls st H Q
theorem r114_52 : sw_A 114 52 ls st H Q = (sw_r1 False st fun a r => sw_gf False H (some (2, 2, 1)) a fun v => sw_A 114 55 ls (v :: r) H Q) := sw_A_step (cc := cX2_offerBeside) rfl dX2_offerBeside_52 rfl ls st H Q
theorem r114_55 : sw_A 114 55 ls st H Q = (sw_r1 False st fun a r => sw_gf False H (some (3, 0, 3)) a fun v => sw_A 114 58 ls (v :: r) H Q) := sw_A_step (cc := cX2_offerBeside) rfl dX2_offerBeside_55 rfl ls st H Q
theorem r114_58 : sw_A 114 58 ls st H Q = (sw_ldi False ls 4 fun x => sw_A 114 60 ls (.int x :: st) H Q) := sw_A_step (cc := cX2_offerBeside) rfl dX2_offerBeside_58 rfl ls st H Q
theorem r114_60 : sw_A 114 60 ls st H Q = (sw_ri False st fun a i r => sw_ald False H 0 a i fun x => sw_A 114 61 ls (.int x :: r) H Q) := sw_A_step (cc := cX2_offerBeside) rfl dX2_offerBeside_60 rfl ls st H Q
theorem r114_61 : sw_A 114 61 ls st H Q = (sw_ldi False ls 7 fun x => sw_A 114 63 ls (.int x :: st) H Q) := sw_A_step (cc := cX2_offerBeside) rfl dX2_offerBeside_61 rfl ls st H Q
theorem r114_63 : sw_A 114 63 ls st H Q = (sw_i2 False st fun x y r => sw_ck False r (sw_A 114 66 ls (.int (if x < y then y else x) :: r) H Q)) := sw_A_step (cc := cX2_offerBeside) rfl dX2_offerBeside_63 rfl ls st H Q
theorem r114_66 : sw_A 114 66 ls st H Q = (sw_pop False 3 st [] fun args r => sw_ck False r (sw_rc False H (some 3) args (sw_M 111 args H (sw_K 114 69 none ls r Q)))) := sw_A_step (cc := cX2_offerBeside) rfl dX2_offerBeside_66 rfl ls st H Q
theorem r114_69 : sw_A 114 69 ls st H Q = (sw_ldi False ls 5 fun x => sw_A 114 72 (sw_set1 ls 5 (.int (x + Int32.ofInt 1))) st H Q) := sw_A_step (cc := cX2_offerBeside) rfl dX2_offerBeside_69 rfl ls st H Q
theorem r114_72 : sw_A 114 72 ls st H Q = (sw_A 114 3 ls st H Q) := sw_A_step (cc := cX2_offerBeside) rfl dX2_offerBeside_72 rfl ls st H Q
theorem r114_75 : sw_A 114 75 ls st H Q = (match st with | [] => Q (some none) H | _ => False) := sw_A_step (cc := cX2_offerBeside) rfl dX2_offerBeside_75 rfl ls st H Q
theorem r115_0 : sw_A 115 0 ls st H Q = (sw_lda False ls 0 fun x => sw_A 115 1 ls (.ref x :: st) H Q) := sw_A_step (cc := cX2_byBestWay) rfl dX2_byBestWay_0 rfl ls st H Q
theorem r115_1 : sw_A 115 1 ls st H Q = (sw_lda False ls 2 fun x => sw_A 115 2 ls (.ref x :: st) H Q) := sw_A_step (cc := cX2_byBestWay) rfl dX2_byBestWay_1 rfl ls st H Q
theorem r115_2 : sw_A 115 2 ls st H Q = (sw_ldi False ls 4 fun x => sw_A 115 4 ls (.int x :: st) H Q) := sw_A_step (cc := cX2_byBestWay) rfl dX2_byBestWay_2 rfl ls st H Q
theorem r115_4 : sw_A 115 4 ls st H Q = (sw_i1 False st fun x r => if x = 0 then sw_A 115 11 ls r H Q else sw_A 115 7 ls r H Q) := sw_A_step (cc := cX2_byBestWay) rfl dX2_byBestWay_4 rfl ls st H Q
theorem r115_7 : sw_A 115 7 ls st H Q = (sw_A 115 8 ls (.int (Int32.ofInt 0) :: st) H Q) := sw_A_step (cc := cX2_byBestWay) rfl dX2_byBestWay_7 rfl ls st H Q
theorem r115_8 : sw_A 115 8 ls st H Q = (sw_A 115 12 ls st H Q) := sw_A_step (cc := cX2_byBestWay) rfl dX2_byBestWay_8 rfl ls st H Q
theorem r115_11 : sw_A 115 11 ls st H Q = (sw_A 115 12 ls (.int (Int32.ofInt 1) :: st) H Q) := sw_A_step (cc := cX2_byBestWay) rfl dX2_byBestWay_11 rfl ls st H Q
theorem r115_12 : sw_A 115 12 ls st H Q = (sw_pop False 3 st [] fun args r => sw_ck False r (sw_rc False H (some 2) args (sw_M 112 args H (sw_K 115 15 none ls r Q)))) := sw_A_step (cc := cX2_byBestWay) rfl dX2_byBestWay_12 rfl ls st H Q
theorem r115_15 : sw_A 115 15 ls st H Q = (sw_A 115 16 ls (.int (Int32.ofInt 0) :: st) H Q) := sw_A_step (cc := cX2_byBestWay) rfl dX2_byBestWay_15 rfl ls st H Q
theorem r115_16 : sw_A 115 16 ls st H Q = (sw_has1 False ls 5 (sw_i1 False st fun x r => sw_A 115 18 (sw_set1 ls 5 (.int x)) r H Q)) := sw_A_step (cc := cX2_byBestWay) rfl dX2_byBestWay_16 rfl ls st H Q
theorem r115_18 : sw_A 115 18 ls st H Q = (sw_ldi False ls 5 fun x => sw_A 115 20 ls (.int x :: st) H Q) := sw_A_step (cc := cX2_byBestWay) rfl dX2_byBestWay_18 rfl ls st H Q
theorem r115_20 : sw_A 115 20 ls st H Q = (sw_A 115 22 ls (.int (Int32.ofInt 36) :: st) H Q) := sw_A_step (cc := cX2_byBestWay) rfl dX2_byBestWay_20 rfl ls st H Q
theorem r115_22 : sw_A 115 22 ls st H Q = (sw_i2 False st fun x y r => if y ≤ x then sw_A 115 89 ls r H Q else sw_A 115 25 ls r H Q) := sw_A_step (cc := cX2_byBestWay) rfl dX2_byBestWay_22 rfl ls st H Q
theorem r115_25 : sw_A 115 25 ls st H Q = (sw_lda False ls 0 fun x => sw_A 115 26 ls (.ref x :: st) H Q) := sw_A_step (cc := cX2_byBestWay) rfl dX2_byBestWay_25 rfl ls st H Q
theorem r115_26 : sw_A 115 26 ls st H Q = (sw_r1 False st fun a r => sw_gf False H (some (2, 2, 1)) a fun v => sw_A 115 29 ls (v :: r) H Q) := sw_A_step (cc := cX2_byBestWay) rfl dX2_byBestWay_26 rfl ls st H Q
theorem r115_29 : sw_A 115 29 ls st H Q = (sw_pop False 1 st [] fun args r => sw_ck False r (sw_rc False H (some 3) args (sw_M 113 args H (sw_K 115 32 none ls r Q)))) := sw_A_step (cc := cX2_byBestWay) rfl dX2_byBestWay_29 rfl ls st H Q
theorem r115_32 : sw_A 115 32 ls st H Q = (sw_has1 False ls 6 (sw_i1 False st fun x r => sw_A 115 34 (sw_set1 ls 6 (.int x)) r H Q)) := sw_A_step (cc := cX2_byBestWay) rfl dX2_byBestWay_32 rfl ls st H Q
theorem r115_34 : sw_A 115 34 ls st H Q = (sw_ldi False ls 6 fun x => sw_A 115 36 ls (.int x :: st) H Q) := sw_A_step (cc := cX2_byBestWay) rfl dX2_byBestWay_34 rfl ls st H Q
theorem r115_36 : sw_A 115 36 ls st H Q = (sw_A 115 37 ls (.int (Int32.ofInt (-1)) :: st) H Q) := sw_A_step (cc := cX2_byBestWay) rfl dX2_byBestWay_36 rfl ls st H Q
theorem r115_37 : sw_A 115 37 ls st H Q = (sw_i2 False st fun x y r => if ¬ x = y then sw_A 115 43 ls r H Q else sw_A 115 40 ls r H Q) := sw_A_step (cc := cX2_byBestWay) rfl dX2_byBestWay_37 rfl ls st H Q
theorem r115_40 : sw_A 115 40 ls st H Q = (sw_A 115 89 ls st H Q) := sw_A_step (cc := cX2_byBestWay) rfl dX2_byBestWay_40 rfl ls st H Q
theorem r115_43 : sw_A 115 43 ls st H Q = (sw_ldi False ls 6 fun x => sw_A 115 45 ls (.int x :: st) H Q) := sw_A_step (cc := cX2_byBestWay) rfl dX2_byBestWay_43 rfl ls st H Q
theorem r115_45 : sw_A 115 45 ls st H Q = (sw_ldi False ls 4 fun x => sw_A 115 47 ls (.int x :: st) H Q) := sw_A_step (cc := cX2_byBestWay) rfl dX2_byBestWay_45 rfl ls st H Q
theorem r115_47 : sw_A 115 47 ls st H Q = (sw_i1 False st fun x r => if x = 0 then sw_A 115 54 ls r H Q else sw_A 115 50 ls r H Q) := sw_A_step (cc := cX2_byBestWay) rfl dX2_byBestWay_47 rfl ls st H Q
theorem r115_50 : sw_A 115 50 ls st H Q = (sw_A 115 51 ls (.int (Int32.ofInt 3) :: st) H Q) := sw_A_step (cc := cX2_byBestWay) rfl dX2_byBestWay_50 rfl ls st H Q
theorem r115_51 : sw_A 115 51 ls st H Q = (sw_A 115 55 ls st H Q) := sw_A_step (cc := cX2_byBestWay) rfl dX2_byBestWay_51 rfl ls st H Q
theorem r115_54 : sw_A 115 54 ls st H Q = (sw_A 115 55 ls (.int (Int32.ofInt 2) :: st) H Q) := sw_A_step (cc := cX2_byBestWay) rfl dX2_byBestWay_54 rfl ls st H Q
theorem r115_55 : sw_A 115 55 ls st H Q = (sw_pop False 2 st [] fun args r => sw_ck False r (sw_M 72 args H (sw_K 115 58 none ls r Q))) := sw_A_step (cc := cX2_byBestWay) rfl dX2_byBestWay_55 rfl ls st H Q
theorem r115_58 : sw_A 115 58 ls st H Q = (sw_i1 False st fun x r => if x = 0 then sw_A 115 74 ls r H Q else sw_A 115 61 ls r H Q) := sw_A_step (cc := cX2_byBestWay) rfl dX2_byBestWay_58 rfl ls st H Q
theorem r115_61 : sw_A 115 61 ls st H Q = (sw_lda False ls 0 fun x => sw_A 115 62 ls (.ref x :: st) H Q) := sw_A_step (cc := cX2_byBestWay) rfl dX2_byBestWay_61 rfl ls st H Q
theorem r115_62 : sw_A 115 62 ls st H Q = (sw_r1 False st fun a r => sw_gf False H (some (2, 2, 1)) a fun v => sw_A 115 65 ls (v :: r) H Q) := sw_A_step (cc := cX2_byBestWay) rfl dX2_byBestWay_62 rfl ls st H Q
theorem r115_65 : sw_A 115 65 ls st H Q = (sw_r1 False st fun a r => sw_gf False H (some (3, 0, 3)) a fun v => sw_A 115 68 ls (v :: r) H Q) := sw_A_step (cc := cX2_byBestWay) rfl dX2_byBestWay_65 rfl ls st H Q
theorem r115_68 : sw_A 115 68 ls st H Q = (sw_ldi False ls 6 fun x => sw_A 115 70 ls (.int x :: st) H Q) := sw_A_step (cc := cX2_byBestWay) rfl dX2_byBestWay_68 rfl ls st H Q
theorem r115_70 : sw_A 115 70 ls st H Q = (sw_ri False st fun a i r => sw_ald False H 0 a i fun x => sw_A 115 71 ls (.int x :: r) H Q) := sw_A_step (cc := cX2_byBestWay) rfl dX2_byBestWay_70 rfl ls st H Q
theorem r115_71 : sw_A 115 71 ls st H Q = (sw_A 115 72 ls (.int (Int32.ofInt 1) :: st) H Q) := sw_A_step (cc := cX2_byBestWay) rfl dX2_byBestWay_71 rfl ls st H Q
theorem r115_72 : sw_A 115 72 ls st H Q = (sw_i2 False st fun x y r => sw_A 115 73 ls (.int (x + y) :: r) H Q) := sw_A_step (cc := cX2_byBestWay) rfl dX2_byBestWay_72 rfl ls st H Q
theorem r115_73 : sw_A 115 73 ls st H Q = (match st with | [.int x] => Q (some (some (.int x))) H | _ => False) := sw_A_step (cc := cX2_byBestWay) rfl dX2_byBestWay_73 rfl ls st H Q
theorem r115_74 : sw_A 115 74 ls st H Q = (sw_lda False ls 0 fun x => sw_A 115 75 ls (.ref x :: st) H Q) := sw_A_step (cc := cX2_byBestWay) rfl dX2_byBestWay_74 rfl ls st H Q
theorem r115_75 : sw_A 115 75 ls st H Q = (sw_lda False ls 1 fun x => sw_A 115 76 ls (.ref x :: st) H Q) := sw_A_step (cc := cX2_byBestWay) rfl dX2_byBestWay_75 rfl ls st H Q
theorem r115_76 : sw_A 115 76 ls st H Q = (sw_lda False ls 2 fun x => sw_A 115 77 ls (.ref x :: st) H Q) := sw_A_step (cc := cX2_byBestWay) rfl dX2_byBestWay_76 rfl ls st H Q
theorem r115_77 : sw_A 115 77 ls st H Q = (sw_ldi False ls 3 fun x => sw_A 115 78 ls (.int x :: st) H Q) := sw_A_step (cc := cX2_byBestWay) rfl dX2_byBestWay_77 rfl ls st H Q
theorem r115_78 : sw_A 115 78 ls st H Q = (sw_ldi False ls 6 fun x => sw_A 115 80 ls (.int x :: st) H Q) := sw_A_step (cc := cX2_byBestWay) rfl dX2_byBestWay_78 rfl ls st H Q
theorem r115_80 : sw_A 115 80 ls st H Q = (sw_pop False 5 st [] fun args r => sw_ck False r (sw_rc False H (some 2) args (sw_M 114 args H (sw_K 115 83 none ls r Q)))) := sw_A_step (cc := cX2_byBestWay) rfl dX2_byBestWay_80 rfl ls st H Q
theorem r115_83 : sw_A 115 83 ls st H Q = (sw_ldi False ls 5 fun x => sw_A 115 86 (sw_set1 ls 5 (.int (x + Int32.ofInt 1))) st H Q) := sw_A_step (cc := cX2_byBestWay) rfl dX2_byBestWay_83 rfl ls st H Q
theorem r115_86 : sw_A 115 86 ls st H Q = (sw_A 115 18 ls st H Q) := sw_A_step (cc := cX2_byBestWay) rfl dX2_byBestWay_86 rfl ls st H Q
theorem r115_89 : sw_A 115 89 ls st H Q = (sw_A 115 90 ls (.int (Int32.ofInt (-1)) :: st) H Q) := sw_A_step (cc := cX2_byBestWay) rfl dX2_byBestWay_89 rfl ls st H Q
theorem r115_90 : sw_A 115 90 ls st H Q = (match st with | [.int x] => Q (some (some (.int x))) H | _ => False) := sw_A_step (cc := cX2_byBestWay) rfl dX2_byBestWay_90 rfl ls st H Q
theorem r116_0 : sw_A 116 0 ls st H Q = (sw_ldi False ls 1 fun x => sw_A 116 1 ls (.int x :: st) H Q) := sw_A_step (cc := cX11_edgeAnew) rfl dX11_edgeAnew_0 rfl ls st H Q
theorem r116_1 : sw_A 116 1 ls st H Q = (sw_pop False 1 st [] fun args r => sw_ck False r (sw_M 84 args H (sw_K 116 4 none ls r Q))) := sw_A_step (cc := cX11_edgeAnew) rfl dX11_edgeAnew_1 rfl ls st H Q
theorem r116_4 : sw_A 116 4 ls st H Q = (sw_lda False ls 0 fun x => sw_A 116 5 ls (.ref x :: st) H Q) := sw_A_step (cc := cX11_edgeAnew) rfl dX11_edgeAnew_4 rfl ls st H Q
theorem r116_5 : sw_A 116 5 ls st H Q = (sw_r1 False st fun a r => sw_gf False H (some (11, 5, 1)) a fun v => sw_A 116 8 ls (v :: r) H Q) := sw_A_step (cc := cX11_edgeAnew) rfl dX11_edgeAnew_5 rfl ls st H Q
theorem r116_8 : sw_A 116 8 ls st H Q = (sw_lda False ls 0 fun x => sw_A 116 9 ls (.ref x :: st) H Q) := sw_A_step (cc := cX11_edgeAnew) rfl dX11_edgeAnew_8 rfl ls st H Q
theorem r116_9 : sw_A 116 9 ls st H Q = (sw_r1 False st fun a r => sw_gf False H (some (11, 0, 1)) a fun v => sw_A 116 12 ls (v :: r) H Q) := sw_A_step (cc := cX11_edgeAnew) rfl dX11_edgeAnew_9 rfl ls st H Q
theorem r116_12 : sw_A 116 12 ls st H Q = (sw_lda False ls 0 fun x => sw_A 116 13 ls (.ref x :: st) H Q) := sw_A_step (cc := cX11_edgeAnew) rfl dX11_edgeAnew_12 rfl ls st H Q
theorem r116_13 : sw_A 116 13 ls st H Q = (sw_r1 False st fun a r => sw_gf False H (some (11, 2, 1)) a fun v => sw_A 116 16 ls (v :: r) H Q) := sw_A_step (cc := cX11_edgeAnew) rfl dX11_edgeAnew_13 rfl ls st H Q
theorem r116_16 : sw_A 116 16 ls st H Q = (sw_r1 False st fun a r => sw_gf False H (some (7, 0, 3)) a fun v => sw_A 116 19 ls (v :: r) H Q) := sw_A_step (cc := cX11_edgeAnew) rfl dX11_edgeAnew_16 rfl ls st H Q
theorem r116_19 : sw_A 116 19 ls st H Q = (sw_ldi False ls 1 fun x => sw_A 116 20 ls (.int x :: st) H Q) := sw_A_step (cc := cX11_edgeAnew) rfl dX11_edgeAnew_19 rfl ls st H Q
theorem r116_20 : sw_A 116 20 ls st H Q = (sw_ldi False ls 2 fun x => sw_A 116 21 ls (.int x :: st) H Q) := sw_A_step (cc := cX11_edgeAnew) rfl dX11_edgeAnew_20 rfl ls st H Q
theorem r116_21 : sw_A 116 21 ls st H Q = (sw_pop False 5 st [] fun args r => sw_ck False r (sw_rc False H (some 2) args (sw_M 115 args H (sw_K 116 24 none ls r Q)))) := sw_A_step (cc := cX11_edgeAnew) rfl dX11_edgeAnew_21 rfl ls st H Q
theorem r116_24 : sw_A 116 24 ls st H Q = (match st with | [.int x] => Q (some (some (.int x))) H | _ => False) := sw_A_step (cc := cX11_edgeAnew) rfl dX11_edgeAnew_24 rfl ls st H Q
theorem r117_0 : sw_A 117 0 ls st H Q = (sw_A 117 2 ls (.int (Int32.ofInt 25) :: st) H Q) := sw_A_step (cc := cL_cheapest) rfl dL_cheapest_0 rfl ls st H Q
theorem r117_2 : sw_A 117 2 ls st H Q = (sw_i1 False st fun n r => sw_nw False H 0 n fun H1 => sw_A 117 4 ls (.ref H.2.1 :: r) H1 Q) := sw_A_step (cc := cL_cheapest) rfl dL_cheapest_2 rfl ls st H Q
theorem r117_4 : sw_A 117 4 ls st H Q = (sw_has1 False ls 6 (sw_r1 False st fun x r => sw_A 117 6 (sw_set1 ls 6 (.ref x)) r H Q)) := sw_A_step (cc := cL_cheapest) rfl dL_cheapest_4 rfl ls st H Q
theorem r117_6 : sw_A 117 6 ls st H Q = (sw_A 117 7 ls (.int (Int32.ofInt 0) :: st) H Q) := sw_A_step (cc := cL_cheapest) rfl dL_cheapest_6 rfl ls st H Q
theorem r117_7 : sw_A 117 7 ls st H Q = (sw_has1 False ls 7 (sw_i1 False st fun x r => sw_A 117 9 (sw_set1 ls 7 (.int x)) r H Q)) := sw_A_step (cc := cL_cheapest) rfl dL_cheapest_7 rfl ls st H Q
theorem r117_9 : sw_A 117 9 ls st H Q = (sw_ldi False ls 7 fun x => sw_A 117 11 ls (.int x :: st) H Q) := sw_A_step (cc := cL_cheapest) rfl dL_cheapest_9 rfl ls st H Q
theorem r117_11 : sw_A 117 11 ls st H Q = (sw_A 117 13 ls (.int (Int32.ofInt 25) :: st) H Q) := sw_A_step (cc := cL_cheapest) rfl dL_cheapest_11 rfl ls st H Q
theorem r117_13 : sw_A 117 13 ls st H Q = (sw_i2 False st fun x y r => if y ≤ x then sw_A 117 58 ls r H Q else sw_A 117 16 ls r H Q) := sw_A_step (cc := cL_cheapest) rfl dL_cheapest_13 rfl ls st H Q
theorem r117_16 : sw_A 117 16 ls st H Q = (sw_lda False ls 6 fun x => sw_A 117 18 ls (.ref x :: st) H Q) := sw_A_step (cc := cL_cheapest) rfl dL_cheapest_16 rfl ls st H Q
theorem r117_18 : sw_A 117 18 ls st H Q = (sw_ldi False ls 7 fun x => sw_A 117 20 ls (.int x :: st) H Q) := sw_A_step (cc := cL_cheapest) rfl dL_cheapest_18 rfl ls st H Q
theorem r117_20 : sw_A 117 20 ls st H Q = (sw_ldi False ls 7 fun x => sw_A 117 22 ls (.int x :: st) H Q) := sw_A_step (cc := cL_cheapest) rfl dL_cheapest_20 rfl ls st H Q
theorem r117_22 : sw_A 117 22 ls st H Q = (sw_A 117 23 ls (.int (Int32.ofInt 5) :: st) H Q) := sw_A_step (cc := cL_cheapest) rfl dL_cheapest_22 rfl ls st H Q
theorem r117_23 : sw_A 117 23 ls st H Q = (sw_i2 False st fun x y r => if y ≤ x then sw_A 117 49 ls r H Q else sw_A 117 26 ls r H Q) := sw_A_step (cc := cL_cheapest) rfl dL_cheapest_23 rfl ls st H Q
theorem r117_26 : sw_A 117 26 ls st H Q = (sw_lda False ls 0 fun x => sw_A 117 27 ls (.ref x :: st) H Q) := sw_A_step (cc := cL_cheapest) rfl dL_cheapest_26 rfl ls st H Q
theorem r117_27 : sw_A 117 27 ls st H Q = (sw_lda False ls 1 fun x => sw_A 117 28 ls (.ref x :: st) H Q) := sw_A_step (cc := cL_cheapest) rfl dL_cheapest_27 rfl ls st H Q
theorem r117_28 : sw_A 117 28 ls st H Q = (sw_ldl False ls 2 fun x => sw_A 117 29 ls (.long x :: st) H Q) := sw_A_step (cc := cL_cheapest) rfl dL_cheapest_28 rfl ls st H Q
theorem r117_29 : sw_A 117 29 ls st H Q = (sw_ldi False ls 4 fun x => sw_A 117 31 ls (.int x :: st) H Q) := sw_A_step (cc := cL_cheapest) rfl dL_cheapest_29 rfl ls st H Q
theorem r117_31 : sw_A 117 31 ls st H Q = (sw_ldi False ls 5 fun x => sw_A 117 33 ls (.int x :: st) H Q) := sw_A_step (cc := cL_cheapest) rfl dL_cheapest_31 rfl ls st H Q
theorem r117_33 : sw_A 117 33 ls st H Q = (sw_ldi False ls 7 fun x => sw_A 117 35 ls (.int x :: st) H Q) := sw_A_step (cc := cL_cheapest) rfl dL_cheapest_33 rfl ls st H Q
theorem r117_35 : sw_A 117 35 ls st H Q = (sw_pop False 6 st [] fun args r => sw_ck False r (sw_M 81 args H (sw_K 117 38 none ls r Q))) := sw_A_step (cc := cL_cheapest) rfl dL_cheapest_35 rfl ls st H Q
theorem r117_38 : sw_A 117 38 ls st H Q = (sw_i1 False st fun x r => if x = 0 then sw_A 117 45 ls r H Q else sw_A 117 41 ls r H Q) := sw_A_step (cc := cL_cheapest) rfl dL_cheapest_38 rfl ls st H Q
theorem r117_41 : sw_A 117 41 ls st H Q = (sw_A 117 42 ls (.int (Int32.ofInt 1) :: st) H Q) := sw_A_step (cc := cL_cheapest) rfl dL_cheapest_41 rfl ls st H Q
theorem r117_42 : sw_A 117 42 ls st H Q = (sw_A 117 51 ls st H Q) := sw_A_step (cc := cL_cheapest) rfl dL_cheapest_42 rfl ls st H Q
theorem r117_45 : sw_A 117 45 ls st H Q = (sw_A 117 46 ls (.int (Int32.ofInt 0) :: st) H Q) := sw_A_step (cc := cL_cheapest) rfl dL_cheapest_45 rfl ls st H Q
theorem r117_46 : sw_A 117 46 ls st H Q = (sw_A 117 51 ls st H Q) := sw_A_step (cc := cL_cheapest) rfl dL_cheapest_46 rfl ls st H Q
theorem r117_49 : sw_A 117 49 ls st H Q = (sw_A 117 51 ls (.int (Int32.ofInt 99) :: st) H Q) := sw_A_step (cc := cL_cheapest) rfl dL_cheapest_49 rfl ls st H Q
theorem r117_51 : sw_A 117 51 ls st H Q = (sw_rix False st fun a i x r => sw_ast False H 0 a i x fun H1 => sw_A 117 52 ls r H1 Q) := sw_A_step (cc := cL_cheapest) rfl dL_cheapest_51 rfl ls st H Q
theorem r117_52 : sw_A 117 52 ls st H Q = (sw_ldi False ls 7 fun x => sw_A 117 55 (sw_set1 ls 7 (.int (x + Int32.ofInt 1))) st H Q) := sw_A_step (cc := cL_cheapest) rfl dL_cheapest_52 rfl ls st H Q
theorem r117_55 : sw_A 117 55 ls st H Q = (sw_A 117 9 ls st H Q) := sw_A_step (cc := cL_cheapest) rfl dL_cheapest_55 rfl ls st H Q
theorem r117_58 : sw_A 117 58 ls st H Q = (sw_A 117 59 ls (.int (Int32.ofInt 1) :: st) H Q) := sw_A_step (cc := cL_cheapest) rfl dL_cheapest_58 rfl ls st H Q
theorem r117_59 : sw_A 117 59 ls st H Q = (sw_has1 False ls 7 (sw_i1 False st fun x r => sw_A 117 61 (sw_set1 ls 7 (.int x)) r H Q)) := sw_A_step (cc := cL_cheapest) rfl dL_cheapest_59 rfl ls st H Q
theorem r117_61 : sw_A 117 61 ls st H Q = (sw_ldi False ls 7 fun x => sw_A 117 63 ls (.int x :: st) H Q) := sw_A_step (cc := cL_cheapest) rfl dL_cheapest_61 rfl ls st H Q
theorem r117_63 : sw_A 117 63 ls st H Q = (sw_i1 False st fun x r => if x = 0 then sw_A 117 348 ls r H Q else sw_A 117 66 ls r H Q) := sw_A_step (cc := cL_cheapest) rfl dL_cheapest_63 rfl ls st H Q
theorem r117_66 : sw_A 117 66 ls st H Q = (sw_A 117 67 ls (.int (Int32.ofInt 0) :: st) H Q) := sw_A_step (cc := cL_cheapest) rfl dL_cheapest_66 rfl ls st H Q
theorem r117_67 : sw_A 117 67 ls st H Q = (sw_has1 False ls 7 (sw_i1 False st fun x r => sw_A 117 69 (sw_set1 ls 7 (.int x)) r H Q)) := sw_A_step (cc := cL_cheapest) rfl dL_cheapest_67 rfl ls st H Q
theorem r117_69 : sw_A 117 69 ls st H Q = (sw_A 117 70 ls (.int (Int32.ofInt 0) :: st) H Q) := sw_A_step (cc := cL_cheapest) rfl dL_cheapest_69 rfl ls st H Q
theorem r117_70 : sw_A 117 70 ls st H Q = (sw_has1 False ls 8 (sw_i1 False st fun x r => sw_A 117 72 (sw_set1 ls 8 (.int x)) r H Q)) := sw_A_step (cc := cL_cheapest) rfl dL_cheapest_70 rfl ls st H Q
theorem r117_72 : sw_A 117 72 ls st H Q = (sw_ldi False ls 8 fun x => sw_A 117 74 ls (.int x :: st) H Q) := sw_A_step (cc := cL_cheapest) rfl dL_cheapest_72 rfl ls st H Q
theorem r117_74 : sw_A 117 74 ls st H Q = (sw_A 117 76 ls (.int (Int32.ofInt 25) :: st) H Q) := sw_A_step (cc := cL_cheapest) rfl dL_cheapest_74 rfl ls st H Q
theorem r117_76 : sw_A 117 76 ls st H Q = (sw_i2 False st fun x y r => if y ≤ x then sw_A 117 345 ls r H Q else sw_A 117 79 ls r H Q) := sw_A_step (cc := cL_cheapest) rfl dL_cheapest_76 rfl ls st H Q
theorem r117_79 : sw_A 117 79 ls st H Q = (sw_A 117 80 ls (.int (Int32.ofInt 0) :: st) H Q) := sw_A_step (cc := cL_cheapest) rfl dL_cheapest_79 rfl ls st H Q
theorem r117_80 : sw_A 117 80 ls st H Q = (sw_has1 False ls 9 (sw_i1 False st fun x r => sw_A 117 82 (sw_set1 ls 9 (.int x)) r H Q)) := sw_A_step (cc := cL_cheapest) rfl dL_cheapest_80 rfl ls st H Q
theorem r117_82 : sw_A 117 82 ls st H Q = (sw_ldi False ls 9 fun x => sw_A 117 84 ls (.int x :: st) H Q) := sw_A_step (cc := cL_cheapest) rfl dL_cheapest_82 rfl ls st H Q
theorem r117_84 : sw_A 117 84 ls st H Q = (sw_A 117 85 ls (.int (Int32.ofInt 4) :: st) H Q) := sw_A_step (cc := cL_cheapest) rfl dL_cheapest_84 rfl ls st H Q
theorem r117_85 : sw_A 117 85 ls st H Q = (sw_i2 False st fun x y r => if y ≤ x then sw_A 117 339 ls r H Q else sw_A 117 88 ls r H Q) := sw_A_step (cc := cL_cheapest) rfl dL_cheapest_85 rfl ls st H Q
theorem r117_88 : sw_A 117 88 ls st H Q = (sw_ldi False ls 8 fun x => sw_A 117 90 ls (.int x :: st) H Q) := sw_A_step (cc := cL_cheapest) rfl dL_cheapest_88 rfl ls st H Q
theorem r117_90 : sw_A 117 90 ls st H Q = (sw_A 117 91 ls (.int (Int32.ofInt 5) :: st) H Q) := sw_A_step (cc := cL_cheapest) rfl dL_cheapest_90 rfl ls st H Q
theorem r117_91 : sw_A 117 91 ls st H Q = (sw_i2 False st fun x y r => if y = 0 then False else sw_A 117 92 ls (.int (x / y) :: r) H Q) := sw_A_step (cc := cL_cheapest) rfl dL_cheapest_91 rfl ls st H Q
theorem r117_92 : sw_A 117 92 ls st H Q = (sw_has1 False ls 10 (sw_i1 False st fun x r => sw_A 117 94 (sw_set1 ls 10 (.int x)) r H Q)) := sw_A_step (cc := cL_cheapest) rfl dL_cheapest_92 rfl ls st H Q
theorem r117_94 : sw_A 117 94 ls st H Q = (sw_ldi False ls 8 fun x => sw_A 117 96 ls (.int x :: st) H Q) := sw_A_step (cc := cL_cheapest) rfl dL_cheapest_94 rfl ls st H Q
theorem r117_96 : sw_A 117 96 ls st H Q = (sw_A 117 97 ls (.int (Int32.ofInt 5) :: st) H Q) := sw_A_step (cc := cL_cheapest) rfl dL_cheapest_96 rfl ls st H Q
theorem r117_97 : sw_A 117 97 ls st H Q = (sw_i2 False st fun x y r => if y = 0 then False else sw_A 117 98 ls (.int (x - x / y * y) :: r) H Q) := sw_A_step (cc := cL_cheapest) rfl dL_cheapest_97 rfl ls st H Q
theorem r117_98 : sw_A 117 98 ls st H Q = (sw_has1 False ls 11 (sw_i1 False st fun x r => sw_A 117 100 (sw_set1 ls 11 (.int x)) r H Q)) := sw_A_step (cc := cL_cheapest) rfl dL_cheapest_98 rfl ls st H Q
theorem r117_100 : sw_A 117 100 ls st H Q = (sw_ldi False ls 9 fun x => sw_A 117 102 ls (.int x :: st) H Q) := sw_A_step (cc := cL_cheapest) rfl dL_cheapest_100 rfl ls st H Q
theorem r117_102 : sw_A 117 102 ls st H Q = (sw_i1 False st fun x r => if ¬ x = 0 then sw_A 117 118 ls r H Q else sw_A 117 105 ls r H Q) := sw_A_step (cc := cL_cheapest) rfl dL_cheapest_102 rfl ls st H Q
theorem r117_105 : sw_A 117 105 ls st H Q = (sw_ldi False ls 10 fun x => sw_A 117 107 ls (.int x :: st) H Q) := sw_A_step (cc := cL_cheapest) rfl dL_cheapest_105 rfl ls st H Q
theorem r117_107 : sw_A 117 107 ls st H Q = (sw_i1 False st fun x r => if x ≤ 0 then sw_A 117 114 ls r H Q else sw_A 117 110 ls r H Q) := sw_A_step (cc := cL_cheapest) rfl dL_cheapest_107 rfl ls st H Q
theorem r117_110 : sw_A 117 110 ls st H Q = (sw_A 117 111 ls (.int (Int32.ofInt 1) :: st) H Q) := sw_A_step (cc := cL_cheapest) rfl dL_cheapest_110 rfl ls st H Q
theorem r117_111 : sw_A 117 111 ls st H Q = (sw_A 117 168 ls st H Q) := sw_A_step (cc := cL_cheapest) rfl dL_cheapest_111 rfl ls st H Q
theorem r117_114 : sw_A 117 114 ls st H Q = (sw_A 117 115 ls (.int (Int32.ofInt 0) :: st) H Q) := sw_A_step (cc := cL_cheapest) rfl dL_cheapest_114 rfl ls st H Q
theorem r117_115 : sw_A 117 115 ls st H Q = (sw_A 117 168 ls st H Q) := sw_A_step (cc := cL_cheapest) rfl dL_cheapest_115 rfl ls st H Q
theorem r117_118 : sw_A 117 118 ls st H Q = (sw_ldi False ls 9 fun x => sw_A 117 120 ls (.int x :: st) H Q) := sw_A_step (cc := cL_cheapest) rfl dL_cheapest_118 rfl ls st H Q
theorem r117_120 : sw_A 117 120 ls st H Q = (sw_A 117 121 ls (.int (Int32.ofInt 1) :: st) H Q) := sw_A_step (cc := cL_cheapest) rfl dL_cheapest_120 rfl ls st H Q
theorem r117_121 : sw_A 117 121 ls st H Q = (sw_i2 False st fun x y r => if ¬ x = y then sw_A 117 138 ls r H Q else sw_A 117 124 ls r H Q) := sw_A_step (cc := cL_cheapest) rfl dL_cheapest_121 rfl ls st H Q
theorem r117_124 : sw_A 117 124 ls st H Q = (sw_ldi False ls 10 fun x => sw_A 117 126 ls (.int x :: st) H Q) := sw_A_step (cc := cL_cheapest) rfl dL_cheapest_124 rfl ls st H Q
theorem r117_126 : sw_A 117 126 ls st H Q = (sw_A 117 127 ls (.int (Int32.ofInt 4) :: st) H Q) := sw_A_step (cc := cL_cheapest) rfl dL_cheapest_126 rfl ls st H Q
theorem r117_127 : sw_A 117 127 ls st H Q = (sw_i2 False st fun x y r => if y ≤ x then sw_A 117 134 ls r H Q else sw_A 117 130 ls r H Q) := sw_A_step (cc := cL_cheapest) rfl dL_cheapest_127 rfl ls st H Q
theorem r117_130 : sw_A 117 130 ls st H Q = (sw_A 117 131 ls (.int (Int32.ofInt 1) :: st) H Q) := sw_A_step (cc := cL_cheapest) rfl dL_cheapest_130 rfl ls st H Q
theorem r117_131 : sw_A 117 131 ls st H Q = (sw_A 117 168 ls st H Q) := sw_A_step (cc := cL_cheapest) rfl dL_cheapest_131 rfl ls st H Q
theorem r117_134 : sw_A 117 134 ls st H Q = (sw_A 117 135 ls (.int (Int32.ofInt 0) :: st) H Q) := sw_A_step (cc := cL_cheapest) rfl dL_cheapest_134 rfl ls st H Q
theorem r117_135 : sw_A 117 135 ls st H Q = (sw_A 117 168 ls st H Q) := sw_A_step (cc := cL_cheapest) rfl dL_cheapest_135 rfl ls st H Q
theorem r117_138 : sw_A 117 138 ls st H Q = (sw_ldi False ls 9 fun x => sw_A 117 140 ls (.int x :: st) H Q) := sw_A_step (cc := cL_cheapest) rfl dL_cheapest_138 rfl ls st H Q
theorem r117_140 : sw_A 117 140 ls st H Q = (sw_A 117 141 ls (.int (Int32.ofInt 2) :: st) H Q) := sw_A_step (cc := cL_cheapest) rfl dL_cheapest_140 rfl ls st H Q
theorem r117_141 : sw_A 117 141 ls st H Q = (sw_i2 False st fun x y r => if ¬ x = y then sw_A 117 157 ls r H Q else sw_A 117 144 ls r H Q) := sw_A_step (cc := cL_cheapest) rfl dL_cheapest_141 rfl ls st H Q
theorem r117_144 : sw_A 117 144 ls st H Q = (sw_ldi False ls 11 fun x => sw_A 117 146 ls (.int x :: st) H Q) := sw_A_step (cc := cL_cheapest) rfl dL_cheapest_144 rfl ls st H Q
theorem r117_146 : sw_A 117 146 ls st H Q = (sw_i1 False st fun x r => if x ≤ 0 then sw_A 117 153 ls r H Q else sw_A 117 149 ls r H Q) := sw_A_step (cc := cL_cheapest) rfl dL_cheapest_146 rfl ls st H Q
theorem r117_149 : sw_A 117 149 ls st H Q = (sw_A 117 150 ls (.int (Int32.ofInt 1) :: st) H Q) := sw_A_step (cc := cL_cheapest) rfl dL_cheapest_149 rfl ls st H Q
theorem r117_150 : sw_A 117 150 ls st H Q = (sw_A 117 168 ls st H Q) := sw_A_step (cc := cL_cheapest) rfl dL_cheapest_150 rfl ls st H Q
theorem r117_153 : sw_A 117 153 ls st H Q = (sw_A 117 154 ls (.int (Int32.ofInt 0) :: st) H Q) := sw_A_step (cc := cL_cheapest) rfl dL_cheapest_153 rfl ls st H Q
theorem r117_154 : sw_A 117 154 ls st H Q = (sw_A 117 168 ls st H Q) := sw_A_step (cc := cL_cheapest) rfl dL_cheapest_154 rfl ls st H Q
theorem r117_157 : sw_A 117 157 ls st H Q = (sw_ldi False ls 11 fun x => sw_A 117 159 ls (.int x :: st) H Q) := sw_A_step (cc := cL_cheapest) rfl dL_cheapest_157 rfl ls st H Q
theorem r117_159 : sw_A 117 159 ls st H Q = (sw_A 117 160 ls (.int (Int32.ofInt 4) :: st) H Q) := sw_A_step (cc := cL_cheapest) rfl dL_cheapest_159 rfl ls st H Q
theorem r117_160 : sw_A 117 160 ls st H Q = (sw_i2 False st fun x y r => if y ≤ x then sw_A 117 167 ls r H Q else sw_A 117 163 ls r H Q) := sw_A_step (cc := cL_cheapest) rfl dL_cheapest_160 rfl ls st H Q
theorem r117_163 : sw_A 117 163 ls st H Q = (sw_A 117 164 ls (.int (Int32.ofInt 1) :: st) H Q) := sw_A_step (cc := cL_cheapest) rfl dL_cheapest_163 rfl ls st H Q
theorem r117_164 : sw_A 117 164 ls st H Q = (sw_A 117 168 ls st H Q) := sw_A_step (cc := cL_cheapest) rfl dL_cheapest_164 rfl ls st H Q
theorem r117_167 : sw_A 117 167 ls st H Q = (sw_A 117 168 ls (.int (Int32.ofInt 0) :: st) H Q) := sw_A_step (cc := cL_cheapest) rfl dL_cheapest_167 rfl ls st H Q
theorem r117_168 : sw_A 117 168 ls st H Q = (sw_has1 False ls 12 (sw_i1 False st fun x r => sw_A 117 170 (sw_set1 ls 12 (.int x)) r H Q)) := sw_A_step (cc := cL_cheapest) rfl dL_cheapest_168 rfl ls st H Q
theorem r117_170 : sw_A 117 170 ls st H Q = (sw_ldi False ls 9 fun x => sw_A 117 172 ls (.int x :: st) H Q) := sw_A_step (cc := cL_cheapest) rfl dL_cheapest_170 rfl ls st H Q
theorem r117_172 : sw_A 117 172 ls st H Q = (sw_i1 False st fun x r => if ¬ x = 0 then sw_A 117 185 ls r H Q else sw_A 117 175 ls r H Q) := sw_A_step (cc := cL_cheapest) rfl dL_cheapest_172 rfl ls st H Q
theorem r117_175 : sw_A 117 175 ls st H Q = (sw_A 117 176 ls (.int (Int32.ofInt 5) :: st) H Q) := sw_A_step (cc := cL_cheapest) rfl dL_cheapest_175 rfl ls st H Q
theorem r117_176 : sw_A 117 176 ls st H Q = (sw_ldi False ls 10 fun x => sw_A 117 178 ls (.int x :: st) H Q) := sw_A_step (cc := cL_cheapest) rfl dL_cheapest_176 rfl ls st H Q
theorem r117_178 : sw_A 117 178 ls st H Q = (sw_i2 False st fun x y r => sw_A 117 179 ls (.int (x * y) :: r) H Q) := sw_A_step (cc := cL_cheapest) rfl dL_cheapest_178 rfl ls st H Q
theorem r117_179 : sw_A 117 179 ls st H Q = (sw_ldi False ls 11 fun x => sw_A 117 181 ls (.int x :: st) H Q) := sw_A_step (cc := cL_cheapest) rfl dL_cheapest_179 rfl ls st H Q
theorem r117_181 : sw_A 117 181 ls st H Q = (sw_i2 False st fun x y r => sw_A 117 182 ls (.int (x + y) :: r) H Q) := sw_A_step (cc := cL_cheapest) rfl dL_cheapest_181 rfl ls st H Q
theorem r117_182 : sw_A 117 182 ls st H Q = (sw_A 117 234 ls st H Q) := sw_A_step (cc := cL_cheapest) rfl dL_cheapest_182 rfl ls st H Q
theorem r117_185 : sw_A 117 185 ls st H Q = (sw_ldi False ls 9 fun x => sw_A 117 187 ls (.int x :: st) H Q) := sw_A_step (cc := cL_cheapest) rfl dL_cheapest_185 rfl ls st H Q
theorem r117_187 : sw_A 117 187 ls st H Q = (sw_A 117 188 ls (.int (Int32.ofInt 1) :: st) H Q) := sw_A_step (cc := cL_cheapest) rfl dL_cheapest_187 rfl ls st H Q
theorem r117_188 : sw_A 117 188 ls st H Q = (sw_i2 False st fun x y r => if ¬ x = y then sw_A 117 203 ls r H Q else sw_A 117 191 ls r H Q) := sw_A_step (cc := cL_cheapest) rfl dL_cheapest_188 rfl ls st H Q
theorem r117_191 : sw_A 117 191 ls st H Q = (sw_A 117 192 ls (.int (Int32.ofInt 5) :: st) H Q) := sw_A_step (cc := cL_cheapest) rfl dL_cheapest_191 rfl ls st H Q
theorem r117_192 : sw_A 117 192 ls st H Q = (sw_ldi False ls 10 fun x => sw_A 117 194 ls (.int x :: st) H Q) := sw_A_step (cc := cL_cheapest) rfl dL_cheapest_192 rfl ls st H Q
theorem r117_194 : sw_A 117 194 ls st H Q = (sw_i2 False st fun x y r => sw_A 117 195 ls (.int (x * y) :: r) H Q) := sw_A_step (cc := cL_cheapest) rfl dL_cheapest_194 rfl ls st H Q
theorem r117_195 : sw_A 117 195 ls st H Q = (sw_A 117 196 ls (.int (Int32.ofInt 5) :: st) H Q) := sw_A_step (cc := cL_cheapest) rfl dL_cheapest_195 rfl ls st H Q
theorem r117_196 : sw_A 117 196 ls st H Q = (sw_i2 False st fun x y r => sw_A 117 197 ls (.int (x + y) :: r) H Q) := sw_A_step (cc := cL_cheapest) rfl dL_cheapest_196 rfl ls st H Q
theorem r117_197 : sw_A 117 197 ls st H Q = (sw_ldi False ls 11 fun x => sw_A 117 199 ls (.int x :: st) H Q) := sw_A_step (cc := cL_cheapest) rfl dL_cheapest_197 rfl ls st H Q
theorem r117_199 : sw_A 117 199 ls st H Q = (sw_i2 False st fun x y r => sw_A 117 200 ls (.int (x + y) :: r) H Q) := sw_A_step (cc := cL_cheapest) rfl dL_cheapest_199 rfl ls st H Q
theorem r117_200 : sw_A 117 200 ls st H Q = (sw_A 117 234 ls st H Q) := sw_A_step (cc := cL_cheapest) rfl dL_cheapest_200 rfl ls st H Q
theorem r117_203 : sw_A 117 203 ls st H Q = (sw_ldi False ls 9 fun x => sw_A 117 205 ls (.int x :: st) H Q) := sw_A_step (cc := cL_cheapest) rfl dL_cheapest_203 rfl ls st H Q
theorem r117_205 : sw_A 117 205 ls st H Q = (sw_A 117 206 ls (.int (Int32.ofInt 2) :: st) H Q) := sw_A_step (cc := cL_cheapest) rfl dL_cheapest_205 rfl ls st H Q
theorem r117_206 : sw_A 117 206 ls st H Q = (sw_i2 False st fun x y r => if ¬ x = y then sw_A 117 223 ls r H Q else sw_A 117 209 ls r H Q) := sw_A_step (cc := cL_cheapest) rfl dL_cheapest_206 rfl ls st H Q
theorem r117_209 : sw_A 117 209 ls st H Q = (sw_A 117 211 ls (.int (Int32.ofInt 30) :: st) H Q) := sw_A_step (cc := cL_cheapest) rfl dL_cheapest_209 rfl ls st H Q
theorem r117_211 : sw_A 117 211 ls st H Q = (sw_A 117 213 ls (.int (Int32.ofInt 6) :: st) H Q) := sw_A_step (cc := cL_cheapest) rfl dL_cheapest_211 rfl ls st H Q
theorem r117_213 : sw_A 117 213 ls st H Q = (sw_ldi False ls 10 fun x => sw_A 117 215 ls (.int x :: st) H Q) := sw_A_step (cc := cL_cheapest) rfl dL_cheapest_213 rfl ls st H Q
theorem r117_215 : sw_A 117 215 ls st H Q = (sw_i2 False st fun x y r => sw_A 117 216 ls (.int (x * y) :: r) H Q) := sw_A_step (cc := cL_cheapest) rfl dL_cheapest_215 rfl ls st H Q
theorem r117_216 : sw_A 117 216 ls st H Q = (sw_i2 False st fun x y r => sw_A 117 217 ls (.int (x + y) :: r) H Q) := sw_A_step (cc := cL_cheapest) rfl dL_cheapest_216 rfl ls st H Q
theorem r117_217 : sw_A 117 217 ls st H Q = (sw_ldi False ls 11 fun x => sw_A 117 219 ls (.int x :: st) H Q) := sw_A_step (cc := cL_cheapest) rfl dL_cheapest_217 rfl ls st H Q
theorem r117_219 : sw_A 117 219 ls st H Q = (sw_i2 False st fun x y r => sw_A 117 220 ls (.int (x + y) :: r) H Q) := sw_A_step (cc := cL_cheapest) rfl dL_cheapest_219 rfl ls st H Q
theorem r117_220 : sw_A 117 220 ls st H Q = (sw_A 117 234 ls st H Q) := sw_A_step (cc := cL_cheapest) rfl dL_cheapest_220 rfl ls st H Q
theorem r117_223 : sw_A 117 223 ls st H Q = (sw_A 117 225 ls (.int (Int32.ofInt 31) :: st) H Q) := sw_A_step (cc := cL_cheapest) rfl dL_cheapest_223 rfl ls st H Q
theorem r117_225 : sw_A 117 225 ls st H Q = (sw_A 117 227 ls (.int (Int32.ofInt 6) :: st) H Q) := sw_A_step (cc := cL_cheapest) rfl dL_cheapest_225 rfl ls st H Q
theorem r117_227 : sw_A 117 227 ls st H Q = (sw_ldi False ls 10 fun x => sw_A 117 229 ls (.int x :: st) H Q) := sw_A_step (cc := cL_cheapest) rfl dL_cheapest_227 rfl ls st H Q
theorem r117_229 : sw_A 117 229 ls st H Q = (sw_i2 False st fun x y r => sw_A 117 230 ls (.int (x * y) :: r) H Q) := sw_A_step (cc := cL_cheapest) rfl dL_cheapest_229 rfl ls st H Q
theorem r117_230 : sw_A 117 230 ls st H Q = (sw_i2 False st fun x y r => sw_A 117 231 ls (.int (x + y) :: r) H Q) := sw_A_step (cc := cL_cheapest) rfl dL_cheapest_230 rfl ls st H Q
theorem r117_231 : sw_A 117 231 ls st H Q = (sw_ldi False ls 11 fun x => sw_A 117 233 ls (.int x :: st) H Q) := sw_A_step (cc := cL_cheapest) rfl dL_cheapest_231 rfl ls st H Q
theorem r117_233 : sw_A 117 233 ls st H Q = (sw_i2 False st fun x y r => sw_A 117 234 ls (.int (x + y) :: r) H Q) := sw_A_step (cc := cL_cheapest) rfl dL_cheapest_233 rfl ls st H Q
theorem r117_234 : sw_A 117 234 ls st H Q = (sw_has1 False ls 13 (sw_i1 False st fun x r => sw_A 117 236 (sw_set1 ls 13 (.int x)) r H Q)) := sw_A_step (cc := cL_cheapest) rfl dL_cheapest_234 rfl ls st H Q
theorem r117_236 : sw_A 117 236 ls st H Q = (sw_ldi False ls 9 fun x => sw_A 117 238 ls (.int x :: st) H Q) := sw_A_step (cc := cL_cheapest) rfl dL_cheapest_236 rfl ls st H Q
theorem r117_238 : sw_A 117 238 ls st H Q = (sw_i1 False st fun x r => if ¬ x = 0 then sw_A 117 248 ls r H Q else sw_A 117 241 ls r H Q) := sw_A_step (cc := cL_cheapest) rfl dL_cheapest_238 rfl ls st H Q
theorem r117_241 : sw_A 117 241 ls st H Q = (sw_ldi False ls 8 fun x => sw_A 117 243 ls (.int x :: st) H Q) := sw_A_step (cc := cL_cheapest) rfl dL_cheapest_241 rfl ls st H Q
theorem r117_243 : sw_A 117 243 ls st H Q = (sw_A 117 244 ls (.int (Int32.ofInt 5) :: st) H Q) := sw_A_step (cc := cL_cheapest) rfl dL_cheapest_243 rfl ls st H Q
theorem r117_244 : sw_A 117 244 ls st H Q = (sw_i2 False st fun x y r => sw_A 117 245 ls (.int (x - y) :: r) H Q) := sw_A_step (cc := cL_cheapest) rfl dL_cheapest_244 rfl ls st H Q
theorem r117_245 : sw_A 117 245 ls st H Q = (sw_A 117 278 ls st H Q) := sw_A_step (cc := cL_cheapest) rfl dL_cheapest_245 rfl ls st H Q
theorem r117_248 : sw_A 117 248 ls st H Q = (sw_ldi False ls 9 fun x => sw_A 117 250 ls (.int x :: st) H Q) := sw_A_step (cc := cL_cheapest) rfl dL_cheapest_248 rfl ls st H Q
theorem r117_250 : sw_A 117 250 ls st H Q = (sw_A 117 251 ls (.int (Int32.ofInt 1) :: st) H Q) := sw_A_step (cc := cL_cheapest) rfl dL_cheapest_250 rfl ls st H Q
theorem r117_251 : sw_A 117 251 ls st H Q = (sw_i2 False st fun x y r => if ¬ x = y then sw_A 117 261 ls r H Q else sw_A 117 254 ls r H Q) := sw_A_step (cc := cL_cheapest) rfl dL_cheapest_251 rfl ls st H Q
theorem r117_254 : sw_A 117 254 ls st H Q = (sw_ldi False ls 8 fun x => sw_A 117 256 ls (.int x :: st) H Q) := sw_A_step (cc := cL_cheapest) rfl dL_cheapest_254 rfl ls st H Q
theorem r117_256 : sw_A 117 256 ls st H Q = (sw_A 117 257 ls (.int (Int32.ofInt 5) :: st) H Q) := sw_A_step (cc := cL_cheapest) rfl dL_cheapest_256 rfl ls st H Q
theorem r117_257 : sw_A 117 257 ls st H Q = (sw_i2 False st fun x y r => sw_A 117 258 ls (.int (x + y) :: r) H Q) := sw_A_step (cc := cL_cheapest) rfl dL_cheapest_257 rfl ls st H Q
theorem r117_258 : sw_A 117 258 ls st H Q = (sw_A 117 278 ls st H Q) := sw_A_step (cc := cL_cheapest) rfl dL_cheapest_258 rfl ls st H Q
theorem r117_261 : sw_A 117 261 ls st H Q = (sw_ldi False ls 9 fun x => sw_A 117 263 ls (.int x :: st) H Q) := sw_A_step (cc := cL_cheapest) rfl dL_cheapest_261 rfl ls st H Q
theorem r117_263 : sw_A 117 263 ls st H Q = (sw_A 117 264 ls (.int (Int32.ofInt 2) :: st) H Q) := sw_A_step (cc := cL_cheapest) rfl dL_cheapest_263 rfl ls st H Q
theorem r117_264 : sw_A 117 264 ls st H Q = (sw_i2 False st fun x y r => if ¬ x = y then sw_A 117 274 ls r H Q else sw_A 117 267 ls r H Q) := sw_A_step (cc := cL_cheapest) rfl dL_cheapest_264 rfl ls st H Q
theorem r117_267 : sw_A 117 267 ls st H Q = (sw_ldi False ls 8 fun x => sw_A 117 269 ls (.int x :: st) H Q) := sw_A_step (cc := cL_cheapest) rfl dL_cheapest_267 rfl ls st H Q
theorem r117_269 : sw_A 117 269 ls st H Q = (sw_A 117 270 ls (.int (Int32.ofInt 1) :: st) H Q) := sw_A_step (cc := cL_cheapest) rfl dL_cheapest_269 rfl ls st H Q
theorem r117_270 : sw_A 117 270 ls st H Q = (sw_i2 False st fun x y r => sw_A 117 271 ls (.int (x - y) :: r) H Q) := sw_A_step (cc := cL_cheapest) rfl dL_cheapest_270 rfl ls st H Q
theorem r117_271 : sw_A 117 271 ls st H Q = (sw_A 117 278 ls st H Q) := sw_A_step (cc := cL_cheapest) rfl dL_cheapest_271 rfl ls st H Q
theorem r117_274 : sw_A 117 274 ls st H Q = (sw_ldi False ls 8 fun x => sw_A 117 276 ls (.int x :: st) H Q) := sw_A_step (cc := cL_cheapest) rfl dL_cheapest_274 rfl ls st H Q
theorem r117_276 : sw_A 117 276 ls st H Q = (sw_A 117 277 ls (.int (Int32.ofInt 1) :: st) H Q) := sw_A_step (cc := cL_cheapest) rfl dL_cheapest_276 rfl ls st H Q
theorem r117_277 : sw_A 117 277 ls st H Q = (sw_i2 False st fun x y r => sw_A 117 278 ls (.int (x + y) :: r) H Q) := sw_A_step (cc := cL_cheapest) rfl dL_cheapest_277 rfl ls st H Q
theorem r117_278 : sw_A 117 278 ls st H Q = (sw_has1 False ls 14 (sw_i1 False st fun x r => sw_A 117 280 (sw_set1 ls 14 (.int x)) r H Q)) := sw_A_step (cc := cL_cheapest) rfl dL_cheapest_278 rfl ls st H Q
theorem r117_280 : sw_A 117 280 ls st H Q = (sw_ldi False ls 12 fun x => sw_A 117 282 ls (.int x :: st) H Q) := sw_A_step (cc := cL_cheapest) rfl dL_cheapest_280 rfl ls st H Q
theorem r117_282 : sw_A 117 282 ls st H Q = (sw_i1 False st fun x r => if x = 0 then sw_A 117 333 ls r H Q else sw_A 117 285 ls r H Q) := sw_A_step (cc := cL_cheapest) rfl dL_cheapest_282 rfl ls st H Q
theorem r117_285 : sw_A 117 285 ls st H Q = (sw_lda False ls 6 fun x => sw_A 117 287 ls (.ref x :: st) H Q) := sw_A_step (cc := cL_cheapest) rfl dL_cheapest_285 rfl ls st H Q
theorem r117_287 : sw_A 117 287 ls st H Q = (sw_ldi False ls 8 fun x => sw_A 117 289 ls (.int x :: st) H Q) := sw_A_step (cc := cL_cheapest) rfl dL_cheapest_287 rfl ls st H Q
theorem r117_289 : sw_A 117 289 ls st H Q = (sw_ri False st fun a i r => sw_ald False H 0 a i fun x => sw_A 117 290 ls (.int x :: r) H Q) := sw_A_step (cc := cL_cheapest) rfl dL_cheapest_289 rfl ls st H Q
theorem r117_290 : sw_A 117 290 ls st H Q = (sw_lda False ls 0 fun x => sw_A 117 291 ls (.ref x :: st) H Q) := sw_A_step (cc := cL_cheapest) rfl dL_cheapest_290 rfl ls st H Q
theorem r117_291 : sw_A 117 291 ls st H Q = (sw_lda False ls 1 fun x => sw_A 117 292 ls (.ref x :: st) H Q) := sw_A_step (cc := cL_cheapest) rfl dL_cheapest_291 rfl ls st H Q
theorem r117_292 : sw_A 117 292 ls st H Q = (sw_ldl False ls 2 fun x => sw_A 117 293 ls (.long x :: st) H Q) := sw_A_step (cc := cL_cheapest) rfl dL_cheapest_292 rfl ls st H Q
theorem r117_293 : sw_A 117 293 ls st H Q = (sw_ldi False ls 4 fun x => sw_A 117 295 ls (.int x :: st) H Q) := sw_A_step (cc := cL_cheapest) rfl dL_cheapest_293 rfl ls st H Q
theorem r117_295 : sw_A 117 295 ls st H Q = (sw_ldi False ls 5 fun x => sw_A 117 297 ls (.int x :: st) H Q) := sw_A_step (cc := cL_cheapest) rfl dL_cheapest_295 rfl ls st H Q
theorem r117_297 : sw_A 117 297 ls st H Q = (sw_ldi False ls 13 fun x => sw_A 117 299 ls (.int x :: st) H Q) := sw_A_step (cc := cL_cheapest) rfl dL_cheapest_297 rfl ls st H Q
theorem r117_299 : sw_A 117 299 ls st H Q = (sw_pop False 6 st [] fun args r => sw_ck False r (sw_M 81 args H (sw_K 117 302 none ls r Q))) := sw_A_step (cc := cL_cheapest) rfl dL_cheapest_299 rfl ls st H Q
theorem r117_302 : sw_A 117 302 ls st H Q = (sw_i1 False st fun x r => if x = 0 then sw_A 117 309 ls r H Q else sw_A 117 305 ls r H Q) := sw_A_step (cc := cL_cheapest) rfl dL_cheapest_302 rfl ls st H Q
theorem r117_305 : sw_A 117 305 ls st H Q = (sw_A 117 306 ls (.int (Int32.ofInt 1) :: st) H Q) := sw_A_step (cc := cL_cheapest) rfl dL_cheapest_305 rfl ls st H Q
theorem r117_306 : sw_A 117 306 ls st H Q = (sw_A 117 310 ls st H Q) := sw_A_step (cc := cL_cheapest) rfl dL_cheapest_306 rfl ls st H Q
theorem r117_309 : sw_A 117 309 ls st H Q = (sw_A 117 310 ls (.int (Int32.ofInt 0) :: st) H Q) := sw_A_step (cc := cL_cheapest) rfl dL_cheapest_309 rfl ls st H Q
theorem r117_310 : sw_A 117 310 ls st H Q = (sw_i2 False st fun x y r => sw_A 117 311 ls (.int (x + y) :: r) H Q) := sw_A_step (cc := cL_cheapest) rfl dL_cheapest_310 rfl ls st H Q
theorem r117_311 : sw_A 117 311 ls st H Q = (sw_has1 False ls 15 (sw_i1 False st fun x r => sw_A 117 313 (sw_set1 ls 15 (.int x)) r H Q)) := sw_A_step (cc := cL_cheapest) rfl dL_cheapest_311 rfl ls st H Q
theorem r117_313 : sw_A 117 313 ls st H Q = (sw_ldi False ls 15 fun x => sw_A 117 315 ls (.int x :: st) H Q) := sw_A_step (cc := cL_cheapest) rfl dL_cheapest_313 rfl ls st H Q
theorem r117_315 : sw_A 117 315 ls st H Q = (sw_lda False ls 6 fun x => sw_A 117 317 ls (.ref x :: st) H Q) := sw_A_step (cc := cL_cheapest) rfl dL_cheapest_315 rfl ls st H Q
theorem r117_317 : sw_A 117 317 ls st H Q = (sw_ldi False ls 14 fun x => sw_A 117 319 ls (.int x :: st) H Q) := sw_A_step (cc := cL_cheapest) rfl dL_cheapest_317 rfl ls st H Q
theorem r117_319 : sw_A 117 319 ls st H Q = (sw_ri False st fun a i r => sw_ald False H 0 a i fun x => sw_A 117 320 ls (.int x :: r) H Q) := sw_A_step (cc := cL_cheapest) rfl dL_cheapest_319 rfl ls st H Q
theorem r117_320 : sw_A 117 320 ls st H Q = (sw_i2 False st fun x y r => if y ≤ x then sw_A 117 333 ls r H Q else sw_A 117 323 ls r H Q) := sw_A_step (cc := cL_cheapest) rfl dL_cheapest_320 rfl ls st H Q
theorem r117_323 : sw_A 117 323 ls st H Q = (sw_lda False ls 6 fun x => sw_A 117 325 ls (.ref x :: st) H Q) := sw_A_step (cc := cL_cheapest) rfl dL_cheapest_323 rfl ls st H Q
theorem r117_325 : sw_A 117 325 ls st H Q = (sw_ldi False ls 14 fun x => sw_A 117 327 ls (.int x :: st) H Q) := sw_A_step (cc := cL_cheapest) rfl dL_cheapest_325 rfl ls st H Q
theorem r117_327 : sw_A 117 327 ls st H Q = (sw_ldi False ls 15 fun x => sw_A 117 329 ls (.int x :: st) H Q) := sw_A_step (cc := cL_cheapest) rfl dL_cheapest_327 rfl ls st H Q
theorem r117_329 : sw_A 117 329 ls st H Q = (sw_rix False st fun a i x r => sw_ast False H 0 a i x fun H1 => sw_A 117 330 ls r H1 Q) := sw_A_step (cc := cL_cheapest) rfl dL_cheapest_329 rfl ls st H Q
theorem r117_330 : sw_A 117 330 ls st H Q = (sw_A 117 331 ls (.int (Int32.ofInt 1) :: st) H Q) := sw_A_step (cc := cL_cheapest) rfl dL_cheapest_330 rfl ls st H Q
theorem r117_331 : sw_A 117 331 ls st H Q = (sw_has1 False ls 7 (sw_i1 False st fun x r => sw_A 117 333 (sw_set1 ls 7 (.int x)) r H Q)) := sw_A_step (cc := cL_cheapest) rfl dL_cheapest_331 rfl ls st H Q
theorem r117_333 : sw_A 117 333 ls st H Q = (sw_ldi False ls 9 fun x => sw_A 117 336 (sw_set1 ls 9 (.int (x + Int32.ofInt 1))) st H Q) := sw_A_step (cc := cL_cheapest) rfl dL_cheapest_333 rfl ls st H Q
theorem r117_336 : sw_A 117 336 ls st H Q = (sw_A 117 82 ls st H Q) := sw_A_step (cc := cL_cheapest) rfl dL_cheapest_336 rfl ls st H Q
theorem r117_339 : sw_A 117 339 ls st H Q = (sw_ldi False ls 8 fun x => sw_A 117 342 (sw_set1 ls 8 (.int (x + Int32.ofInt 1))) st H Q) := sw_A_step (cc := cL_cheapest) rfl dL_cheapest_339 rfl ls st H Q
theorem r117_342 : sw_A 117 342 ls st H Q = (sw_A 117 72 ls st H Q) := sw_A_step (cc := cL_cheapest) rfl dL_cheapest_342 rfl ls st H Q
theorem r117_345 : sw_A 117 345 ls st H Q = (sw_A 117 61 ls st H Q) := sw_A_step (cc := cL_cheapest) rfl dL_cheapest_345 rfl ls st H Q
theorem r117_348 : sw_A 117 348 ls st H Q = (sw_A 117 350 ls (.int (Int32.ofInt 99) :: st) H Q) := sw_A_step (cc := cL_cheapest) rfl dL_cheapest_348 rfl ls st H Q
theorem r117_350 : sw_A 117 350 ls st H Q = (sw_has1 False ls 8 (sw_i1 False st fun x r => sw_A 117 352 (sw_set1 ls 8 (.int x)) r H Q)) := sw_A_step (cc := cL_cheapest) rfl dL_cheapest_350 rfl ls st H Q
theorem r117_352 : sw_A 117 352 ls st H Q = (sw_A 117 353 ls (.int (Int32.ofInt 0) :: st) H Q) := sw_A_step (cc := cL_cheapest) rfl dL_cheapest_352 rfl ls st H Q
theorem r117_353 : sw_A 117 353 ls st H Q = (sw_has1 False ls 9 (sw_i1 False st fun x r => sw_A 117 355 (sw_set1 ls 9 (.int x)) r H Q)) := sw_A_step (cc := cL_cheapest) rfl dL_cheapest_353 rfl ls st H Q
theorem r117_355 : sw_A 117 355 ls st H Q = (sw_ldi False ls 9 fun x => sw_A 117 357 ls (.int x :: st) H Q) := sw_A_step (cc := cL_cheapest) rfl dL_cheapest_355 rfl ls st H Q
theorem r117_357 : sw_A 117 357 ls st H Q = (sw_A 117 358 ls (.int (Int32.ofInt 5) :: st) H Q) := sw_A_step (cc := cL_cheapest) rfl dL_cheapest_357 rfl ls st H Q
theorem r117_358 : sw_A 117 358 ls st H Q = (sw_i2 False st fun x y r => if y ≤ x then sw_A 117 412 ls r H Q else sw_A 117 361 ls r H Q) := sw_A_step (cc := cL_cheapest) rfl dL_cheapest_358 rfl ls st H Q
theorem r117_361 : sw_A 117 361 ls st H Q = (sw_lda False ls 6 fun x => sw_A 117 363 ls (.ref x :: st) H Q) := sw_A_step (cc := cL_cheapest) rfl dL_cheapest_361 rfl ls st H Q
theorem r117_363 : sw_A 117 363 ls st H Q = (sw_A 117 365 ls (.int (Int32.ofInt 20) :: st) H Q) := sw_A_step (cc := cL_cheapest) rfl dL_cheapest_363 rfl ls st H Q
theorem r117_365 : sw_A 117 365 ls st H Q = (sw_ldi False ls 9 fun x => sw_A 117 367 ls (.int x :: st) H Q) := sw_A_step (cc := cL_cheapest) rfl dL_cheapest_365 rfl ls st H Q
theorem r117_367 : sw_A 117 367 ls st H Q = (sw_i2 False st fun x y r => sw_A 117 368 ls (.int (x + y) :: r) H Q) := sw_A_step (cc := cL_cheapest) rfl dL_cheapest_367 rfl ls st H Q
theorem r117_368 : sw_A 117 368 ls st H Q = (sw_ri False st fun a i r => sw_ald False H 0 a i fun x => sw_A 117 369 ls (.int x :: r) H Q) := sw_A_step (cc := cL_cheapest) rfl dL_cheapest_368 rfl ls st H Q
theorem r117_369 : sw_A 117 369 ls st H Q = (sw_lda False ls 0 fun x => sw_A 117 370 ls (.ref x :: st) H Q) := sw_A_step (cc := cL_cheapest) rfl dL_cheapest_369 rfl ls st H Q
theorem r117_370 : sw_A 117 370 ls st H Q = (sw_lda False ls 1 fun x => sw_A 117 371 ls (.ref x :: st) H Q) := sw_A_step (cc := cL_cheapest) rfl dL_cheapest_370 rfl ls st H Q
theorem r117_371 : sw_A 117 371 ls st H Q = (sw_ldl False ls 2 fun x => sw_A 117 372 ls (.long x :: st) H Q) := sw_A_step (cc := cL_cheapest) rfl dL_cheapest_371 rfl ls st H Q
theorem r117_372 : sw_A 117 372 ls st H Q = (sw_ldi False ls 4 fun x => sw_A 117 374 ls (.int x :: st) H Q) := sw_A_step (cc := cL_cheapest) rfl dL_cheapest_372 rfl ls st H Q
theorem r117_374 : sw_A 117 374 ls st H Q = (sw_ldi False ls 5 fun x => sw_A 117 376 ls (.int x :: st) H Q) := sw_A_step (cc := cL_cheapest) rfl dL_cheapest_374 rfl ls st H Q
theorem r117_376 : sw_A 117 376 ls st H Q = (sw_A 117 378 ls (.int (Int32.ofInt 25) :: st) H Q) := sw_A_step (cc := cL_cheapest) rfl dL_cheapest_376 rfl ls st H Q
theorem r117_378 : sw_A 117 378 ls st H Q = (sw_ldi False ls 9 fun x => sw_A 117 380 ls (.int x :: st) H Q) := sw_A_step (cc := cL_cheapest) rfl dL_cheapest_378 rfl ls st H Q
theorem r117_380 : sw_A 117 380 ls st H Q = (sw_i2 False st fun x y r => sw_A 117 381 ls (.int (x + y) :: r) H Q) := sw_A_step (cc := cL_cheapest) rfl dL_cheapest_380 rfl ls st H Q
theorem r117_381 : sw_A 117 381 ls st H Q = (sw_pop False 6 st [] fun args r => sw_ck False r (sw_M 81 args H (sw_K 117 384 none ls r Q))) := sw_A_step (cc := cL_cheapest) rfl dL_cheapest_381 rfl ls st H Q
theorem r117_384 : sw_A 117 384 ls st H Q = (sw_i1 False st fun x r => if x = 0 then sw_A 117 391 ls r H Q else sw_A 117 387 ls r H Q) := sw_A_step (cc := cL_cheapest) rfl dL_cheapest_384 rfl ls st H Q
theorem r117_387 : sw_A 117 387 ls st H Q = (sw_A 117 388 ls (.int (Int32.ofInt 1) :: st) H Q) := sw_A_step (cc := cL_cheapest) rfl dL_cheapest_387 rfl ls st H Q
theorem r117_388 : sw_A 117 388 ls st H Q = (sw_A 117 392 ls st H Q) := sw_A_step (cc := cL_cheapest) rfl dL_cheapest_388 rfl ls st H Q
theorem r117_391 : sw_A 117 391 ls st H Q = (sw_A 117 392 ls (.int (Int32.ofInt 0) :: st) H Q) := sw_A_step (cc := cL_cheapest) rfl dL_cheapest_391 rfl ls st H Q
theorem r117_392 : sw_A 117 392 ls st H Q = (sw_i2 False st fun x y r => sw_A 117 393 ls (.int (x + y) :: r) H Q) := sw_A_step (cc := cL_cheapest) rfl dL_cheapest_392 rfl ls st H Q
theorem r117_393 : sw_A 117 393 ls st H Q = (sw_has1 False ls 10 (sw_i1 False st fun x r => sw_A 117 395 (sw_set1 ls 10 (.int x)) r H Q)) := sw_A_step (cc := cL_cheapest) rfl dL_cheapest_393 rfl ls st H Q
theorem r117_395 : sw_A 117 395 ls st H Q = (sw_ldi False ls 10 fun x => sw_A 117 397 ls (.int x :: st) H Q) := sw_A_step (cc := cL_cheapest) rfl dL_cheapest_395 rfl ls st H Q
theorem r117_397 : sw_A 117 397 ls st H Q = (sw_ldi False ls 8 fun x => sw_A 117 399 ls (.int x :: st) H Q) := sw_A_step (cc := cL_cheapest) rfl dL_cheapest_397 rfl ls st H Q
theorem r117_399 : sw_A 117 399 ls st H Q = (sw_i2 False st fun x y r => if y ≤ x then sw_A 117 406 ls r H Q else sw_A 117 402 ls r H Q) := sw_A_step (cc := cL_cheapest) rfl dL_cheapest_399 rfl ls st H Q
theorem r117_402 : sw_A 117 402 ls st H Q = (sw_ldi False ls 10 fun x => sw_A 117 404 ls (.int x :: st) H Q) := sw_A_step (cc := cL_cheapest) rfl dL_cheapest_402 rfl ls st H Q
theorem r117_404 : sw_A 117 404 ls st H Q = (sw_has1 False ls 8 (sw_i1 False st fun x r => sw_A 117 406 (sw_set1 ls 8 (.int x)) r H Q)) := sw_A_step (cc := cL_cheapest) rfl dL_cheapest_404 rfl ls st H Q
theorem r117_406 : sw_A 117 406 ls st H Q = (sw_ldi False ls 9 fun x => sw_A 117 409 (sw_set1 ls 9 (.int (x + Int32.ofInt 1))) st H Q) := sw_A_step (cc := cL_cheapest) rfl dL_cheapest_406 rfl ls st H Q
theorem r117_409 : sw_A 117 409 ls st H Q = (sw_A 117 355 ls st H Q) := sw_A_step (cc := cL_cheapest) rfl dL_cheapest_409 rfl ls st H Q
theorem r117_412 : sw_A 117 412 ls st H Q = (sw_ldi False ls 8 fun x => sw_A 117 414 ls (.int x :: st) H Q) := sw_A_step (cc := cL_cheapest) rfl dL_cheapest_412 rfl ls st H Q
theorem r117_414 : sw_A 117 414 ls st H Q = (match st with | [.int x] => Q (some (some (.int x))) H | _ => False) := sw_A_step (cc := cL_cheapest) rfl dL_cheapest_414 rfl ls st H Q
theorem r118_0 : sw_A 118 0 ls st H Q = (sw_lda False ls 0 fun x => sw_A 118 1 ls (.ref x :: st) H Q) := sw_A_step (cc := cX4_startAtLeft) rfl dX4_startAtLeft_0 rfl ls st H Q
theorem r118_1 : sw_A 118 1 ls st H Q = (sw_r1 False st fun a r => sw_gf False H (some (4, 3, 1)) a fun v => sw_A 118 4 ls (v :: r) H Q) := sw_A_step (cc := cX4_startAtLeft) rfl dX4_startAtLeft_1 rfl ls st H Q
theorem r118_4 : sw_A 118 4 ls st H Q = (sw_pop False 1 st [] fun args r => sw_ck False r (sw_rc False H (some 10) args (sw_M 49 args H (sw_K 118 7 none ls r Q)))) := sw_A_step (cc := cX4_startAtLeft) rfl dX4_startAtLeft_4 rfl ls st H Q
theorem r118_7 : sw_A 118 7 ls st H Q = (sw_A 118 8 ls (.int (Int32.ofInt 0) :: st) H Q) := sw_A_step (cc := cX4_startAtLeft) rfl dX4_startAtLeft_7 rfl ls st H Q
theorem r118_8 : sw_A 118 8 ls st H Q = (sw_has1 False ls 2 (sw_i1 False st fun x r => sw_A 118 9 (sw_set1 ls 2 (.int x)) r H Q)) := sw_A_step (cc := cX4_startAtLeft) rfl dX4_startAtLeft_8 rfl ls st H Q
theorem r118_9 : sw_A 118 9 ls st H Q = (sw_ldi False ls 2 fun x => sw_A 118 10 ls (.int x :: st) H Q) := sw_A_step (cc := cX4_startAtLeft) rfl dX4_startAtLeft_9 rfl ls st H Q
theorem r118_10 : sw_A 118 10 ls st H Q = (sw_A 118 12 ls (.int (Int32.ofInt 36) :: st) H Q) := sw_A_step (cc := cX4_startAtLeft) rfl dX4_startAtLeft_10 rfl ls st H Q
theorem r118_12 : sw_A 118 12 ls st H Q = (sw_i2 False st fun x y r => if y ≤ x then sw_A 118 73 ls r H Q else sw_A 118 15 ls r H Q) := sw_A_step (cc := cX4_startAtLeft) rfl dX4_startAtLeft_12 rfl ls st H Q
theorem r118_15 : sw_A 118 15 ls st H Q = (sw_lda False ls 0 fun x => sw_A 118 16 ls (.ref x :: st) H Q) := sw_A_step (cc := cX4_startAtLeft) rfl dX4_startAtLeft_15 rfl ls st H Q
theorem r118_16 : sw_A 118 16 ls st H Q = (sw_r1 False st fun a r => sw_gf False H (some (4, 1, 1)) a fun v => sw_A 118 19 ls (v :: r) H Q) := sw_A_step (cc := cX4_startAtLeft) rfl dX4_startAtLeft_16 rfl ls st H Q
theorem r118_19 : sw_A 118 19 ls st H Q = (sw_ldi False ls 2 fun x => sw_A 118 20 ls (.int x :: st) H Q) := sw_A_step (cc := cX4_startAtLeft) rfl dX4_startAtLeft_19 rfl ls st H Q
theorem r118_20 : sw_A 118 20 ls st H Q = (sw_lda False ls 1 fun x => sw_A 118 21 ls (.ref x :: st) H Q) := sw_A_step (cc := cX4_startAtLeft) rfl dX4_startAtLeft_20 rfl ls st H Q
theorem r118_21 : sw_A 118 21 ls st H Q = (sw_r1 False st fun a r => sw_gf False H (some (9, 0, 3)) a fun v => sw_A 118 24 ls (v :: r) H Q) := sw_A_step (cc := cX4_startAtLeft) rfl dX4_startAtLeft_21 rfl ls st H Q
theorem r118_24 : sw_A 118 24 ls st H Q = (sw_ldi False ls 2 fun x => sw_A 118 25 ls (.int x :: st) H Q) := sw_A_step (cc := cX4_startAtLeft) rfl dX4_startAtLeft_24 rfl ls st H Q
theorem r118_25 : sw_A 118 25 ls st H Q = (sw_ri False st fun a i r => sw_ald False H 1 a i fun x => sw_A 118 26 ls (.int x :: r) H Q) := sw_A_step (cc := cX4_startAtLeft) rfl dX4_startAtLeft_25 rfl ls st H Q
theorem r118_26 : sw_A 118 26 ls st H Q = (sw_i1 False st fun x r => if x = 0 then sw_A 118 41 ls r H Q else sw_A 118 29 ls r H Q) := sw_A_step (cc := cX4_startAtLeft) rfl dX4_startAtLeft_26 rfl ls st H Q
theorem r118_29 : sw_A 118 29 ls st H Q = (sw_ldi False ls 2 fun x => sw_A 118 30 ls (.int x :: st) H Q) := sw_A_step (cc := cX4_startAtLeft) rfl dX4_startAtLeft_29 rfl ls st H Q
theorem r118_30 : sw_A 118 30 ls st H Q = (sw_A 118 31 ls (.int (Int32.ofInt 1) :: st) H Q) := sw_A_step (cc := cX4_startAtLeft) rfl dX4_startAtLeft_30 rfl ls st H Q
theorem r118_31 : sw_A 118 31 ls st H Q = (sw_pop False 2 st [] fun args r => sw_ck False r (sw_M 72 args H (sw_K 118 34 none ls r Q))) := sw_A_step (cc := cX4_startAtLeft) rfl dX4_startAtLeft_31 rfl ls st H Q
theorem r118_34 : sw_A 118 34 ls st H Q = (sw_i1 False st fun x r => if x = 0 then sw_A 118 41 ls r H Q else sw_A 118 37 ls r H Q) := sw_A_step (cc := cX4_startAtLeft) rfl dX4_startAtLeft_34 rfl ls st H Q
theorem r118_37 : sw_A 118 37 ls st H Q = (sw_A 118 38 ls (.int (Int32.ofInt 1) :: st) H Q) := sw_A_step (cc := cX4_startAtLeft) rfl dX4_startAtLeft_37 rfl ls st H Q
theorem r118_38 : sw_A 118 38 ls st H Q = (sw_A 118 42 ls st H Q) := sw_A_step (cc := cX4_startAtLeft) rfl dX4_startAtLeft_38 rfl ls st H Q
theorem r118_41 : sw_A 118 41 ls st H Q = (sw_A 118 42 ls (.int (Int32.ofInt 0) :: st) H Q) := sw_A_step (cc := cX4_startAtLeft) rfl dX4_startAtLeft_41 rfl ls st H Q
theorem r118_42 : sw_A 118 42 ls st H Q = (sw_rix False st fun a i x r => sw_ast False H 1 a i (x &&& 1) fun H1 => sw_A 118 43 ls r H1 Q) := sw_A_step (cc := cX4_startAtLeft) rfl dX4_startAtLeft_42 rfl ls st H Q
theorem r118_43 : sw_A 118 43 ls st H Q = (sw_lda False ls 0 fun x => sw_A 118 44 ls (.ref x :: st) H Q) := sw_A_step (cc := cX4_startAtLeft) rfl dX4_startAtLeft_43 rfl ls st H Q
theorem r118_44 : sw_A 118 44 ls st H Q = (sw_r1 False st fun a r => sw_gf False H (some (4, 2, 1)) a fun v => sw_A 118 47 ls (v :: r) H Q) := sw_A_step (cc := cX4_startAtLeft) rfl dX4_startAtLeft_44 rfl ls st H Q
theorem r118_47 : sw_A 118 47 ls st H Q = (sw_ldi False ls 2 fun x => sw_A 118 48 ls (.int x :: st) H Q) := sw_A_step (cc := cX4_startAtLeft) rfl dX4_startAtLeft_47 rfl ls st H Q
theorem r118_48 : sw_A 118 48 ls st H Q = (sw_A 118 49 ls (.int (Int32.ofInt (-1)) :: st) H Q) := sw_A_step (cc := cX4_startAtLeft) rfl dX4_startAtLeft_48 rfl ls st H Q
theorem r118_49 : sw_A 118 49 ls st H Q = (sw_rix False st fun a i x r => sw_ast False H 0 a i x fun H1 => sw_A 118 50 ls r H1 Q) := sw_A_step (cc := cX4_startAtLeft) rfl dX4_startAtLeft_49 rfl ls st H Q
theorem r118_50 : sw_A 118 50 ls st H Q = (sw_lda False ls 0 fun x => sw_A 118 51 ls (.ref x :: st) H Q) := sw_A_step (cc := cX4_startAtLeft) rfl dX4_startAtLeft_50 rfl ls st H Q
theorem r118_51 : sw_A 118 51 ls st H Q = (sw_r1 False st fun a r => sw_gf False H (some (4, 1, 1)) a fun v => sw_A 118 54 ls (v :: r) H Q) := sw_A_step (cc := cX4_startAtLeft) rfl dX4_startAtLeft_51 rfl ls st H Q
theorem r118_54 : sw_A 118 54 ls st H Q = (sw_ldi False ls 2 fun x => sw_A 118 55 ls (.int x :: st) H Q) := sw_A_step (cc := cX4_startAtLeft) rfl dX4_startAtLeft_54 rfl ls st H Q
theorem r118_55 : sw_A 118 55 ls st H Q = (sw_ri False st fun a i r => sw_ald False H 1 a i fun x => sw_A 118 56 ls (.int x :: r) H Q) := sw_A_step (cc := cX4_startAtLeft) rfl dX4_startAtLeft_55 rfl ls st H Q
theorem r118_56 : sw_A 118 56 ls st H Q = (sw_i1 False st fun x r => if x = 0 then sw_A 118 67 ls r H Q else sw_A 118 59 ls r H Q) := sw_A_step (cc := cX4_startAtLeft) rfl dX4_startAtLeft_56 rfl ls st H Q
theorem r118_59 : sw_A 118 59 ls st H Q = (sw_lda False ls 0 fun x => sw_A 118 60 ls (.ref x :: st) H Q) := sw_A_step (cc := cX4_startAtLeft) rfl dX4_startAtLeft_59 rfl ls st H Q
theorem r118_60 : sw_A 118 60 ls st H Q = (sw_r1 False st fun a r => sw_gf False H (some (4, 3, 1)) a fun v => sw_A 118 63 ls (v :: r) H Q) := sw_A_step (cc := cX4_startAtLeft) rfl dX4_startAtLeft_60 rfl ls st H Q
theorem r118_63 : sw_A 118 63 ls st H Q = (sw_ldi False ls 2 fun x => sw_A 118 64 ls (.int x :: st) H Q) := sw_A_step (cc := cX4_startAtLeft) rfl dX4_startAtLeft_63 rfl ls st H Q
theorem r118_64 : sw_A 118 64 ls st H Q = (sw_pop False 2 st [] fun args r => sw_ck False r (sw_rc False H (some 10) args (sw_M 50 args H (sw_K 118 67 none ls r Q)))) := sw_A_step (cc := cX4_startAtLeft) rfl dX4_startAtLeft_64 rfl ls st H Q
theorem r118_67 : sw_A 118 67 ls st H Q = (sw_ldi False ls 2 fun x => sw_A 118 70 (sw_set1 ls 2 (.int (x + Int32.ofInt 1))) st H Q) := sw_A_step (cc := cX4_startAtLeft) rfl dX4_startAtLeft_67 rfl ls st H Q
theorem r118_70 : sw_A 118 70 ls st H Q = (sw_A 118 9 ls st H Q) := sw_A_step (cc := cX4_startAtLeft) rfl dX4_startAtLeft_70 rfl ls st H Q
theorem r118_73 : sw_A 118 73 ls st H Q = (match st with | [] => Q (some none) H | _ => False) := sw_A_step (cc := cX4_startAtLeft) rfl dX4_startAtLeft_73 rfl ls st H Q
end sw_R
