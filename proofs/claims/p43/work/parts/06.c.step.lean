section sw_R
variable (ls : sw_LS) (st : List Value) (H : sw_HS) (Q : sw_Ot → sw_HS → Prop)
theorem r62_0 : sw_A 62 0 ls st H Q = (sw_lda False ls 0 fun x => sw_A 62 1 ls (.ref x :: st) H Q) := sw_A_step (cc := cX1_breakEvenly) rfl dX1_breakEvenly_0 rfl ls st H Q
theorem r62_1 : sw_A 62 1 ls st H Q = (sw_pop False 1 st [] fun args r => sw_ck False r (sw_rc False H (some 1) args (sw_M 57 args H (sw_K 62 4 none ls r Q)))) := sw_A_step (cc := cX1_breakEvenly) rfl dX1_breakEvenly_1 rfl ls st H Q
theorem r62_4 : sw_A 62 4 ls st H Q = (sw_A 62 5 ls (.int (Int32.ofInt 0) :: st) H Q) := sw_A_step (cc := cX1_breakEvenly) rfl dX1_breakEvenly_4 rfl ls st H Q
theorem r62_5 : sw_A 62 5 ls st H Q = (sw_has1 False ls 2 (sw_i1 False st fun x r => sw_A 62 6 (sw_set1 ls 2 (.int x)) r H Q)) := sw_A_step (cc := cX1_breakEvenly) rfl dX1_breakEvenly_5 rfl ls st H Q
theorem r62_6 : sw_A 62 6 ls st H Q = (sw_ldi False ls 2 fun x => sw_A 62 7 ls (.int x :: st) H Q) := sw_A_step (cc := cX1_breakEvenly) rfl dX1_breakEvenly_6 rfl ls st H Q
theorem r62_7 : sw_A 62 7 ls st H Q = (sw_A 62 9 ls (.int (Int32.ofInt 12) :: st) H Q) := sw_A_step (cc := cX1_breakEvenly) rfl dX1_breakEvenly_7 rfl ls st H Q
theorem r62_9 : sw_A 62 9 ls st H Q = (sw_i2 False st fun x y r => if y ≤ x then sw_A 62 48 ls r H Q else sw_A 62 12 ls r H Q) := sw_A_step (cc := cX1_breakEvenly) rfl dX1_breakEvenly_9 rfl ls st H Q
theorem r62_12 : sw_A 62 12 ls st H Q = (sw_lda False ls 0 fun x => sw_A 62 13 ls (.ref x :: st) H Q) := sw_A_step (cc := cX1_breakEvenly) rfl dX1_breakEvenly_12 rfl ls st H Q
theorem r62_13 : sw_A 62 13 ls st H Q = (sw_r1 False st fun a r => sw_gf False H (some (1, 4, 0)) a fun v => sw_A 62 16 ls (v :: r) H Q) := sw_A_step (cc := cX1_breakEvenly) rfl dX1_breakEvenly_13 rfl ls st H Q
theorem r62_16 : sw_A 62 16 ls st H Q = (sw_i1 False st fun x r => if x ≤ 0 then sw_A 62 48 ls r H Q else sw_A 62 19 ls r H Q) := sw_A_step (cc := cX1_breakEvenly) rfl dX1_breakEvenly_16 rfl ls st H Q
theorem r62_19 : sw_A 62 19 ls st H Q = (sw_lda False ls 0 fun x => sw_A 62 20 ls (.ref x :: st) H Q) := sw_A_step (cc := cX1_breakEvenly) rfl dX1_breakEvenly_19 rfl ls st H Q
theorem r62_20 : sw_A 62 20 ls st H Q = (sw_r1 False st fun a r => sw_gf False H (some (1, 3, 1)) a fun v => sw_A 62 23 ls (v :: r) H Q) := sw_A_step (cc := cX1_breakEvenly) rfl dX1_breakEvenly_20 rfl ls st H Q
theorem r62_23 : sw_A 62 23 ls st H Q = (sw_ldi False ls 1 fun x => sw_A 62 24 ls (.int x :: st) H Q) := sw_A_step (cc := cX1_breakEvenly) rfl dX1_breakEvenly_23 rfl ls st H Q
theorem r62_24 : sw_A 62 24 ls st H Q = (sw_lda False ls 0 fun x => sw_A 62 25 ls (.ref x :: st) H Q) := sw_A_step (cc := cX1_breakEvenly) rfl dX1_breakEvenly_24 rfl ls st H Q
theorem r62_25 : sw_A 62 25 ls st H Q = (sw_r1 False st fun a r => sw_gf False H (some (1, 4, 0)) a fun v => sw_A 62 28 ls (v :: r) H Q) := sw_A_step (cc := cX1_breakEvenly) rfl dX1_breakEvenly_25 rfl ls st H Q
theorem r62_28 : sw_A 62 28 ls st H Q = (sw_i2 False st fun x y r => if y = 0 then False else sw_A 62 29 ls (.int (x / y) :: r) H Q) := sw_A_step (cc := cX1_breakEvenly) rfl dX1_breakEvenly_28 rfl ls st H Q
theorem r62_29 : sw_A 62 29 ls st H Q = (sw_pop False 2 st [] fun args r => sw_ck False r (sw_M 9 args H (sw_K 62 32 none ls r Q))) := sw_A_step (cc := cX1_breakEvenly) rfl dX1_breakEvenly_29 rfl ls st H Q
theorem r62_32 : sw_A 62 32 ls st H Q = (sw_lda False ls 0 fun x => sw_A 62 33 ls (.ref x :: st) H Q) := sw_A_step (cc := cX1_breakEvenly) rfl dX1_breakEvenly_32 rfl ls st H Q
theorem r62_33 : sw_A 62 33 ls st H Q = (sw_pop False 1 st [] fun args r => sw_ck False r (sw_rc False H (some 1) args (sw_M 58 args H (sw_K 62 36 none ls r Q)))) := sw_A_step (cc := cX1_breakEvenly) rfl dX1_breakEvenly_33 rfl ls st H Q
theorem r62_36 : sw_A 62 36 ls st H Q = (sw_i1 False st fun x r => if ¬ x = 0 then sw_A 62 42 ls r H Q else sw_A 62 39 ls r H Q) := sw_A_step (cc := cX1_breakEvenly) rfl dX1_breakEvenly_36 rfl ls st H Q
theorem r62_39 : sw_A 62 39 ls st H Q = (sw_A 62 48 ls st H Q) := sw_A_step (cc := cX1_breakEvenly) rfl dX1_breakEvenly_39 rfl ls st H Q
theorem r62_42 : sw_A 62 42 ls st H Q = (sw_ldi False ls 2 fun x => sw_A 62 45 (sw_set1 ls 2 (.int (x + Int32.ofInt 1))) st H Q) := sw_A_step (cc := cX1_breakEvenly) rfl dX1_breakEvenly_42 rfl ls st H Q
theorem r62_45 : sw_A 62 45 ls st H Q = (sw_A 62 6 ls st H Q) := sw_A_step (cc := cX1_breakEvenly) rfl dX1_breakEvenly_45 rfl ls st H Q
theorem r62_48 : sw_A 62 48 ls st H Q = (sw_A 62 50 ls (.int (Int32.ofInt 12) :: st) H Q) := sw_A_step (cc := cX1_breakEvenly) rfl dX1_breakEvenly_48 rfl ls st H Q
theorem r62_50 : sw_A 62 50 ls st H Q = (sw_lda False ls 0 fun x => sw_A 62 51 ls (.ref x :: st) H Q) := sw_A_step (cc := cX1_breakEvenly) rfl dX1_breakEvenly_50 rfl ls st H Q
theorem r62_51 : sw_A 62 51 ls st H Q = (sw_r1 False st fun a r => sw_gf False H (some (1, 4, 0)) a fun v => sw_A 62 54 ls (v :: r) H Q) := sw_A_step (cc := cX1_breakEvenly) rfl dX1_breakEvenly_51 rfl ls st H Q
theorem r62_54 : sw_A 62 54 ls st H Q = (sw_i2 False st fun x y r => sw_A 62 55 ls (.int (x - y) :: r) H Q) := sw_A_step (cc := cX1_breakEvenly) rfl dX1_breakEvenly_54 rfl ls st H Q
theorem r62_55 : sw_A 62 55 ls st H Q = (match st with | [.int x] => Q (some (some (.int x))) H | _ => False) := sw_A_step (cc := cX1_breakEvenly) rfl dX1_breakEvenly_55 rfl ls st H Q
theorem r63_0 : sw_A 63 0 ls st H Q = (sw_ldi False ls 1 fun x => sw_A 63 1 ls (.int x :: st) H Q) := sw_A_step (cc := cX11_load) rfl dX11_load_0 rfl ls st H Q
theorem r63_1 : sw_A 63 1 ls st H Q = (sw_A 63 2 ls (.int (Int32.ofInt 0) :: st) H Q) := sw_A_step (cc := cX11_load) rfl dX11_load_1 rfl ls st H Q
theorem r63_2 : sw_A 63 2 ls st H Q = (sw_A 63 5 ls (.int (Int32.ofInt 20000) :: st) H Q) := sw_A_step (cc := cX11_load) rfl dX11_load_2 rfl ls st H Q
theorem r63_5 : sw_A 63 5 ls st H Q = (sw_pop False 3 st [] fun args r => sw_ck False r (sw_M 17 args H (sw_K 63 8 none ls r Q))) := sw_A_step (cc := cX11_load) rfl dX11_load_5 rfl ls st H Q
theorem r63_8 : sw_A 63 8 ls st H Q = (sw_ldi False ls 2 fun x => sw_A 63 9 ls (.int x :: st) H Q) := sw_A_step (cc := cX11_load) rfl dX11_load_8 rfl ls st H Q
theorem r63_9 : sw_A 63 9 ls st H Q = (sw_i1 False st fun x r => if x = 0 then sw_A 63 23 ls r H Q else sw_A 63 12 ls r H Q) := sw_A_step (cc := cX11_load) rfl dX11_load_9 rfl ls st H Q
theorem r63_12 : sw_A 63 12 ls st H Q = (sw_lda False ls 0 fun x => sw_A 63 13 ls (.ref x :: st) H Q) := sw_A_step (cc := cX11_load) rfl dX11_load_12 rfl ls st H Q
theorem r63_13 : sw_A 63 13 ls st H Q = (sw_r1 False st fun a r => sw_gf False H (some (11, 9, 1)) a fun v => sw_A 63 16 ls (v :: r) H Q) := sw_A_step (cc := cX11_load) rfl dX11_load_13 rfl ls st H Q
theorem r63_16 : sw_A 63 16 ls st H Q = (sw_ldi False ls 1 fun x => sw_A 63 17 ls (.int x :: st) H Q) := sw_A_step (cc := cX11_load) rfl dX11_load_16 rfl ls st H Q
theorem r63_17 : sw_A 63 17 ls st H Q = (sw_pop False 2 st [] fun args r => sw_ck False r (sw_rc False H (some 1) args (sw_M 61 args H (sw_K 63 20 none ls r Q)))) := sw_A_step (cc := cX11_load) rfl dX11_load_17 rfl ls st H Q
theorem r63_20 : sw_A 63 20 ls st H Q = (sw_A 63 31 ls st H Q) := sw_A_step (cc := cX11_load) rfl dX11_load_20 rfl ls st H Q
theorem r63_23 : sw_A 63 23 ls st H Q = (sw_lda False ls 0 fun x => sw_A 63 24 ls (.ref x :: st) H Q) := sw_A_step (cc := cX11_load) rfl dX11_load_23 rfl ls st H Q
theorem r63_24 : sw_A 63 24 ls st H Q = (sw_r1 False st fun a r => sw_gf False H (some (11, 9, 1)) a fun v => sw_A 63 27 ls (v :: r) H Q) := sw_A_step (cc := cX11_load) rfl dX11_load_24 rfl ls st H Q
theorem r63_27 : sw_A 63 27 ls st H Q = (sw_ldi False ls 1 fun x => sw_A 63 28 ls (.int x :: st) H Q) := sw_A_step (cc := cX11_load) rfl dX11_load_27 rfl ls st H Q
theorem r63_28 : sw_A 63 28 ls st H Q = (sw_pop False 2 st [] fun args r => sw_ck False r (sw_rc False H (some 1) args (sw_M 62 args H (sw_K 63 31 none ls r Q)))) := sw_A_step (cc := cX11_load) rfl dX11_load_28 rfl ls st H Q
theorem r63_31 : sw_A 63 31 ls st H Q = (match st with | [.int x] => Q (some (some (.int x))) H | _ => False) := sw_A_step (cc := cX11_load) rfl dX11_load_31 rfl ls st H Q
theorem r64_0 : sw_A 64 0 ls st H Q = (sw_A 64 2 ls (.int (Int32.ofInt 12) :: st) H Q) := sw_A_step (cc := cL_broken) rfl dL_broken_0 rfl ls st H Q
theorem r64_2 : sw_A 64 2 ls st H Q = (sw_i1 False st fun n r => sw_nw False H 0 n fun H1 => sw_A 64 4 ls (.ref H.2.1 :: r) H1 Q) := sw_A_step (cc := cL_broken) rfl dL_broken_2 rfl ls st H Q
theorem r64_4 : sw_A 64 4 ls st H Q = (sw_has1 False ls 3 (sw_r1 False st fun x r => sw_A 64 5 (sw_set1 ls 3 (.ref x)) r H Q)) := sw_A_step (cc := cL_broken) rfl dL_broken_4 rfl ls st H Q
theorem r64_5 : sw_A 64 5 ls st H Q = (sw_A 64 8 ls (.int (Int32.ofInt 4095) :: st) H Q) := sw_A_step (cc := cL_broken) rfl dL_broken_5 rfl ls st H Q
theorem r64_8 : sw_A 64 8 ls st H Q = (sw_has1 False ls 4 (sw_i1 False st fun x r => sw_A 64 10 (sw_set1 ls 4 (.int x)) r H Q)) := sw_A_step (cc := cL_broken) rfl dL_broken_8 rfl ls st H Q
theorem r64_10 : sw_A 64 10 ls st H Q = (sw_A 64 12 ls (.int (Int32.ofInt 12) :: st) H Q) := sw_A_step (cc := cL_broken) rfl dL_broken_10 rfl ls st H Q
theorem r64_12 : sw_A 64 12 ls st H Q = (sw_has1 False ls 5 (sw_i1 False st fun x r => sw_A 64 14 (sw_set1 ls 5 (.int x)) r H Q)) := sw_A_step (cc := cL_broken) rfl dL_broken_12 rfl ls st H Q
theorem r64_14 : sw_A 64 14 ls st H Q = (sw_A 64 15 ls (.int (Int32.ofInt 0) :: st) H Q) := sw_A_step (cc := cL_broken) rfl dL_broken_14 rfl ls st H Q
theorem r64_15 : sw_A 64 15 ls st H Q = (sw_has1 False ls 6 (sw_i1 False st fun x r => sw_A 64 17 (sw_set1 ls 6 (.int x)) r H Q)) := sw_A_step (cc := cL_broken) rfl dL_broken_15 rfl ls st H Q
theorem r64_17 : sw_A 64 17 ls st H Q = (sw_ldi False ls 6 fun x => sw_A 64 19 ls (.int x :: st) H Q) := sw_A_step (cc := cL_broken) rfl dL_broken_17 rfl ls st H Q
theorem r64_19 : sw_A 64 19 ls st H Q = (sw_A 64 21 ls (.int (Int32.ofInt 12) :: st) H Q) := sw_A_step (cc := cL_broken) rfl dL_broken_19 rfl ls st H Q
theorem r64_21 : sw_A 64 21 ls st H Q = (sw_i2 False st fun x y r => if y ≤ x then sw_A 64 38 ls r H Q else sw_A 64 24 ls r H Q) := sw_A_step (cc := cL_broken) rfl dL_broken_21 rfl ls st H Q
theorem r64_24 : sw_A 64 24 ls st H Q = (sw_lda False ls 3 fun x => sw_A 64 25 ls (.ref x :: st) H Q) := sw_A_step (cc := cL_broken) rfl dL_broken_24 rfl ls st H Q
theorem r64_25 : sw_A 64 25 ls st H Q = (sw_ldi False ls 6 fun x => sw_A 64 27 ls (.int x :: st) H Q) := sw_A_step (cc := cL_broken) rfl dL_broken_25 rfl ls st H Q
theorem r64_27 : sw_A 64 27 ls st H Q = (sw_ldi False ls 1 fun x => sw_A 64 28 ls (.int x :: st) H Q) := sw_A_step (cc := cL_broken) rfl dL_broken_27 rfl ls st H Q
theorem r64_28 : sw_A 64 28 ls st H Q = (sw_A 64 30 ls (.int (Int32.ofInt 12) :: st) H Q) := sw_A_step (cc := cL_broken) rfl dL_broken_28 rfl ls st H Q
theorem r64_30 : sw_A 64 30 ls st H Q = (sw_i2 False st fun x y r => if y = 0 then False else sw_A 64 31 ls (.int (x / y) :: r) H Q) := sw_A_step (cc := cL_broken) rfl dL_broken_30 rfl ls st H Q
theorem r64_31 : sw_A 64 31 ls st H Q = (sw_rix False st fun a i x r => sw_ast False H 0 a i x fun H1 => sw_A 64 32 ls r H1 Q) := sw_A_step (cc := cL_broken) rfl dL_broken_31 rfl ls st H Q
theorem r64_32 : sw_A 64 32 ls st H Q = (sw_ldi False ls 6 fun x => sw_A 64 35 (sw_set1 ls 6 (.int (x + Int32.ofInt 1))) st H Q) := sw_A_step (cc := cL_broken) rfl dL_broken_32 rfl ls st H Q
theorem r64_35 : sw_A 64 35 ls st H Q = (sw_A 64 17 ls st H Q) := sw_A_step (cc := cL_broken) rfl dL_broken_35 rfl ls st H Q
theorem r64_38 : sw_A 64 38 ls st H Q = (sw_ldi False ls 5 fun x => sw_A 64 40 ls (.int x :: st) H Q) := sw_A_step (cc := cL_broken) rfl dL_broken_38 rfl ls st H Q
theorem r64_40 : sw_A 64 40 ls st H Q = (sw_i1 False st fun x r => if x ≤ 0 then sw_A 64 282 ls r H Q else sw_A 64 43 ls r H Q) := sw_A_step (cc := cL_broken) rfl dL_broken_40 rfl ls st H Q
theorem r64_43 : sw_A 64 43 ls st H Q = (sw_A 64 44 ls (.int (Int32.ofInt 0) :: st) H Q) := sw_A_step (cc := cL_broken) rfl dL_broken_43 rfl ls st H Q
theorem r64_44 : sw_A 64 44 ls st H Q = (sw_has1 False ls 6 (sw_i1 False st fun x r => sw_A 64 46 (sw_set1 ls 6 (.int x)) r H Q)) := sw_A_step (cc := cL_broken) rfl dL_broken_44 rfl ls st H Q
theorem r64_46 : sw_A 64 46 ls st H Q = (sw_A 64 47 ls (.int (Int32.ofInt 0) :: st) H Q) := sw_A_step (cc := cL_broken) rfl dL_broken_46 rfl ls st H Q
theorem r64_47 : sw_A 64 47 ls st H Q = (sw_has1 False ls 7 (sw_i1 False st fun x r => sw_A 64 49 (sw_set1 ls 7 (.int x)) r H Q)) := sw_A_step (cc := cL_broken) rfl dL_broken_47 rfl ls st H Q
theorem r64_49 : sw_A 64 49 ls st H Q = (sw_ldi False ls 7 fun x => sw_A 64 51 ls (.int x :: st) H Q) := sw_A_step (cc := cL_broken) rfl dL_broken_49 rfl ls st H Q
theorem r64_51 : sw_A 64 51 ls st H Q = (sw_A 64 53 ls (.int (Int32.ofInt 12) :: st) H Q) := sw_A_step (cc := cL_broken) rfl dL_broken_51 rfl ls st H Q
theorem r64_53 : sw_A 64 53 ls st H Q = (sw_i2 False st fun x y r => if y ≤ x then sw_A 64 104 ls r H Q else sw_A 64 56 ls r H Q) := sw_A_step (cc := cL_broken) rfl dL_broken_53 rfl ls st H Q
theorem r64_56 : sw_A 64 56 ls st H Q = (sw_ldi False ls 4 fun x => sw_A 64 58 ls (.int x :: st) H Q) := sw_A_step (cc := cL_broken) rfl dL_broken_56 rfl ls st H Q
theorem r64_58 : sw_A 64 58 ls st H Q = (sw_ldi False ls 7 fun x => sw_A 64 60 ls (.int x :: st) H Q) := sw_A_step (cc := cL_broken) rfl dL_broken_58 rfl ls st H Q
theorem r64_60 : sw_A 64 60 ls st H Q = (sw_i2 False st fun x y r => sw_A 64 61 ls (.int (x >>> (y &&& 31)) :: r) H Q) := sw_A_step (cc := cL_broken) rfl dL_broken_60 rfl ls st H Q
theorem r64_61 : sw_A 64 61 ls st H Q = (sw_A 64 62 ls (.int (Int32.ofInt 1) :: st) H Q) := sw_A_step (cc := cL_broken) rfl dL_broken_61 rfl ls st H Q
theorem r64_62 : sw_A 64 62 ls st H Q = (sw_i2 False st fun x y r => sw_A 64 63 ls (.int (x &&& y) :: r) H Q) := sw_A_step (cc := cL_broken) rfl dL_broken_62 rfl ls st H Q
theorem r64_63 : sw_A 64 63 ls st H Q = (sw_A 64 64 ls (.int (Int32.ofInt 1) :: st) H Q) := sw_A_step (cc := cL_broken) rfl dL_broken_63 rfl ls st H Q
theorem r64_64 : sw_A 64 64 ls st H Q = (sw_i2 False st fun x y r => if ¬ x = y then sw_A 64 98 ls r H Q else sw_A 64 67 ls r H Q) := sw_A_step (cc := cL_broken) rfl dL_broken_64 rfl ls st H Q
theorem r64_67 : sw_A 64 67 ls st H Q = (sw_ldi False ls 2 fun x => sw_A 64 68 ls (.int x :: st) H Q) := sw_A_step (cc := cL_broken) rfl dL_broken_67 rfl ls st H Q
theorem r64_68 : sw_A 64 68 ls st H Q = (sw_i1 False st fun x r => if x = 0 then sw_A 64 78 ls r H Q else sw_A 64 71 ls r H Q) := sw_A_step (cc := cL_broken) rfl dL_broken_68 rfl ls st H Q
theorem r64_71 : sw_A 64 71 ls st H Q = (sw_lda False ls 3 fun x => sw_A 64 72 ls (.ref x :: st) H Q) := sw_A_step (cc := cL_broken) rfl dL_broken_71 rfl ls st H Q
theorem r64_72 : sw_A 64 72 ls st H Q = (sw_ldi False ls 7 fun x => sw_A 64 74 ls (.int x :: st) H Q) := sw_A_step (cc := cL_broken) rfl dL_broken_72 rfl ls st H Q
theorem r64_74 : sw_A 64 74 ls st H Q = (sw_ri False st fun a i r => sw_ald False H 0 a i fun x => sw_A 64 75 ls (.int x :: r) H Q) := sw_A_step (cc := cL_broken) rfl dL_broken_74 rfl ls st H Q
theorem r64_75 : sw_A 64 75 ls st H Q = (sw_A 64 82 ls st H Q) := sw_A_step (cc := cL_broken) rfl dL_broken_75 rfl ls st H Q
theorem r64_78 : sw_A 64 78 ls st H Q = (sw_ldi False ls 1 fun x => sw_A 64 79 ls (.int x :: st) H Q) := sw_A_step (cc := cL_broken) rfl dL_broken_78 rfl ls st H Q
theorem r64_79 : sw_A 64 79 ls st H Q = (sw_ldi False ls 5 fun x => sw_A 64 81 ls (.int x :: st) H Q) := sw_A_step (cc := cL_broken) rfl dL_broken_79 rfl ls st H Q
theorem r64_81 : sw_A 64 81 ls st H Q = (sw_i2 False st fun x y r => if y = 0 then False else sw_A 64 82 ls (.int (x / y) :: r) H Q) := sw_A_step (cc := cL_broken) rfl dL_broken_81 rfl ls st H Q
theorem r64_82 : sw_A 64 82 ls st H Q = (sw_lda False ls 0 fun x => sw_A 64 83 ls (.ref x :: st) H Q) := sw_A_step (cc := cL_broken) rfl dL_broken_82 rfl ls st H Q
theorem r64_83 : sw_A 64 83 ls st H Q = (sw_ldi False ls 7 fun x => sw_A 64 85 ls (.int x :: st) H Q) := sw_A_step (cc := cL_broken) rfl dL_broken_83 rfl ls st H Q
theorem r64_85 : sw_A 64 85 ls st H Q = (sw_ri False st fun a i r => sw_ald False H 0 a i fun x => sw_A 64 86 ls (.int x :: r) H Q) := sw_A_step (cc := cL_broken) rfl dL_broken_85 rfl ls st H Q
theorem r64_86 : sw_A 64 86 ls st H Q = (sw_i2 False st fun x y r => if x ≤ y then sw_A 64 98 ls r H Q else sw_A 64 89 ls r H Q) := sw_A_step (cc := cL_broken) rfl dL_broken_86 rfl ls st H Q
theorem r64_89 : sw_A 64 89 ls st H Q = (sw_ldi False ls 6 fun x => sw_A 64 91 ls (.int x :: st) H Q) := sw_A_step (cc := cL_broken) rfl dL_broken_89 rfl ls st H Q
theorem r64_91 : sw_A 64 91 ls st H Q = (sw_A 64 92 ls (.int (Int32.ofInt 1) :: st) H Q) := sw_A_step (cc := cL_broken) rfl dL_broken_91 rfl ls st H Q
theorem r64_92 : sw_A 64 92 ls st H Q = (sw_ldi False ls 7 fun x => sw_A 64 94 ls (.int x :: st) H Q) := sw_A_step (cc := cL_broken) rfl dL_broken_92 rfl ls st H Q
theorem r64_94 : sw_A 64 94 ls st H Q = (sw_i2 False st fun x y r => sw_A 64 95 ls (.int (x <<< (y &&& 31)) :: r) H Q) := sw_A_step (cc := cL_broken) rfl dL_broken_94 rfl ls st H Q
theorem r64_95 : sw_A 64 95 ls st H Q = (sw_i2 False st fun x y r => sw_A 64 96 ls (.int (x ||| y) :: r) H Q) := sw_A_step (cc := cL_broken) rfl dL_broken_95 rfl ls st H Q
theorem r64_96 : sw_A 64 96 ls st H Q = (sw_has1 False ls 6 (sw_i1 False st fun x r => sw_A 64 98 (sw_set1 ls 6 (.int x)) r H Q)) := sw_A_step (cc := cL_broken) rfl dL_broken_96 rfl ls st H Q
theorem r64_98 : sw_A 64 98 ls st H Q = (sw_ldi False ls 7 fun x => sw_A 64 101 (sw_set1 ls 7 (.int (x + Int32.ofInt 1))) st H Q) := sw_A_step (cc := cL_broken) rfl dL_broken_98 rfl ls st H Q
theorem r64_101 : sw_A 64 101 ls st H Q = (sw_A 64 49 ls st H Q) := sw_A_step (cc := cL_broken) rfl dL_broken_101 rfl ls st H Q
theorem r64_104 : sw_A 64 104 ls st H Q = (sw_ldi False ls 6 fun x => sw_A 64 106 ls (.int x :: st) H Q) := sw_A_step (cc := cL_broken) rfl dL_broken_104 rfl ls st H Q
theorem r64_106 : sw_A 64 106 ls st H Q = (sw_i1 False st fun x r => if ¬ x = 0 then sw_A 64 115 ls r H Q else sw_A 64 109 ls r H Q) := sw_A_step (cc := cL_broken) rfl dL_broken_106 rfl ls st H Q
theorem r64_109 : sw_A 64 109 ls st H Q = (sw_A 64 111 ls (.int (Int32.ofInt 12) :: st) H Q) := sw_A_step (cc := cL_broken) rfl dL_broken_109 rfl ls st H Q
theorem r64_111 : sw_A 64 111 ls st H Q = (sw_ldi False ls 5 fun x => sw_A 64 113 ls (.int x :: st) H Q) := sw_A_step (cc := cL_broken) rfl dL_broken_111 rfl ls st H Q
theorem r64_113 : sw_A 64 113 ls st H Q = (sw_i2 False st fun x y r => sw_A 64 114 ls (.int (x - y) :: r) H Q) := sw_A_step (cc := cL_broken) rfl dL_broken_113 rfl ls st H Q
theorem r64_114 : sw_A 64 114 ls st H Q = (match st with | [.int x] => Q (some (some (.int x))) H | _ => False) := sw_A_step (cc := cL_broken) rfl dL_broken_114 rfl ls st H Q
theorem r64_115 : sw_A 64 115 ls st H Q = (sw_ldi False ls 4 fun x => sw_A 64 117 ls (.int x :: st) H Q) := sw_A_step (cc := cL_broken) rfl dL_broken_115 rfl ls st H Q
theorem r64_117 : sw_A 64 117 ls st H Q = (sw_ldi False ls 6 fun x => sw_A 64 119 ls (.int x :: st) H Q) := sw_A_step (cc := cL_broken) rfl dL_broken_117 rfl ls st H Q
theorem r64_119 : sw_A 64 119 ls st H Q = (sw_A 64 120 ls (.int (Int32.ofInt (-1)) :: st) H Q) := sw_A_step (cc := cL_broken) rfl dL_broken_119 rfl ls st H Q
theorem r64_120 : sw_A 64 120 ls st H Q = (sw_i2 False st fun x y r => sw_A 64 121 ls (.int (x ^^^ y) :: r) H Q) := sw_A_step (cc := cL_broken) rfl dL_broken_120 rfl ls st H Q
theorem r64_121 : sw_A 64 121 ls st H Q = (sw_i2 False st fun x y r => sw_A 64 122 ls (.int (x &&& y) :: r) H Q) := sw_A_step (cc := cL_broken) rfl dL_broken_121 rfl ls st H Q
theorem r64_122 : sw_A 64 122 ls st H Q = (sw_has1 False ls 4 (sw_i1 False st fun x r => sw_A 64 124 (sw_set1 ls 4 (.int x)) r H Q)) := sw_A_step (cc := cL_broken) rfl dL_broken_122 rfl ls st H Q
theorem r64_124 : sw_A 64 124 ls st H Q = (sw_A 64 125 ls (.int (Int32.ofInt 0) :: st) H Q) := sw_A_step (cc := cL_broken) rfl dL_broken_124 rfl ls st H Q
theorem r64_125 : sw_A 64 125 ls st H Q = (sw_has1 False ls 5 (sw_i1 False st fun x r => sw_A 64 127 (sw_set1 ls 5 (.int x)) r H Q)) := sw_A_step (cc := cL_broken) rfl dL_broken_125 rfl ls st H Q
theorem r64_127 : sw_A 64 127 ls st H Q = (sw_A 64 128 ls (.int (Int32.ofInt 0) :: st) H Q) := sw_A_step (cc := cL_broken) rfl dL_broken_127 rfl ls st H Q
theorem r64_128 : sw_A 64 128 ls st H Q = (sw_has1 False ls 7 (sw_i1 False st fun x r => sw_A 64 130 (sw_set1 ls 7 (.int x)) r H Q)) := sw_A_step (cc := cL_broken) rfl dL_broken_128 rfl ls st H Q
theorem r64_130 : sw_A 64 130 ls st H Q = (sw_ldi False ls 7 fun x => sw_A 64 132 ls (.int x :: st) H Q) := sw_A_step (cc := cL_broken) rfl dL_broken_130 rfl ls st H Q
theorem r64_132 : sw_A 64 132 ls st H Q = (sw_A 64 134 ls (.int (Int32.ofInt 12) :: st) H Q) := sw_A_step (cc := cL_broken) rfl dL_broken_132 rfl ls st H Q
theorem r64_134 : sw_A 64 134 ls st H Q = (sw_i2 False st fun x y r => if y ≤ x then sw_A 64 155 ls r H Q else sw_A 64 137 ls r H Q) := sw_A_step (cc := cL_broken) rfl dL_broken_134 rfl ls st H Q
theorem r64_137 : sw_A 64 137 ls st H Q = (sw_ldi False ls 5 fun x => sw_A 64 139 ls (.int x :: st) H Q) := sw_A_step (cc := cL_broken) rfl dL_broken_137 rfl ls st H Q
theorem r64_139 : sw_A 64 139 ls st H Q = (sw_ldi False ls 4 fun x => sw_A 64 141 ls (.int x :: st) H Q) := sw_A_step (cc := cL_broken) rfl dL_broken_139 rfl ls st H Q
theorem r64_141 : sw_A 64 141 ls st H Q = (sw_ldi False ls 7 fun x => sw_A 64 143 ls (.int x :: st) H Q) := sw_A_step (cc := cL_broken) rfl dL_broken_141 rfl ls st H Q
theorem r64_143 : sw_A 64 143 ls st H Q = (sw_i2 False st fun x y r => sw_A 64 144 ls (.int (x >>> (y &&& 31)) :: r) H Q) := sw_A_step (cc := cL_broken) rfl dL_broken_143 rfl ls st H Q
theorem r64_144 : sw_A 64 144 ls st H Q = (sw_A 64 145 ls (.int (Int32.ofInt 1) :: st) H Q) := sw_A_step (cc := cL_broken) rfl dL_broken_144 rfl ls st H Q
theorem r64_145 : sw_A 64 145 ls st H Q = (sw_i2 False st fun x y r => sw_A 64 146 ls (.int (x &&& y) :: r) H Q) := sw_A_step (cc := cL_broken) rfl dL_broken_145 rfl ls st H Q
theorem r64_146 : sw_A 64 146 ls st H Q = (sw_i2 False st fun x y r => sw_A 64 147 ls (.int (x + y) :: r) H Q) := sw_A_step (cc := cL_broken) rfl dL_broken_146 rfl ls st H Q
theorem r64_147 : sw_A 64 147 ls st H Q = (sw_has1 False ls 5 (sw_i1 False st fun x r => sw_A 64 149 (sw_set1 ls 5 (.int x)) r H Q)) := sw_A_step (cc := cL_broken) rfl dL_broken_147 rfl ls st H Q
theorem r64_149 : sw_A 64 149 ls st H Q = (sw_ldi False ls 7 fun x => sw_A 64 152 (sw_set1 ls 7 (.int (x + Int32.ofInt 1))) st H Q) := sw_A_step (cc := cL_broken) rfl dL_broken_149 rfl ls st H Q
theorem r64_152 : sw_A 64 152 ls st H Q = (sw_A 64 130 ls st H Q) := sw_A_step (cc := cL_broken) rfl dL_broken_152 rfl ls st H Q
theorem r64_155 : sw_A 64 155 ls st H Q = (sw_A 64 156 ls (.int (Int32.ofInt 0) :: st) H Q) := sw_A_step (cc := cL_broken) rfl dL_broken_155 rfl ls st H Q
theorem r64_156 : sw_A 64 156 ls st H Q = (sw_has1 False ls 7 (sw_i1 False st fun x r => sw_A 64 158 (sw_set1 ls 7 (.int x)) r H Q)) := sw_A_step (cc := cL_broken) rfl dL_broken_156 rfl ls st H Q
theorem r64_158 : sw_A 64 158 ls st H Q = (sw_ldi False ls 7 fun x => sw_A 64 160 ls (.int x :: st) H Q) := sw_A_step (cc := cL_broken) rfl dL_broken_158 rfl ls st H Q
theorem r64_160 : sw_A 64 160 ls st H Q = (sw_A 64 162 ls (.int (Int32.ofInt 12) :: st) H Q) := sw_A_step (cc := cL_broken) rfl dL_broken_160 rfl ls st H Q
theorem r64_162 : sw_A 64 162 ls st H Q = (sw_i2 False st fun x y r => if y ≤ x then sw_A 64 279 ls r H Q else sw_A 64 165 ls r H Q) := sw_A_step (cc := cL_broken) rfl dL_broken_162 rfl ls st H Q
theorem r64_165 : sw_A 64 165 ls st H Q = (sw_ldi False ls 5 fun x => sw_A 64 167 ls (.int x :: st) H Q) := sw_A_step (cc := cL_broken) rfl dL_broken_165 rfl ls st H Q
theorem r64_167 : sw_A 64 167 ls st H Q = (sw_i1 False st fun x r => if x ≤ 0 then sw_A 64 279 ls r H Q else sw_A 64 170 ls r H Q) := sw_A_step (cc := cL_broken) rfl dL_broken_167 rfl ls st H Q
theorem r64_170 : sw_A 64 170 ls st H Q = (sw_ldi False ls 6 fun x => sw_A 64 172 ls (.int x :: st) H Q) := sw_A_step (cc := cL_broken) rfl dL_broken_170 rfl ls st H Q
theorem r64_172 : sw_A 64 172 ls st H Q = (sw_ldi False ls 7 fun x => sw_A 64 174 ls (.int x :: st) H Q) := sw_A_step (cc := cL_broken) rfl dL_broken_172 rfl ls st H Q
theorem r64_174 : sw_A 64 174 ls st H Q = (sw_i2 False st fun x y r => sw_A 64 175 ls (.int (x >>> (y &&& 31)) :: r) H Q) := sw_A_step (cc := cL_broken) rfl dL_broken_174 rfl ls st H Q
theorem r64_175 : sw_A 64 175 ls st H Q = (sw_A 64 176 ls (.int (Int32.ofInt 1) :: st) H Q) := sw_A_step (cc := cL_broken) rfl dL_broken_175 rfl ls st H Q
theorem r64_176 : sw_A 64 176 ls st H Q = (sw_i2 False st fun x y r => sw_A 64 177 ls (.int (x &&& y) :: r) H Q) := sw_A_step (cc := cL_broken) rfl dL_broken_176 rfl ls st H Q
theorem r64_177 : sw_A 64 177 ls st H Q = (sw_A 64 178 ls (.int (Int32.ofInt 1) :: st) H Q) := sw_A_step (cc := cL_broken) rfl dL_broken_177 rfl ls st H Q
theorem r64_178 : sw_A 64 178 ls st H Q = (sw_i2 False st fun x y r => if ¬ x = y then sw_A 64 273 ls r H Q else sw_A 64 181 ls r H Q) := sw_A_step (cc := cL_broken) rfl dL_broken_178 rfl ls st H Q
theorem r64_181 : sw_A 64 181 ls st H Q = (sw_ldi False ls 7 fun x => sw_A 64 183 ls (.int x :: st) H Q) := sw_A_step (cc := cL_broken) rfl dL_broken_181 rfl ls st H Q
theorem r64_183 : sw_A 64 183 ls st H Q = (sw_A 64 185 ls (.int (Int32.ofInt 11) :: st) H Q) := sw_A_step (cc := cL_broken) rfl dL_broken_183 rfl ls st H Q
theorem r64_185 : sw_A 64 185 ls st H Q = (sw_i2 False st fun x y r => sw_A 64 186 ls (.int (x + y) :: r) H Q) := sw_A_step (cc := cL_broken) rfl dL_broken_185 rfl ls st H Q
theorem r64_186 : sw_A 64 186 ls st H Q = (sw_A 64 188 ls (.int (Int32.ofInt 12) :: st) H Q) := sw_A_step (cc := cL_broken) rfl dL_broken_186 rfl ls st H Q
theorem r64_188 : sw_A 64 188 ls st H Q = (sw_i2 False st fun x y r => if y = 0 then False else sw_A 64 189 ls (.int (x - x / y * y) :: r) H Q) := sw_A_step (cc := cL_broken) rfl dL_broken_188 rfl ls st H Q
theorem r64_189 : sw_A 64 189 ls st H Q = (sw_has1 False ls 8 (sw_i1 False st fun x r => sw_A 64 191 (sw_set1 ls 8 (.int x)) r H Q)) := sw_A_step (cc := cL_broken) rfl dL_broken_189 rfl ls st H Q
theorem r64_191 : sw_A 64 191 ls st H Q = (sw_ldi False ls 4 fun x => sw_A 64 193 ls (.int x :: st) H Q) := sw_A_step (cc := cL_broken) rfl dL_broken_191 rfl ls st H Q
theorem r64_193 : sw_A 64 193 ls st H Q = (sw_ldi False ls 8 fun x => sw_A 64 195 ls (.int x :: st) H Q) := sw_A_step (cc := cL_broken) rfl dL_broken_193 rfl ls st H Q
theorem r64_195 : sw_A 64 195 ls st H Q = (sw_i2 False st fun x y r => sw_A 64 196 ls (.int (x >>> (y &&& 31)) :: r) H Q) := sw_A_step (cc := cL_broken) rfl dL_broken_195 rfl ls st H Q
theorem r64_196 : sw_A 64 196 ls st H Q = (sw_A 64 197 ls (.int (Int32.ofInt 1) :: st) H Q) := sw_A_step (cc := cL_broken) rfl dL_broken_196 rfl ls st H Q
theorem r64_197 : sw_A 64 197 ls st H Q = (sw_i2 False st fun x y r => sw_A 64 198 ls (.int (x &&& y) :: r) H Q) := sw_A_step (cc := cL_broken) rfl dL_broken_197 rfl ls st H Q
theorem r64_198 : sw_A 64 198 ls st H Q = (sw_i1 False st fun x r => if ¬ x = 0 then sw_A 64 214 ls r H Q else sw_A 64 201 ls r H Q) := sw_A_step (cc := cL_broken) rfl dL_broken_198 rfl ls st H Q
theorem r64_201 : sw_A 64 201 ls st H Q = (sw_ldi False ls 8 fun x => sw_A 64 203 ls (.int x :: st) H Q) := sw_A_step (cc := cL_broken) rfl dL_broken_201 rfl ls st H Q
theorem r64_203 : sw_A 64 203 ls st H Q = (sw_A 64 205 ls (.int (Int32.ofInt 11) :: st) H Q) := sw_A_step (cc := cL_broken) rfl dL_broken_203 rfl ls st H Q
theorem r64_205 : sw_A 64 205 ls st H Q = (sw_i2 False st fun x y r => sw_A 64 206 ls (.int (x + y) :: r) H Q) := sw_A_step (cc := cL_broken) rfl dL_broken_205 rfl ls st H Q
theorem r64_206 : sw_A 64 206 ls st H Q = (sw_A 64 208 ls (.int (Int32.ofInt 12) :: st) H Q) := sw_A_step (cc := cL_broken) rfl dL_broken_206 rfl ls st H Q
theorem r64_208 : sw_A 64 208 ls st H Q = (sw_i2 False st fun x y r => if y = 0 then False else sw_A 64 209 ls (.int (x - x / y * y) :: r) H Q) := sw_A_step (cc := cL_broken) rfl dL_broken_208 rfl ls st H Q
theorem r64_209 : sw_A 64 209 ls st H Q = (sw_has1 False ls 8 (sw_i1 False st fun x r => sw_A 64 211 (sw_set1 ls 8 (.int x)) r H Q)) := sw_A_step (cc := cL_broken) rfl dL_broken_209 rfl ls st H Q
theorem r64_211 : sw_A 64 211 ls st H Q = (sw_A 64 191 ls st H Q) := sw_A_step (cc := cL_broken) rfl dL_broken_211 rfl ls st H Q
theorem r64_214 : sw_A 64 214 ls st H Q = (sw_ldi False ls 7 fun x => sw_A 64 216 ls (.int x :: st) H Q) := sw_A_step (cc := cL_broken) rfl dL_broken_214 rfl ls st H Q
theorem r64_216 : sw_A 64 216 ls st H Q = (sw_A 64 217 ls (.int (Int32.ofInt 1) :: st) H Q) := sw_A_step (cc := cL_broken) rfl dL_broken_216 rfl ls st H Q
theorem r64_217 : sw_A 64 217 ls st H Q = (sw_i2 False st fun x y r => sw_A 64 218 ls (.int (x + y) :: r) H Q) := sw_A_step (cc := cL_broken) rfl dL_broken_217 rfl ls st H Q
theorem r64_218 : sw_A 64 218 ls st H Q = (sw_A 64 220 ls (.int (Int32.ofInt 12) :: st) H Q) := sw_A_step (cc := cL_broken) rfl dL_broken_218 rfl ls st H Q
theorem r64_220 : sw_A 64 220 ls st H Q = (sw_i2 False st fun x y r => if y = 0 then False else sw_A 64 221 ls (.int (x - x / y * y) :: r) H Q) := sw_A_step (cc := cL_broken) rfl dL_broken_220 rfl ls st H Q
theorem r64_221 : sw_A 64 221 ls st H Q = (sw_has1 False ls 9 (sw_i1 False st fun x r => sw_A 64 223 (sw_set1 ls 9 (.int x)) r H Q)) := sw_A_step (cc := cL_broken) rfl dL_broken_221 rfl ls st H Q
theorem r64_223 : sw_A 64 223 ls st H Q = (sw_ldi False ls 4 fun x => sw_A 64 225 ls (.int x :: st) H Q) := sw_A_step (cc := cL_broken) rfl dL_broken_223 rfl ls st H Q
theorem r64_225 : sw_A 64 225 ls st H Q = (sw_ldi False ls 9 fun x => sw_A 64 227 ls (.int x :: st) H Q) := sw_A_step (cc := cL_broken) rfl dL_broken_225 rfl ls st H Q
theorem r64_227 : sw_A 64 227 ls st H Q = (sw_i2 False st fun x y r => sw_A 64 228 ls (.int (x >>> (y &&& 31)) :: r) H Q) := sw_A_step (cc := cL_broken) rfl dL_broken_227 rfl ls st H Q
theorem r64_228 : sw_A 64 228 ls st H Q = (sw_A 64 229 ls (.int (Int32.ofInt 1) :: st) H Q) := sw_A_step (cc := cL_broken) rfl dL_broken_228 rfl ls st H Q
theorem r64_229 : sw_A 64 229 ls st H Q = (sw_i2 False st fun x y r => sw_A 64 230 ls (.int (x &&& y) :: r) H Q) := sw_A_step (cc := cL_broken) rfl dL_broken_229 rfl ls st H Q
theorem r64_230 : sw_A 64 230 ls st H Q = (sw_i1 False st fun x r => if ¬ x = 0 then sw_A 64 245 ls r H Q else sw_A 64 233 ls r H Q) := sw_A_step (cc := cL_broken) rfl dL_broken_230 rfl ls st H Q
theorem r64_233 : sw_A 64 233 ls st H Q = (sw_ldi False ls 9 fun x => sw_A 64 235 ls (.int x :: st) H Q) := sw_A_step (cc := cL_broken) rfl dL_broken_233 rfl ls st H Q
theorem r64_235 : sw_A 64 235 ls st H Q = (sw_A 64 236 ls (.int (Int32.ofInt 1) :: st) H Q) := sw_A_step (cc := cL_broken) rfl dL_broken_235 rfl ls st H Q
theorem r64_236 : sw_A 64 236 ls st H Q = (sw_i2 False st fun x y r => sw_A 64 237 ls (.int (x + y) :: r) H Q) := sw_A_step (cc := cL_broken) rfl dL_broken_236 rfl ls st H Q
theorem r64_237 : sw_A 64 237 ls st H Q = (sw_A 64 239 ls (.int (Int32.ofInt 12) :: st) H Q) := sw_A_step (cc := cL_broken) rfl dL_broken_237 rfl ls st H Q
theorem r64_239 : sw_A 64 239 ls st H Q = (sw_i2 False st fun x y r => if y = 0 then False else sw_A 64 240 ls (.int (x - x / y * y) :: r) H Q) := sw_A_step (cc := cL_broken) rfl dL_broken_239 rfl ls st H Q
theorem r64_240 : sw_A 64 240 ls st H Q = (sw_has1 False ls 9 (sw_i1 False st fun x r => sw_A 64 242 (sw_set1 ls 9 (.int x)) r H Q)) := sw_A_step (cc := cL_broken) rfl dL_broken_240 rfl ls st H Q
theorem r64_242 : sw_A 64 242 ls st H Q = (sw_A 64 223 ls st H Q) := sw_A_step (cc := cL_broken) rfl dL_broken_242 rfl ls st H Q
theorem r64_245 : sw_A 64 245 ls st H Q = (sw_lda False ls 3 fun x => sw_A 64 246 ls (.ref x :: st) H Q) := sw_A_step (cc := cL_broken) rfl dL_broken_245 rfl ls st H Q
theorem r64_246 : sw_A 64 246 ls st H Q = (sw_ldi False ls 8 fun x => sw_A 64 248 ls (.int x :: st) H Q) := sw_A_step (cc := cL_broken) rfl dL_broken_246 rfl ls st H Q
theorem r64_248 : sw_A 64 248 ls st H Q = (sw_ri False st fun a i r => sw_A 64 249 ls (.int i :: .ref a :: .int i :: .ref a :: r) H Q) := sw_A_step (cc := cL_broken) rfl dL_broken_248 rfl ls st H Q
theorem r64_249 : sw_A 64 249 ls st H Q = (sw_ri False st fun a i r => sw_ald False H 0 a i fun x => sw_A 64 250 ls (.int x :: r) H Q) := sw_A_step (cc := cL_broken) rfl dL_broken_249 rfl ls st H Q
theorem r64_250 : sw_A 64 250 ls st H Q = (sw_lda False ls 3 fun x => sw_A 64 251 ls (.ref x :: st) H Q) := sw_A_step (cc := cL_broken) rfl dL_broken_250 rfl ls st H Q
theorem r64_251 : sw_A 64 251 ls st H Q = (sw_ldi False ls 7 fun x => sw_A 64 253 ls (.int x :: st) H Q) := sw_A_step (cc := cL_broken) rfl dL_broken_251 rfl ls st H Q
theorem r64_253 : sw_A 64 253 ls st H Q = (sw_ri False st fun a i r => sw_ald False H 0 a i fun x => sw_A 64 254 ls (.int x :: r) H Q) := sw_A_step (cc := cL_broken) rfl dL_broken_253 rfl ls st H Q
theorem r64_254 : sw_A 64 254 ls st H Q = (sw_A 64 255 ls (.int (Int32.ofInt 2) :: st) H Q) := sw_A_step (cc := cL_broken) rfl dL_broken_254 rfl ls st H Q
theorem r64_255 : sw_A 64 255 ls st H Q = (sw_i2 False st fun x y r => if y = 0 then False else sw_A 64 256 ls (.int (x / y) :: r) H Q) := sw_A_step (cc := cL_broken) rfl dL_broken_255 rfl ls st H Q
theorem r64_256 : sw_A 64 256 ls st H Q = (sw_i2 False st fun x y r => sw_A 64 257 ls (.int (x + y) :: r) H Q) := sw_A_step (cc := cL_broken) rfl dL_broken_256 rfl ls st H Q
theorem r64_257 : sw_A 64 257 ls st H Q = (sw_rix False st fun a i x r => sw_ast False H 0 a i x fun H1 => sw_A 64 258 ls r H1 Q) := sw_A_step (cc := cL_broken) rfl dL_broken_257 rfl ls st H Q
theorem r64_258 : sw_A 64 258 ls st H Q = (sw_lda False ls 3 fun x => sw_A 64 259 ls (.ref x :: st) H Q) := sw_A_step (cc := cL_broken) rfl dL_broken_258 rfl ls st H Q
theorem r64_259 : sw_A 64 259 ls st H Q = (sw_ldi False ls 9 fun x => sw_A 64 261 ls (.int x :: st) H Q) := sw_A_step (cc := cL_broken) rfl dL_broken_259 rfl ls st H Q
theorem r64_261 : sw_A 64 261 ls st H Q = (sw_ri False st fun a i r => sw_A 64 262 ls (.int i :: .ref a :: .int i :: .ref a :: r) H Q) := sw_A_step (cc := cL_broken) rfl dL_broken_261 rfl ls st H Q
theorem r64_262 : sw_A 64 262 ls st H Q = (sw_ri False st fun a i r => sw_ald False H 0 a i fun x => sw_A 64 263 ls (.int x :: r) H Q) := sw_A_step (cc := cL_broken) rfl dL_broken_262 rfl ls st H Q
theorem r64_263 : sw_A 64 263 ls st H Q = (sw_lda False ls 3 fun x => sw_A 64 264 ls (.ref x :: st) H Q) := sw_A_step (cc := cL_broken) rfl dL_broken_263 rfl ls st H Q
theorem r64_264 : sw_A 64 264 ls st H Q = (sw_ldi False ls 7 fun x => sw_A 64 266 ls (.int x :: st) H Q) := sw_A_step (cc := cL_broken) rfl dL_broken_264 rfl ls st H Q
theorem r64_266 : sw_A 64 266 ls st H Q = (sw_ri False st fun a i r => sw_ald False H 0 a i fun x => sw_A 64 267 ls (.int x :: r) H Q) := sw_A_step (cc := cL_broken) rfl dL_broken_266 rfl ls st H Q
theorem r64_267 : sw_A 64 267 ls st H Q = (sw_A 64 268 ls (.int (Int32.ofInt 1) :: st) H Q) := sw_A_step (cc := cL_broken) rfl dL_broken_267 rfl ls st H Q
theorem r64_268 : sw_A 64 268 ls st H Q = (sw_i2 False st fun x y r => sw_A 64 269 ls (.int (x + y) :: r) H Q) := sw_A_step (cc := cL_broken) rfl dL_broken_268 rfl ls st H Q
theorem r64_269 : sw_A 64 269 ls st H Q = (sw_A 64 270 ls (.int (Int32.ofInt 2) :: st) H Q) := sw_A_step (cc := cL_broken) rfl dL_broken_269 rfl ls st H Q
theorem r64_270 : sw_A 64 270 ls st H Q = (sw_i2 False st fun x y r => if y = 0 then False else sw_A 64 271 ls (.int (x / y) :: r) H Q) := sw_A_step (cc := cL_broken) rfl dL_broken_270 rfl ls st H Q
theorem r64_271 : sw_A 64 271 ls st H Q = (sw_i2 False st fun x y r => sw_A 64 272 ls (.int (x + y) :: r) H Q) := sw_A_step (cc := cL_broken) rfl dL_broken_271 rfl ls st H Q
theorem r64_272 : sw_A 64 272 ls st H Q = (sw_rix False st fun a i x r => sw_ast False H 0 a i x fun H1 => sw_A 64 273 ls r H1 Q) := sw_A_step (cc := cL_broken) rfl dL_broken_272 rfl ls st H Q
theorem r64_273 : sw_A 64 273 ls st H Q = (sw_ldi False ls 7 fun x => sw_A 64 276 (sw_set1 ls 7 (.int (x + Int32.ofInt 1))) st H Q) := sw_A_step (cc := cL_broken) rfl dL_broken_273 rfl ls st H Q
theorem r64_276 : sw_A 64 276 ls st H Q = (sw_A 64 158 ls st H Q) := sw_A_step (cc := cL_broken) rfl dL_broken_276 rfl ls st H Q
theorem r64_279 : sw_A 64 279 ls st H Q = (sw_A 64 38 ls st H Q) := sw_A_step (cc := cL_broken) rfl dL_broken_279 rfl ls st H Q
theorem r64_282 : sw_A 64 282 ls st H Q = (sw_A 64 284 ls (.int (Int32.ofInt 12) :: st) H Q) := sw_A_step (cc := cL_broken) rfl dL_broken_282 rfl ls st H Q
theorem r64_284 : sw_A 64 284 ls st H Q = (match st with | [.int x] => Q (some (some (.int x))) H | _ => False) := sw_A_step (cc := cL_broken) rfl dL_broken_284 rfl ls st H Q
theorem r65_0 : sw_A 65 0 ls st H Q = (sw_A 65 1 ls (.int (Int32.ofInt 0) :: st) H Q) := sw_A_step (cc := cX1_leastFatalByNeighbours) rfl dX1_leastFatalByNeighbours_0 rfl ls st H Q
theorem r65_1 : sw_A 65 1 ls st H Q = (sw_has1 False ls 1 (sw_i1 False st fun x r => sw_A 65 2 (sw_set1 ls 1 (.int x)) r H Q)) := sw_A_step (cc := cX1_leastFatalByNeighbours) rfl dX1_leastFatalByNeighbours_1 rfl ls st H Q
theorem r65_2 : sw_A 65 2 ls st H Q = (sw_A 65 3 ls (.int (Int32.ofInt 0) :: st) H Q) := sw_A_step (cc := cX1_leastFatalByNeighbours) rfl dX1_leastFatalByNeighbours_2 rfl ls st H Q
theorem r65_3 : sw_A 65 3 ls st H Q = (sw_has1 False ls 2 (sw_i1 False st fun x r => sw_A 65 4 (sw_set1 ls 2 (.int x)) r H Q)) := sw_A_step (cc := cX1_leastFatalByNeighbours) rfl dX1_leastFatalByNeighbours_3 rfl ls st H Q
theorem r65_4 : sw_A 65 4 ls st H Q = (sw_ldi False ls 2 fun x => sw_A 65 5 ls (.int x :: st) H Q) := sw_A_step (cc := cX1_leastFatalByNeighbours) rfl dX1_leastFatalByNeighbours_4 rfl ls st H Q
theorem r65_5 : sw_A 65 5 ls st H Q = (sw_A 65 8 ls (.int (Int32.ofInt 1000) :: st) H Q) := sw_A_step (cc := cX1_leastFatalByNeighbours) rfl dX1_leastFatalByNeighbours_5 rfl ls st H Q
theorem r65_8 : sw_A 65 8 ls st H Q = (sw_i2 False st fun x y r => if y < x then sw_A 65 33 ls r H Q else sw_A 65 11 ls r H Q) := sw_A_step (cc := cX1_leastFatalByNeighbours) rfl dX1_leastFatalByNeighbours_8 rfl ls st H Q
theorem r65_11 : sw_A 65 11 ls st H Q = (sw_lda False ls 0 fun x => sw_A 65 12 ls (.ref x :: st) H Q) := sw_A_step (cc := cX1_leastFatalByNeighbours) rfl dX1_leastFatalByNeighbours_11 rfl ls st H Q
theorem r65_12 : sw_A 65 12 ls st H Q = (sw_ldi False ls 1 fun x => sw_A 65 13 ls (.int x :: st) H Q) := sw_A_step (cc := cX1_leastFatalByNeighbours) rfl dX1_leastFatalByNeighbours_12 rfl ls st H Q
theorem r65_13 : sw_A 65 13 ls st H Q = (sw_pop False 2 st [] fun args r => sw_ck False r (sw_rc False H (some 1) args (sw_M 61 args H (sw_K 65 16 none ls r Q)))) := sw_A_step (cc := cX1_leastFatalByNeighbours) rfl dX1_leastFatalByNeighbours_13 rfl ls st H Q
theorem r65_16 : sw_A 65 16 ls st H Q = (sw_A 65 18 ls (.int (Int32.ofInt 12) :: st) H Q) := sw_A_step (cc := cX1_leastFatalByNeighbours) rfl dX1_leastFatalByNeighbours_16 rfl ls st H Q
theorem r65_18 : sw_A 65 18 ls st H Q = (sw_i2 False st fun x y r => if ¬ x = y then sw_A 65 24 ls r H Q else sw_A 65 21 ls r H Q) := sw_A_step (cc := cX1_leastFatalByNeighbours) rfl dX1_leastFatalByNeighbours_18 rfl ls st H Q
theorem r65_21 : sw_A 65 21 ls st H Q = (sw_A 65 33 ls st H Q) := sw_A_step (cc := cX1_leastFatalByNeighbours) rfl dX1_leastFatalByNeighbours_21 rfl ls st H Q
theorem r65_24 : sw_A 65 24 ls st H Q = (sw_ldi False ls 1 fun x => sw_A 65 27 (sw_set1 ls 1 (.int (x + Int32.ofInt 12))) st H Q) := sw_A_step (cc := cX1_leastFatalByNeighbours) rfl dX1_leastFatalByNeighbours_24 rfl ls st H Q
theorem r65_27 : sw_A 65 27 ls st H Q = (sw_ldi False ls 2 fun x => sw_A 65 30 (sw_set1 ls 2 (.int (x + Int32.ofInt 1))) st H Q) := sw_A_step (cc := cX1_leastFatalByNeighbours) rfl dX1_leastFatalByNeighbours_27 rfl ls st H Q
theorem r65_30 : sw_A 65 30 ls st H Q = (sw_A 65 4 ls st H Q) := sw_A_step (cc := cX1_leastFatalByNeighbours) rfl dX1_leastFatalByNeighbours_30 rfl ls st H Q
theorem r65_33 : sw_A 65 33 ls st H Q = (sw_ldi False ls 1 fun x => sw_A 65 34 ls (.int x :: st) H Q) := sw_A_step (cc := cX1_leastFatalByNeighbours) rfl dX1_leastFatalByNeighbours_33 rfl ls st H Q
theorem r65_34 : sw_A 65 34 ls st H Q = (match st with | [.int x] => Q (some (some (.int x))) H | _ => False) := sw_A_step (cc := cX1_leastFatalByNeighbours) rfl dX1_leastFatalByNeighbours_34 rfl ls st H Q
theorem r66_0 : sw_A 66 0 ls st H Q = (sw_A 66 1 ls (.int (Int32.ofInt (-1)) :: st) H Q) := sw_A_step (cc := cX1_weakestWhole) rfl dX1_weakestWhole_0 rfl ls st H Q
theorem r66_1 : sw_A 66 1 ls st H Q = (sw_has1 False ls 1 (sw_i1 False st fun x r => sw_A 66 2 (sw_set1 ls 1 (.int x)) r H Q)) := sw_A_step (cc := cX1_weakestWhole) rfl dX1_weakestWhole_1 rfl ls st H Q
theorem r66_2 : sw_A 66 2 ls st H Q = (sw_A 66 3 ls (.int (Int32.ofInt 0) :: st) H Q) := sw_A_step (cc := cX1_weakestWhole) rfl dX1_weakestWhole_2 rfl ls st H Q
theorem r66_3 : sw_A 66 3 ls st H Q = (sw_has1 False ls 2 (sw_i1 False st fun x r => sw_A 66 4 (sw_set1 ls 2 (.int x)) r H Q)) := sw_A_step (cc := cX1_weakestWhole) rfl dX1_weakestWhole_3 rfl ls st H Q
theorem r66_4 : sw_A 66 4 ls st H Q = (sw_ldi False ls 2 fun x => sw_A 66 5 ls (.int x :: st) H Q) := sw_A_step (cc := cX1_weakestWhole) rfl dX1_weakestWhole_4 rfl ls st H Q
theorem r66_5 : sw_A 66 5 ls st H Q = (sw_A 66 7 ls (.int (Int32.ofInt 12) :: st) H Q) := sw_A_step (cc := cX1_weakestWhole) rfl dX1_weakestWhole_5 rfl ls st H Q
theorem r66_7 : sw_A 66 7 ls st H Q = (sw_i2 False st fun x y r => if y ≤ x then sw_A 66 47 ls r H Q else sw_A 66 10 ls r H Q) := sw_A_step (cc := cX1_weakestWhole) rfl dX1_weakestWhole_7 rfl ls st H Q
theorem r66_10 : sw_A 66 10 ls st H Q = (sw_lda False ls 0 fun x => sw_A 66 11 ls (.ref x :: st) H Q) := sw_A_step (cc := cX1_weakestWhole) rfl dX1_weakestWhole_10 rfl ls st H Q
theorem r66_11 : sw_A 66 11 ls st H Q = (sw_r1 False st fun a r => sw_gf False H (some (1, 1, 1)) a fun v => sw_A 66 14 ls (v :: r) H Q) := sw_A_step (cc := cX1_weakestWhole) rfl dX1_weakestWhole_11 rfl ls st H Q
theorem r66_14 : sw_A 66 14 ls st H Q = (sw_ldi False ls 2 fun x => sw_A 66 15 ls (.int x :: st) H Q) := sw_A_step (cc := cX1_weakestWhole) rfl dX1_weakestWhole_14 rfl ls st H Q
theorem r66_15 : sw_A 66 15 ls st H Q = (sw_ri False st fun a i r => sw_ald False H 1 a i fun x => sw_A 66 16 ls (.int x :: r) H Q) := sw_A_step (cc := cX1_weakestWhole) rfl dX1_weakestWhole_15 rfl ls st H Q
theorem r66_16 : sw_A 66 16 ls st H Q = (sw_i1 False st fun x r => if x = 0 then sw_A 66 41 ls r H Q else sw_A 66 19 ls r H Q) := sw_A_step (cc := cX1_weakestWhole) rfl dX1_weakestWhole_16 rfl ls st H Q
theorem r66_19 : sw_A 66 19 ls st H Q = (sw_ldi False ls 1 fun x => sw_A 66 20 ls (.int x :: st) H Q) := sw_A_step (cc := cX1_weakestWhole) rfl dX1_weakestWhole_19 rfl ls st H Q
theorem r66_20 : sw_A 66 20 ls st H Q = (sw_A 66 21 ls (.int (Int32.ofInt (-1)) :: st) H Q) := sw_A_step (cc := cX1_weakestWhole) rfl dX1_weakestWhole_20 rfl ls st H Q
theorem r66_21 : sw_A 66 21 ls st H Q = (sw_i2 False st fun x y r => if x = y then sw_A 66 39 ls r H Q else sw_A 66 24 ls r H Q) := sw_A_step (cc := cX1_weakestWhole) rfl dX1_weakestWhole_21 rfl ls st H Q
theorem r66_24 : sw_A 66 24 ls st H Q = (sw_lda False ls 0 fun x => sw_A 66 25 ls (.ref x :: st) H Q) := sw_A_step (cc := cX1_weakestWhole) rfl dX1_weakestWhole_24 rfl ls st H Q
theorem r66_25 : sw_A 66 25 ls st H Q = (sw_r1 False st fun a r => sw_gf False H (some (1, 0, 1)) a fun v => sw_A 66 28 ls (v :: r) H Q) := sw_A_step (cc := cX1_weakestWhole) rfl dX1_weakestWhole_25 rfl ls st H Q
theorem r66_28 : sw_A 66 28 ls st H Q = (sw_ldi False ls 2 fun x => sw_A 66 29 ls (.int x :: st) H Q) := sw_A_step (cc := cX1_weakestWhole) rfl dX1_weakestWhole_28 rfl ls st H Q
theorem r66_29 : sw_A 66 29 ls st H Q = (sw_ri False st fun a i r => sw_ald False H 0 a i fun x => sw_A 66 30 ls (.int x :: r) H Q) := sw_A_step (cc := cX1_weakestWhole) rfl dX1_weakestWhole_29 rfl ls st H Q
theorem r66_30 : sw_A 66 30 ls st H Q = (sw_lda False ls 0 fun x => sw_A 66 31 ls (.ref x :: st) H Q) := sw_A_step (cc := cX1_weakestWhole) rfl dX1_weakestWhole_30 rfl ls st H Q
theorem r66_31 : sw_A 66 31 ls st H Q = (sw_r1 False st fun a r => sw_gf False H (some (1, 0, 1)) a fun v => sw_A 66 34 ls (v :: r) H Q) := sw_A_step (cc := cX1_weakestWhole) rfl dX1_weakestWhole_31 rfl ls st H Q
theorem r66_34 : sw_A 66 34 ls st H Q = (sw_ldi False ls 1 fun x => sw_A 66 35 ls (.int x :: st) H Q) := sw_A_step (cc := cX1_weakestWhole) rfl dX1_weakestWhole_34 rfl ls st H Q
theorem r66_35 : sw_A 66 35 ls st H Q = (sw_ri False st fun a i r => sw_ald False H 0 a i fun x => sw_A 66 36 ls (.int x :: r) H Q) := sw_A_step (cc := cX1_weakestWhole) rfl dX1_weakestWhole_35 rfl ls st H Q
theorem r66_36 : sw_A 66 36 ls st H Q = (sw_i2 False st fun x y r => if y ≤ x then sw_A 66 41 ls r H Q else sw_A 66 39 ls r H Q) := sw_A_step (cc := cX1_weakestWhole) rfl dX1_weakestWhole_36 rfl ls st H Q
theorem r66_39 : sw_A 66 39 ls st H Q = (sw_ldi False ls 2 fun x => sw_A 66 40 ls (.int x :: st) H Q) := sw_A_step (cc := cX1_weakestWhole) rfl dX1_weakestWhole_39 rfl ls st H Q
theorem r66_40 : sw_A 66 40 ls st H Q = (sw_has1 False ls 1 (sw_i1 False st fun x r => sw_A 66 41 (sw_set1 ls 1 (.int x)) r H Q)) := sw_A_step (cc := cX1_weakestWhole) rfl dX1_weakestWhole_40 rfl ls st H Q
theorem r66_41 : sw_A 66 41 ls st H Q = (sw_ldi False ls 2 fun x => sw_A 66 44 (sw_set1 ls 2 (.int (x + Int32.ofInt 1))) st H Q) := sw_A_step (cc := cX1_weakestWhole) rfl dX1_weakestWhole_41 rfl ls st H Q
theorem r66_44 : sw_A 66 44 ls st H Q = (sw_A 66 4 ls st H Q) := sw_A_step (cc := cX1_weakestWhole) rfl dX1_weakestWhole_44 rfl ls st H Q
theorem r66_47 : sw_A 66 47 ls st H Q = (sw_ldi False ls 1 fun x => sw_A 66 48 ls (.int x :: st) H Q) := sw_A_step (cc := cX1_weakestWhole) rfl dX1_weakestWhole_47 rfl ls st H Q
theorem r66_48 : sw_A 66 48 ls st H Q = (match st with | [.int x] => Q (some (some (.int x))) H | _ => False) := sw_A_step (cc := cX1_weakestWhole) rfl dX1_weakestWhole_48 rfl ls st H Q
theorem r67_0 : sw_A 67 0 ls st H Q = (sw_lda False ls 0 fun x => sw_A 67 1 ls (.ref x :: st) H Q) := sw_A_step (cc := cX1_leastFatalEvenly) rfl dX1_leastFatalEvenly_0 rfl ls st H Q
theorem r67_1 : sw_A 67 1 ls st H Q = (sw_pop False 1 st [] fun args r => sw_ck False r (sw_rc False H (some 1) args (sw_M 57 args H (sw_K 67 4 none ls r Q)))) := sw_A_step (cc := cX1_leastFatalEvenly) rfl dX1_leastFatalEvenly_1 rfl ls st H Q
theorem r67_4 : sw_A 67 4 ls st H Q = (sw_A 67 5 ls (.int (Int32.ofInt 0) :: st) H Q) := sw_A_step (cc := cX1_leastFatalEvenly) rfl dX1_leastFatalEvenly_4 rfl ls st H Q
theorem r67_5 : sw_A 67 5 ls st H Q = (sw_has1 False ls 1 (sw_i1 False st fun x r => sw_A 67 6 (sw_set1 ls 1 (.int x)) r H Q)) := sw_A_step (cc := cX1_leastFatalEvenly) rfl dX1_leastFatalEvenly_5 rfl ls st H Q
theorem r67_6 : sw_A 67 6 ls st H Q = (sw_A 67 8 ls (.int (Int32.ofInt 12) :: st) H Q) := sw_A_step (cc := cX1_leastFatalEvenly) rfl dX1_leastFatalEvenly_6 rfl ls st H Q
theorem r67_8 : sw_A 67 8 ls st H Q = (sw_has1 False ls 2 (sw_i1 False st fun x r => sw_A 67 9 (sw_set1 ls 2 (.int x)) r H Q)) := sw_A_step (cc := cX1_leastFatalEvenly) rfl dX1_leastFatalEvenly_8 rfl ls st H Q
theorem r67_9 : sw_A 67 9 ls st H Q = (sw_ldi False ls 2 fun x => sw_A 67 10 ls (.int x :: st) H Q) := sw_A_step (cc := cX1_leastFatalEvenly) rfl dX1_leastFatalEvenly_9 rfl ls st H Q
theorem r67_10 : sw_A 67 10 ls st H Q = (sw_i1 False st fun x r => if x ≤ 0 then sw_A 67 54 ls r H Q else sw_A 67 13 ls r H Q) := sw_A_step (cc := cX1_leastFatalEvenly) rfl dX1_leastFatalEvenly_10 rfl ls st H Q
theorem r67_13 : sw_A 67 13 ls st H Q = (sw_lda False ls 0 fun x => sw_A 67 14 ls (.ref x :: st) H Q) := sw_A_step (cc := cX1_leastFatalEvenly) rfl dX1_leastFatalEvenly_13 rfl ls st H Q
theorem r67_14 : sw_A 67 14 ls st H Q = (sw_pop False 1 st [] fun args r => sw_ck False r (sw_rc False H (some 1) args (sw_M 66 args H (sw_K 67 17 none ls r Q)))) := sw_A_step (cc := cX1_leastFatalEvenly) rfl dX1_leastFatalEvenly_14 rfl ls st H Q
theorem r67_17 : sw_A 67 17 ls st H Q = (sw_has1 False ls 3 (sw_i1 False st fun x r => sw_A 67 18 (sw_set1 ls 3 (.int x)) r H Q)) := sw_A_step (cc := cX1_leastFatalEvenly) rfl dX1_leastFatalEvenly_17 rfl ls st H Q
theorem r67_18 : sw_A 67 18 ls st H Q = (sw_ldi False ls 3 fun x => sw_A 67 19 ls (.int x :: st) H Q) := sw_A_step (cc := cX1_leastFatalEvenly) rfl dX1_leastFatalEvenly_18 rfl ls st H Q
theorem r67_19 : sw_A 67 19 ls st H Q = (sw_A 67 20 ls (.int (Int32.ofInt (-1)) :: st) H Q) := sw_A_step (cc := cX1_leastFatalEvenly) rfl dX1_leastFatalEvenly_19 rfl ls st H Q
theorem r67_20 : sw_A 67 20 ls st H Q = (sw_i2 False st fun x y r => if ¬ x = y then sw_A 67 26 ls r H Q else sw_A 67 23 ls r H Q) := sw_A_step (cc := cX1_leastFatalEvenly) rfl dX1_leastFatalEvenly_20 rfl ls st H Q
theorem r67_23 : sw_A 67 23 ls st H Q = (sw_A 67 54 ls st H Q) := sw_A_step (cc := cX1_leastFatalEvenly) rfl dX1_leastFatalEvenly_23 rfl ls st H Q
theorem r67_26 : sw_A 67 26 ls st H Q = (sw_ldi False ls 1 fun x => sw_A 67 27 ls (.int x :: st) H Q) := sw_A_step (cc := cX1_leastFatalEvenly) rfl dX1_leastFatalEvenly_26 rfl ls st H Q
theorem r67_27 : sw_A 67 27 ls st H Q = (sw_ldi False ls 2 fun x => sw_A 67 28 ls (.int x :: st) H Q) := sw_A_step (cc := cX1_leastFatalEvenly) rfl dX1_leastFatalEvenly_27 rfl ls st H Q
theorem r67_28 : sw_A 67 28 ls st H Q = (sw_lda False ls 0 fun x => sw_A 67 29 ls (.ref x :: st) H Q) := sw_A_step (cc := cX1_leastFatalEvenly) rfl dX1_leastFatalEvenly_28 rfl ls st H Q
theorem r67_29 : sw_A 67 29 ls st H Q = (sw_r1 False st fun a r => sw_gf False H (some (1, 0, 1)) a fun v => sw_A 67 32 ls (v :: r) H Q) := sw_A_step (cc := cX1_leastFatalEvenly) rfl dX1_leastFatalEvenly_29 rfl ls st H Q
theorem r67_32 : sw_A 67 32 ls st H Q = (sw_ldi False ls 3 fun x => sw_A 67 33 ls (.int x :: st) H Q) := sw_A_step (cc := cX1_leastFatalEvenly) rfl dX1_leastFatalEvenly_32 rfl ls st H Q
theorem r67_33 : sw_A 67 33 ls st H Q = (sw_ri False st fun a i r => sw_ald False H 0 a i fun x => sw_A 67 34 ls (.int x :: r) H Q) := sw_A_step (cc := cX1_leastFatalEvenly) rfl dX1_leastFatalEvenly_33 rfl ls st H Q
theorem r67_34 : sw_A 67 34 ls st H Q = (sw_A 67 35 ls (.int (Int32.ofInt 1) :: st) H Q) := sw_A_step (cc := cX1_leastFatalEvenly) rfl dX1_leastFatalEvenly_34 rfl ls st H Q
theorem r67_35 : sw_A 67 35 ls st H Q = (sw_i2 False st fun x y r => sw_A 67 36 ls (.int (x + y) :: r) H Q) := sw_A_step (cc := cX1_leastFatalEvenly) rfl dX1_leastFatalEvenly_35 rfl ls st H Q
theorem r67_36 : sw_A 67 36 ls st H Q = (sw_i2 False st fun x y r => sw_A 67 37 ls (.int (x * y) :: r) H Q) := sw_A_step (cc := cX1_leastFatalEvenly) rfl dX1_leastFatalEvenly_36 rfl ls st H Q
theorem r67_37 : sw_A 67 37 ls st H Q = (sw_i2 False st fun x y r => sw_ck False r (sw_A 67 40 ls (.int (if x < y then y else x) :: r) H Q)) := sw_A_step (cc := cX1_leastFatalEvenly) rfl dX1_leastFatalEvenly_37 rfl ls st H Q
theorem r67_40 : sw_A 67 40 ls st H Q = (sw_has1 False ls 1 (sw_i1 False st fun x r => sw_A 67 41 (sw_set1 ls 1 (.int x)) r H Q)) := sw_A_step (cc := cX1_leastFatalEvenly) rfl dX1_leastFatalEvenly_40 rfl ls st H Q
theorem r67_41 : sw_A 67 41 ls st H Q = (sw_lda False ls 0 fun x => sw_A 67 42 ls (.ref x :: st) H Q) := sw_A_step (cc := cX1_leastFatalEvenly) rfl dX1_leastFatalEvenly_41 rfl ls st H Q
theorem r67_42 : sw_A 67 42 ls st H Q = (sw_r1 False st fun a r => sw_gf False H (some (1, 1, 1)) a fun v => sw_A 67 45 ls (v :: r) H Q) := sw_A_step (cc := cX1_leastFatalEvenly) rfl dX1_leastFatalEvenly_42 rfl ls st H Q
theorem r67_45 : sw_A 67 45 ls st H Q = (sw_ldi False ls 3 fun x => sw_A 67 46 ls (.int x :: st) H Q) := sw_A_step (cc := cX1_leastFatalEvenly) rfl dX1_leastFatalEvenly_45 rfl ls st H Q
theorem r67_46 : sw_A 67 46 ls st H Q = (sw_A 67 47 ls (.int (Int32.ofInt 0) :: st) H Q) := sw_A_step (cc := cX1_leastFatalEvenly) rfl dX1_leastFatalEvenly_46 rfl ls st H Q
theorem r67_47 : sw_A 67 47 ls st H Q = (sw_rix False st fun a i x r => sw_ast False H 1 a i (x &&& 1) fun H1 => sw_A 67 48 ls r H1 Q) := sw_A_step (cc := cX1_leastFatalEvenly) rfl dX1_leastFatalEvenly_47 rfl ls st H Q
theorem r67_48 : sw_A 67 48 ls st H Q = (sw_ldi False ls 2 fun x => sw_A 67 51 (sw_set1 ls 2 (.int (x + Int32.ofInt (-1)))) st H Q) := sw_A_step (cc := cX1_leastFatalEvenly) rfl dX1_leastFatalEvenly_48 rfl ls st H Q
theorem r67_51 : sw_A 67 51 ls st H Q = (sw_A 67 9 ls st H Q) := sw_A_step (cc := cX1_leastFatalEvenly) rfl dX1_leastFatalEvenly_51 rfl ls st H Q
theorem r67_54 : sw_A 67 54 ls st H Q = (sw_ldi False ls 1 fun x => sw_A 67 55 ls (.int x :: st) H Q) := sw_A_step (cc := cX1_leastFatalEvenly) rfl dX1_leastFatalEvenly_54 rfl ls st H Q
theorem r67_55 : sw_A 67 55 ls st H Q = (match st with | [.int x] => Q (some (some (.int x))) H | _ => False) := sw_A_step (cc := cX1_leastFatalEvenly) rfl dX1_leastFatalEvenly_55 rfl ls st H Q
theorem r68_0 : sw_A 68 0 ls st H Q = (sw_ldi False ls 1 fun x => sw_A 68 1 ls (.int x :: st) H Q) := sw_A_step (cc := cX11_lastStraw) rfl dX11_lastStraw_0 rfl ls st H Q
theorem r68_1 : sw_A 68 1 ls st H Q = (sw_i1 False st fun x r => if x = 0 then sw_A 68 14 ls r H Q else sw_A 68 4 ls r H Q) := sw_A_step (cc := cX11_lastStraw) rfl dX11_lastStraw_1 rfl ls st H Q
theorem r68_4 : sw_A 68 4 ls st H Q = (sw_lda False ls 0 fun x => sw_A 68 5 ls (.ref x :: st) H Q) := sw_A_step (cc := cX11_lastStraw) rfl dX11_lastStraw_4 rfl ls st H Q
theorem r68_5 : sw_A 68 5 ls st H Q = (sw_r1 False st fun a r => sw_gf False H (some (11, 9, 1)) a fun v => sw_A 68 8 ls (v :: r) H Q) := sw_A_step (cc := cX11_lastStraw) rfl dX11_lastStraw_5 rfl ls st H Q
theorem r68_8 : sw_A 68 8 ls st H Q = (sw_pop False 1 st [] fun args r => sw_ck False r (sw_rc False H (some 1) args (sw_M 65 args H (sw_K 68 11 none ls r Q)))) := sw_A_step (cc := cX11_lastStraw) rfl dX11_lastStraw_8 rfl ls st H Q
theorem r68_11 : sw_A 68 11 ls st H Q = (sw_A 68 21 ls st H Q) := sw_A_step (cc := cX11_lastStraw) rfl dX11_lastStraw_11 rfl ls st H Q
theorem r68_14 : sw_A 68 14 ls st H Q = (sw_lda False ls 0 fun x => sw_A 68 15 ls (.ref x :: st) H Q) := sw_A_step (cc := cX11_lastStraw) rfl dX11_lastStraw_14 rfl ls st H Q
theorem r68_15 : sw_A 68 15 ls st H Q = (sw_r1 False st fun a r => sw_gf False H (some (11, 9, 1)) a fun v => sw_A 68 18 ls (v :: r) H Q) := sw_A_step (cc := cX11_lastStraw) rfl dX11_lastStraw_15 rfl ls st H Q
theorem r68_18 : sw_A 68 18 ls st H Q = (sw_pop False 1 st [] fun args r => sw_ck False r (sw_rc False H (some 1) args (sw_M 67 args H (sw_K 68 21 none ls r Q)))) := sw_A_step (cc := cX11_lastStraw) rfl dX11_lastStraw_18 rfl ls st H Q
theorem r68_21 : sw_A 68 21 ls st H Q = (sw_A 68 22 ls (.int (Int32.ofInt 1) :: st) H Q) := sw_A_step (cc := cX11_lastStraw) rfl dX11_lastStraw_21 rfl ls st H Q
theorem r68_22 : sw_A 68 22 ls st H Q = (sw_i2 False st fun x y r => sw_A 68 23 ls (.int (x - y) :: r) H Q) := sw_A_step (cc := cX11_lastStraw) rfl dX11_lastStraw_22 rfl ls st H Q
theorem r68_23 : sw_A 68 23 ls st H Q = (match st with | [.int x] => Q (some (some (.int x))) H | _ => False) := sw_A_step (cc := cX11_lastStraw) rfl dX11_lastStraw_23 rfl ls st H Q
theorem r69_0 : sw_A 69 0 ls st H Q = (sw_A 69 1 ls (.long (Int64.ofNat 0) :: st) H Q) := sw_A_step (cc := cL_side) rfl dL_side_0 rfl ls st H Q
theorem r69_1 : sw_A 69 1 ls st H Q = (sw_has1 False ls 2 (sw_l1 False st fun x r => sw_A 69 2 (sw_set2 ls 1 (.long x)) r H Q)) := sw_A_step (cc := cL_side) rfl dL_side_1 rfl ls st H Q
theorem r69_2 : sw_A 69 2 ls st H Q = (sw_A 69 3 ls (.int (Int32.ofInt 0) :: st) H Q) := sw_A_step (cc := cL_side) rfl dL_side_2 rfl ls st H Q
theorem r69_3 : sw_A 69 3 ls st H Q = (sw_has1 False ls 3 (sw_i1 False st fun x r => sw_A 69 4 (sw_set1 ls 3 (.int x)) r H Q)) := sw_A_step (cc := cL_side) rfl dL_side_3 rfl ls st H Q
theorem r69_4 : sw_A 69 4 ls st H Q = (sw_ldi False ls 3 fun x => sw_A 69 5 ls (.int x :: st) H Q) := sw_A_step (cc := cL_side) rfl dL_side_4 rfl ls st H Q
theorem r69_5 : sw_A 69 5 ls st H Q = (sw_A 69 7 ls (.int (Int32.ofInt 6) :: st) H Q) := sw_A_step (cc := cL_side) rfl dL_side_5 rfl ls st H Q
theorem r69_7 : sw_A 69 7 ls st H Q = (sw_i2 False st fun x y r => if y ≤ x then sw_A 69 59 ls r H Q else sw_A 69 10 ls r H Q) := sw_A_step (cc := cL_side) rfl dL_side_7 rfl ls st H Q
theorem r69_10 : sw_A 69 10 ls st H Q = (sw_ldl False ls 1 fun x => sw_A 69 11 ls (.long x :: st) H Q) := sw_A_step (cc := cL_side) rfl dL_side_10 rfl ls st H Q
theorem r69_11 : sw_A 69 11 ls st H Q = (sw_A 69 12 ls (.long (Int64.ofNat 1) :: st) H Q) := sw_A_step (cc := cL_side) rfl dL_side_11 rfl ls st H Q
theorem r69_12 : sw_A 69 12 ls st H Q = (sw_ldi False ls 0 fun x => sw_A 69 13 ls (.int x :: st) H Q) := sw_A_step (cc := cL_side) rfl dL_side_12 rfl ls st H Q
theorem r69_13 : sw_A 69 13 ls st H Q = (sw_i1 False st fun x r => if ¬ x = 0 then sw_A 69 23 ls r H Q else sw_A 69 16 ls r H Q) := sw_A_step (cc := cL_side) rfl dL_side_13 rfl ls st H Q
theorem r69_16 : sw_A 69 16 ls st H Q = (sw_A 69 18 ls (.int (Int32.ofInt 6) :: st) H Q) := sw_A_step (cc := cL_side) rfl dL_side_16 rfl ls st H Q
theorem r69_18 : sw_A 69 18 ls st H Q = (sw_ldi False ls 3 fun x => sw_A 69 19 ls (.int x :: st) H Q) := sw_A_step (cc := cL_side) rfl dL_side_18 rfl ls st H Q
theorem r69_19 : sw_A 69 19 ls st H Q = (sw_i2 False st fun x y r => sw_A 69 20 ls (.int (x * y) :: r) H Q) := sw_A_step (cc := cL_side) rfl dL_side_19 rfl ls st H Q
theorem r69_20 : sw_A 69 20 ls st H Q = (sw_A 69 50 ls st H Q) := sw_A_step (cc := cL_side) rfl dL_side_20 rfl ls st H Q
theorem r69_23 : sw_A 69 23 ls st H Q = (sw_ldi False ls 0 fun x => sw_A 69 24 ls (.int x :: st) H Q) := sw_A_step (cc := cL_side) rfl dL_side_23 rfl ls st H Q
theorem r69_24 : sw_A 69 24 ls st H Q = (sw_A 69 25 ls (.int (Int32.ofInt 1) :: st) H Q) := sw_A_step (cc := cL_side) rfl dL_side_24 rfl ls st H Q
theorem r69_25 : sw_A 69 25 ls st H Q = (sw_i2 False st fun x y r => if ¬ x = y then sw_A 69 37 ls r H Q else sw_A 69 28 ls r H Q) := sw_A_step (cc := cL_side) rfl dL_side_25 rfl ls st H Q
theorem r69_28 : sw_A 69 28 ls st H Q = (sw_A 69 30 ls (.int (Int32.ofInt 6) :: st) H Q) := sw_A_step (cc := cL_side) rfl dL_side_28 rfl ls st H Q
theorem r69_30 : sw_A 69 30 ls st H Q = (sw_ldi False ls 3 fun x => sw_A 69 31 ls (.int x :: st) H Q) := sw_A_step (cc := cL_side) rfl dL_side_30 rfl ls st H Q
theorem r69_31 : sw_A 69 31 ls st H Q = (sw_i2 False st fun x y r => sw_A 69 32 ls (.int (x * y) :: r) H Q) := sw_A_step (cc := cL_side) rfl dL_side_31 rfl ls st H Q
theorem r69_32 : sw_A 69 32 ls st H Q = (sw_A 69 33 ls (.int (Int32.ofInt 5) :: st) H Q) := sw_A_step (cc := cL_side) rfl dL_side_32 rfl ls st H Q
theorem r69_33 : sw_A 69 33 ls st H Q = (sw_i2 False st fun x y r => sw_A 69 34 ls (.int (x + y) :: r) H Q) := sw_A_step (cc := cL_side) rfl dL_side_33 rfl ls st H Q
theorem r69_34 : sw_A 69 34 ls st H Q = (sw_A 69 50 ls st H Q) := sw_A_step (cc := cL_side) rfl dL_side_34 rfl ls st H Q
theorem r69_37 : sw_A 69 37 ls st H Q = (sw_ldi False ls 0 fun x => sw_A 69 38 ls (.int x :: st) H Q) := sw_A_step (cc := cL_side) rfl dL_side_37 rfl ls st H Q
theorem r69_38 : sw_A 69 38 ls st H Q = (sw_A 69 39 ls (.int (Int32.ofInt 2) :: st) H Q) := sw_A_step (cc := cL_side) rfl dL_side_38 rfl ls st H Q
theorem r69_39 : sw_A 69 39 ls st H Q = (sw_i2 False st fun x y r => if ¬ x = y then sw_A 69 46 ls r H Q else sw_A 69 42 ls r H Q) := sw_A_step (cc := cL_side) rfl dL_side_39 rfl ls st H Q
theorem r69_42 : sw_A 69 42 ls st H Q = (sw_ldi False ls 3 fun x => sw_A 69 43 ls (.int x :: st) H Q) := sw_A_step (cc := cL_side) rfl dL_side_42 rfl ls st H Q
theorem r69_43 : sw_A 69 43 ls st H Q = (sw_A 69 50 ls st H Q) := sw_A_step (cc := cL_side) rfl dL_side_43 rfl ls st H Q
theorem r69_46 : sw_A 69 46 ls st H Q = (sw_A 69 48 ls (.int (Int32.ofInt 30) :: st) H Q) := sw_A_step (cc := cL_side) rfl dL_side_46 rfl ls st H Q
theorem r69_48 : sw_A 69 48 ls st H Q = (sw_ldi False ls 3 fun x => sw_A 69 49 ls (.int x :: st) H Q) := sw_A_step (cc := cL_side) rfl dL_side_48 rfl ls st H Q
theorem r69_49 : sw_A 69 49 ls st H Q = (sw_i2 False st fun x y r => sw_A 69 50 ls (.int (x + y) :: r) H Q) := sw_A_step (cc := cL_side) rfl dL_side_49 rfl ls st H Q
theorem r69_50 : sw_A 69 50 ls st H Q = (sw_li False st fun x y r => sw_A 69 51 ls (.long (x <<< (y.toInt64 &&& 63)) :: r) H Q) := sw_A_step (cc := cL_side) rfl dL_side_50 rfl ls st H Q
theorem r69_51 : sw_A 69 51 ls st H Q = (sw_l2 False st fun x y r => sw_A 69 52 ls (.long (x ||| y) :: r) H Q) := sw_A_step (cc := cL_side) rfl dL_side_51 rfl ls st H Q
theorem r69_52 : sw_A 69 52 ls st H Q = (sw_has1 False ls 2 (sw_l1 False st fun x r => sw_A 69 53 (sw_set2 ls 1 (.long x)) r H Q)) := sw_A_step (cc := cL_side) rfl dL_side_52 rfl ls st H Q
theorem r69_53 : sw_A 69 53 ls st H Q = (sw_ldi False ls 3 fun x => sw_A 69 56 (sw_set1 ls 3 (.int (x + Int32.ofInt 1))) st H Q) := sw_A_step (cc := cL_side) rfl dL_side_53 rfl ls st H Q
theorem r69_56 : sw_A 69 56 ls st H Q = (sw_A 69 4 ls st H Q) := sw_A_step (cc := cL_side) rfl dL_side_56 rfl ls st H Q
theorem r69_59 : sw_A 69 59 ls st H Q = (sw_ldl False ls 1 fun x => sw_A 69 60 ls (.long x :: st) H Q) := sw_A_step (cc := cL_side) rfl dL_side_59 rfl ls st H Q
theorem r69_60 : sw_A 69 60 ls st H Q = (match st with | [.long x] => Q (some (some (.long x))) H | _ => False) := sw_A_step (cc := cL_side) rfl dL_side_60 rfl ls st H Q
theorem r70_0 : sw_A 70 0 ls st H Q = (sw_ldl False ls 3 fun x => sw_A 70 1 ls (.long x :: st) H Q) := sw_A_step (cc := cL_moved) rfl dL_moved_0 rfl ls st H Q
theorem r70_1 : sw_A 70 1 ls st H Q = (sw_has1 False ls 8 (sw_l1 False st fun x r => sw_A 70 3 (sw_set2 ls 7 (.long x)) r H Q)) := sw_A_step (cc := cL_moved) rfl dL_moved_1 rfl ls st H Q
theorem r70_3 : sw_A 70 3 ls st H Q = (sw_A 70 4 ls (.int (Int32.ofInt 0) :: st) H Q) := sw_A_step (cc := cL_moved) rfl dL_moved_3 rfl ls st H Q
theorem r70_4 : sw_A 70 4 ls st H Q = (sw_has1 False ls 9 (sw_i1 False st fun x r => sw_A 70 6 (sw_set1 ls 9 (.int x)) r H Q)) := sw_A_step (cc := cL_moved) rfl dL_moved_4 rfl ls st H Q
theorem r70_6 : sw_A 70 6 ls st H Q = (sw_ldi False ls 9 fun x => sw_A 70 8 ls (.int x :: st) H Q) := sw_A_step (cc := cL_moved) rfl dL_moved_6 rfl ls st H Q
theorem r70_8 : sw_A 70 8 ls st H Q = (sw_i1 False st fun x r => if x < 0 then sw_A 70 192 ls r H Q else sw_A 70 11 ls r H Q) := sw_A_step (cc := cL_moved) rfl dL_moved_8 rfl ls st H Q
theorem r70_11 : sw_A 70 11 ls st H Q = (sw_ldl False ls 7 fun x => sw_A 70 13 ls (.long x :: st) H Q) := sw_A_step (cc := cL_moved) rfl dL_moved_11 rfl ls st H Q
theorem r70_13 : sw_A 70 13 ls st H Q = (sw_ldl False ls 1 fun x => sw_A 70 14 ls (.long x :: st) H Q) := sw_A_step (cc := cL_moved) rfl dL_moved_13 rfl ls st H Q
theorem r70_14 : sw_A 70 14 ls st H Q = (sw_A 70 17 ls (.long (Int64.ofInt (-1)) :: st) H Q) := sw_A_step (cc := cL_moved) rfl dL_moved_14 rfl ls st H Q
theorem r70_17 : sw_A 70 17 ls st H Q = (sw_l2 False st fun x y r => sw_A 70 18 ls (.long (x ^^^ y) :: r) H Q) := sw_A_step (cc := cL_moved) rfl dL_moved_17 rfl ls st H Q
theorem r70_18 : sw_A 70 18 ls st H Q = (sw_l2 False st fun x y r => sw_A 70 19 ls (.long (x &&& y) :: r) H Q) := sw_A_step (cc := cL_moved) rfl dL_moved_18 rfl ls st H Q
theorem r70_19 : sw_A 70 19 ls st H Q = (sw_A 70 20 ls (.int (Int32.ofInt 0) :: st) H Q) := sw_A_step (cc := cL_moved) rfl dL_moved_19 rfl ls st H Q
theorem r70_20 : sw_A 70 20 ls st H Q = (sw_pop False 1 st [] fun args r => sw_ck False r (sw_M 69 args H (sw_K 70 23 none ls r Q))) := sw_A_step (cc := cL_moved) rfl dL_moved_20 rfl ls st H Q
theorem r70_23 : sw_A 70 23 ls st H Q = (sw_pop False 2 st [] fun args r => sw_ck False r (sw_M 48 args H (sw_K 70 26 none ls r Q))) := sw_A_step (cc := cL_moved) rfl dL_moved_23 rfl ls st H Q
theorem r70_26 : sw_A 70 26 ls st H Q = (sw_has1 False ls 11 (sw_l1 False st fun x r => sw_A 70 28 (sw_set2 ls 10 (.long x)) r H Q)) := sw_A_step (cc := cL_moved) rfl dL_moved_26 rfl ls st H Q
theorem r70_28 : sw_A 70 28 ls st H Q = (sw_ldl False ls 7 fun x => sw_A 70 30 ls (.long x :: st) H Q) := sw_A_step (cc := cL_moved) rfl dL_moved_28 rfl ls st H Q
theorem r70_30 : sw_A 70 30 ls st H Q = (sw_A 70 33 ls (.long (Int64.ofInt (-1)) :: st) H Q) := sw_A_step (cc := cL_moved) rfl dL_moved_30 rfl ls st H Q
theorem r70_33 : sw_A 70 33 ls st H Q = (sw_l2 False st fun x y r => sw_A 70 34 ls (.long (x ^^^ y) :: r) H Q) := sw_A_step (cc := cL_moved) rfl dL_moved_33 rfl ls st H Q
theorem r70_34 : sw_A 70 34 ls st H Q = (sw_ldl False ls 1 fun x => sw_A 70 35 ls (.long x :: st) H Q) := sw_A_step (cc := cL_moved) rfl dL_moved_34 rfl ls st H Q
theorem r70_35 : sw_A 70 35 ls st H Q = (sw_A 70 38 ls (.long (Int64.ofInt (-1)) :: st) H Q) := sw_A_step (cc := cL_moved) rfl dL_moved_35 rfl ls st H Q
theorem r70_38 : sw_A 70 38 ls st H Q = (sw_l2 False st fun x y r => sw_A 70 39 ls (.long (x ^^^ y) :: r) H Q) := sw_A_step (cc := cL_moved) rfl dL_moved_38 rfl ls st H Q
theorem r70_39 : sw_A 70 39 ls st H Q = (sw_l2 False st fun x y r => sw_A 70 40 ls (.long (x &&& y) :: r) H Q) := sw_A_step (cc := cL_moved) rfl dL_moved_39 rfl ls st H Q
theorem r70_40 : sw_A 70 40 ls st H Q = (sw_A 70 43 ls (.long (Int64.ofInt 68719476735) :: st) H Q) := sw_A_step (cc := cL_moved) rfl dL_moved_40 rfl ls st H Q
theorem r70_43 : sw_A 70 43 ls st H Q = (sw_l2 False st fun x y r => sw_A 70 44 ls (.long (x &&& y) :: r) H Q) := sw_A_step (cc := cL_moved) rfl dL_moved_43 rfl ls st H Q
theorem r70_44 : sw_A 70 44 ls st H Q = (sw_A 70 45 ls (.int (Int32.ofInt 1) :: st) H Q) := sw_A_step (cc := cL_moved) rfl dL_moved_44 rfl ls st H Q
theorem r70_45 : sw_A 70 45 ls st H Q = (sw_pop False 1 st [] fun args r => sw_ck False r (sw_M 69 args H (sw_K 70 48 none ls r Q))) := sw_A_step (cc := cL_moved) rfl dL_moved_45 rfl ls st H Q
theorem r70_48 : sw_A 70 48 ls st H Q = (sw_pop False 2 st [] fun args r => sw_ck False r (sw_M 48 args H (sw_K 70 51 none ls r Q))) := sw_A_step (cc := cL_moved) rfl dL_moved_48 rfl ls st H Q
theorem r70_51 : sw_A 70 51 ls st H Q = (sw_has1 False ls 13 (sw_l1 False st fun x r => sw_A 70 53 (sw_set2 ls 12 (.long x)) r H Q)) := sw_A_step (cc := cL_moved) rfl dL_moved_51 rfl ls st H Q
theorem r70_53 : sw_A 70 53 ls st H Q = (sw_A 70 54 ls (.int (Int32.ofInt (-1)) :: st) H Q) := sw_A_step (cc := cL_moved) rfl dL_moved_53 rfl ls st H Q
theorem r70_54 : sw_A 70 54 ls st H Q = (sw_has1 False ls 9 (sw_i1 False st fun x r => sw_A 70 56 (sw_set1 ls 9 (.int x)) r H Q)) := sw_A_step (cc := cL_moved) rfl dL_moved_54 rfl ls st H Q
theorem r70_56 : sw_A 70 56 ls st H Q = (sw_A 70 58 ls (.int (Int32.ofInt 35) :: st) H Q) := sw_A_step (cc := cL_moved) rfl dL_moved_56 rfl ls st H Q
theorem r70_58 : sw_A 70 58 ls st H Q = (sw_has1 False ls 14 (sw_i1 False st fun x r => sw_A 70 60 (sw_set1 ls 14 (.int x)) r H Q)) := sw_A_step (cc := cL_moved) rfl dL_moved_58 rfl ls st H Q
theorem r70_60 : sw_A 70 60 ls st H Q = (sw_ldi False ls 14 fun x => sw_A 70 62 ls (.int x :: st) H Q) := sw_A_step (cc := cL_moved) rfl dL_moved_60 rfl ls st H Q
theorem r70_62 : sw_A 70 62 ls st H Q = (sw_i1 False st fun x r => if x < 0 then sw_A 70 175 ls r H Q else sw_A 70 65 ls r H Q) := sw_A_step (cc := cL_moved) rfl dL_moved_62 rfl ls st H Q
theorem r70_65 : sw_A 70 65 ls st H Q = (sw_ldi False ls 6 fun x => sw_A 70 67 ls (.int x :: st) H Q) := sw_A_step (cc := cL_moved) rfl dL_moved_65 rfl ls st H Q
theorem r70_67 : sw_A 70 67 ls st H Q = (sw_i1 False st fun x r => if x = 0 then sw_A 70 115 ls r H Q else sw_A 70 70 ls r H Q) := sw_A_step (cc := cL_moved) rfl dL_moved_67 rfl ls st H Q
theorem r70_70 : sw_A 70 70 ls st H Q = (sw_ldl False ls 12 fun x => sw_A 70 72 ls (.long x :: st) H Q) := sw_A_step (cc := cL_moved) rfl dL_moved_70 rfl ls st H Q
theorem r70_72 : sw_A 70 72 ls st H Q = (sw_ldi False ls 14 fun x => sw_A 70 74 ls (.int x :: st) H Q) := sw_A_step (cc := cL_moved) rfl dL_moved_72 rfl ls st H Q
theorem r70_74 : sw_A 70 74 ls st H Q = (sw_pop False 2 st [] fun args r => sw_ck False r (sw_M 30 args H (sw_K 70 77 none ls r Q))) := sw_A_step (cc := cL_moved) rfl dL_moved_74 rfl ls st H Q
theorem r70_77 : sw_A 70 77 ls st H Q = (sw_i1 False st fun x r => if x = 0 then sw_A 70 111 ls r H Q else sw_A 70 80 ls r H Q) := sw_A_step (cc := cL_moved) rfl dL_moved_77 rfl ls st H Q
theorem r70_80 : sw_A 70 80 ls st H Q = (sw_lda False ls 0 fun x => sw_A 70 81 ls (.ref x :: st) H Q) := sw_A_step (cc := cL_moved) rfl dL_moved_80 rfl ls st H Q
theorem r70_81 : sw_A 70 81 ls st H Q = (sw_ldi False ls 14 fun x => sw_A 70 83 ls (.int x :: st) H Q) := sw_A_step (cc := cL_moved) rfl dL_moved_81 rfl ls st H Q
theorem r70_83 : sw_A 70 83 ls st H Q = (sw_ri False st fun a i r => sw_ald False H 0 a i fun x => sw_A 70 84 ls (.int x :: r) H Q) := sw_A_step (cc := cL_moved) rfl dL_moved_83 rfl ls st H Q
theorem r70_84 : sw_A 70 84 ls st H Q = (sw_ldi False ls 5 fun x => sw_A 70 86 ls (.int x :: st) H Q) := sw_A_step (cc := cL_moved) rfl dL_moved_84 rfl ls st H Q
theorem r70_86 : sw_A 70 86 ls st H Q = (sw_i2 False st fun x y r => if y ≤ x then sw_A 70 111 ls r H Q else sw_A 70 89 ls r H Q) := sw_A_step (cc := cL_moved) rfl dL_moved_86 rfl ls st H Q
theorem r70_89 : sw_A 70 89 ls st H Q = (sw_ldi False ls 14 fun x => sw_A 70 91 ls (.int x :: st) H Q) := sw_A_step (cc := cL_moved) rfl dL_moved_89 rfl ls st H Q
theorem r70_91 : sw_A 70 91 ls st H Q = (sw_A 70 93 ls (.int (Int32.ofInt 6) :: st) H Q) := sw_A_step (cc := cL_moved) rfl dL_moved_91 rfl ls st H Q
theorem r70_93 : sw_A 70 93 ls st H Q = (sw_i2 False st fun x y r => if y = 0 then False else sw_A 70 94 ls (.int (x - x / y * y) :: r) H Q) := sw_A_step (cc := cL_moved) rfl dL_moved_93 rfl ls st H Q
theorem r70_94 : sw_A 70 94 ls st H Q = (sw_i1 False st fun x r => if x = 0 then sw_A 70 107 ls r H Q else sw_A 70 97 ls r H Q) := sw_A_step (cc := cL_moved) rfl dL_moved_94 rfl ls st H Q
theorem r70_97 : sw_A 70 97 ls st H Q = (sw_ldl False ls 10 fun x => sw_A 70 99 ls (.long x :: st) H Q) := sw_A_step (cc := cL_moved) rfl dL_moved_97 rfl ls st H Q
theorem r70_99 : sw_A 70 99 ls st H Q = (sw_ldi False ls 14 fun x => sw_A 70 101 ls (.int x :: st) H Q) := sw_A_step (cc := cL_moved) rfl dL_moved_99 rfl ls st H Q
theorem r70_101 : sw_A 70 101 ls st H Q = (sw_pop False 2 st [] fun args r => sw_ck False r (sw_M 31 args H (sw_K 70 104 none ls r Q))) := sw_A_step (cc := cL_moved) rfl dL_moved_101 rfl ls st H Q
theorem r70_104 : sw_A 70 104 ls st H Q = (sw_i1 False st fun x r => if x ≤ 0 then sw_A 70 111 ls r H Q else sw_A 70 107 ls r H Q) := sw_A_step (cc := cL_moved) rfl dL_moved_104 rfl ls st H Q
theorem r70_107 : sw_A 70 107 ls st H Q = (sw_A 70 108 ls (.int (Int32.ofInt 1) :: st) H Q) := sw_A_step (cc := cL_moved) rfl dL_moved_107 rfl ls st H Q
theorem r70_108 : sw_A 70 108 ls st H Q = (sw_A 70 158 ls st H Q) := sw_A_step (cc := cL_moved) rfl dL_moved_108 rfl ls st H Q
theorem r70_111 : sw_A 70 111 ls st H Q = (sw_A 70 112 ls (.int (Int32.ofInt 0) :: st) H Q) := sw_A_step (cc := cL_moved) rfl dL_moved_111 rfl ls st H Q
theorem r70_112 : sw_A 70 112 ls st H Q = (sw_A 70 158 ls st H Q) := sw_A_step (cc := cL_moved) rfl dL_moved_112 rfl ls st H Q
theorem r70_115 : sw_A 70 115 ls st H Q = (sw_ldl False ls 10 fun x => sw_A 70 117 ls (.long x :: st) H Q) := sw_A_step (cc := cL_moved) rfl dL_moved_115 rfl ls st H Q
theorem r70_117 : sw_A 70 117 ls st H Q = (sw_ldi False ls 14 fun x => sw_A 70 119 ls (.int x :: st) H Q) := sw_A_step (cc := cL_moved) rfl dL_moved_117 rfl ls st H Q
theorem r70_119 : sw_A 70 119 ls st H Q = (sw_pop False 2 st [] fun args r => sw_ck False r (sw_M 30 args H (sw_K 70 122 none ls r Q))) := sw_A_step (cc := cL_moved) rfl dL_moved_119 rfl ls st H Q
theorem r70_122 : sw_A 70 122 ls st H Q = (sw_i1 False st fun x r => if x = 0 then sw_A 70 157 ls r H Q else sw_A 70 125 ls r H Q) := sw_A_step (cc := cL_moved) rfl dL_moved_122 rfl ls st H Q
theorem r70_125 : sw_A 70 125 ls st H Q = (sw_lda False ls 0 fun x => sw_A 70 126 ls (.ref x :: st) H Q) := sw_A_step (cc := cL_moved) rfl dL_moved_125 rfl ls st H Q
theorem r70_126 : sw_A 70 126 ls st H Q = (sw_ldi False ls 14 fun x => sw_A 70 128 ls (.int x :: st) H Q) := sw_A_step (cc := cL_moved) rfl dL_moved_126 rfl ls st H Q
theorem r70_128 : sw_A 70 128 ls st H Q = (sw_ri False st fun a i r => sw_ald False H 0 a i fun x => sw_A 70 129 ls (.int x :: r) H Q) := sw_A_step (cc := cL_moved) rfl dL_moved_128 rfl ls st H Q
theorem r70_129 : sw_A 70 129 ls st H Q = (sw_ldi False ls 5 fun x => sw_A 70 131 ls (.int x :: st) H Q) := sw_A_step (cc := cL_moved) rfl dL_moved_129 rfl ls st H Q
theorem r70_131 : sw_A 70 131 ls st H Q = (sw_i2 False st fun x y r => if x < y then sw_A 70 157 ls r H Q else sw_A 70 134 ls r H Q) := sw_A_step (cc := cL_moved) rfl dL_moved_131 rfl ls st H Q
theorem r70_134 : sw_A 70 134 ls st H Q = (sw_ldi False ls 14 fun x => sw_A 70 136 ls (.int x :: st) H Q) := sw_A_step (cc := cL_moved) rfl dL_moved_134 rfl ls st H Q
theorem r70_136 : sw_A 70 136 ls st H Q = (sw_A 70 138 ls (.int (Int32.ofInt 6) :: st) H Q) := sw_A_step (cc := cL_moved) rfl dL_moved_136 rfl ls st H Q
theorem r70_138 : sw_A 70 138 ls st H Q = (sw_i2 False st fun x y r => if y = 0 then False else sw_A 70 139 ls (.int (x - x / y * y) :: r) H Q) := sw_A_step (cc := cL_moved) rfl dL_moved_138 rfl ls st H Q
theorem r70_139 : sw_A 70 139 ls st H Q = (sw_A 70 140 ls (.int (Int32.ofInt 5) :: st) H Q) := sw_A_step (cc := cL_moved) rfl dL_moved_139 rfl ls st H Q
theorem r70_140 : sw_A 70 140 ls st H Q = (sw_i2 False st fun x y r => if x = y then sw_A 70 153 ls r H Q else sw_A 70 143 ls r H Q) := sw_A_step (cc := cL_moved) rfl dL_moved_140 rfl ls st H Q
theorem r70_143 : sw_A 70 143 ls st H Q = (sw_ldl False ls 12 fun x => sw_A 70 145 ls (.long x :: st) H Q) := sw_A_step (cc := cL_moved) rfl dL_moved_143 rfl ls st H Q
theorem r70_145 : sw_A 70 145 ls st H Q = (sw_ldi False ls 14 fun x => sw_A 70 147 ls (.int x :: st) H Q) := sw_A_step (cc := cL_moved) rfl dL_moved_145 rfl ls st H Q
theorem r70_147 : sw_A 70 147 ls st H Q = (sw_pop False 2 st [] fun args r => sw_ck False r (sw_M 31 args H (sw_K 70 150 none ls r Q))) := sw_A_step (cc := cL_moved) rfl dL_moved_147 rfl ls st H Q
theorem r70_150 : sw_A 70 150 ls st H Q = (sw_i1 False st fun x r => if x ≤ 0 then sw_A 70 157 ls r H Q else sw_A 70 153 ls r H Q) := sw_A_step (cc := cL_moved) rfl dL_moved_150 rfl ls st H Q
theorem r70_153 : sw_A 70 153 ls st H Q = (sw_A 70 154 ls (.int (Int32.ofInt 1) :: st) H Q) := sw_A_step (cc := cL_moved) rfl dL_moved_153 rfl ls st H Q
theorem r70_154 : sw_A 70 154 ls st H Q = (sw_A 70 158 ls st H Q) := sw_A_step (cc := cL_moved) rfl dL_moved_154 rfl ls st H Q
theorem r70_157 : sw_A 70 157 ls st H Q = (sw_A 70 158 ls (.int (Int32.ofInt 0) :: st) H Q) := sw_A_step (cc := cL_moved) rfl dL_moved_157 rfl ls st H Q
theorem r70_158 : sw_A 70 158 ls st H Q = (sw_has1 False ls 15 (sw_i1 False st fun x r => sw_A 70 160 (sw_set1 ls 15 (.int x)) r H Q)) := sw_A_step (cc := cL_moved) rfl dL_moved_158 rfl ls st H Q
theorem r70_160 : sw_A 70 160 ls st H Q = (sw_ldi False ls 15 fun x => sw_A 70 162 ls (.int x :: st) H Q) := sw_A_step (cc := cL_moved) rfl dL_moved_160 rfl ls st H Q
theorem r70_162 : sw_A 70 162 ls st H Q = (sw_i1 False st fun x r => if x = 0 then sw_A 70 169 ls r H Q else sw_A 70 165 ls r H Q) := sw_A_step (cc := cL_moved) rfl dL_moved_162 rfl ls st H Q
theorem r70_165 : sw_A 70 165 ls st H Q = (sw_ldi False ls 14 fun x => sw_A 70 167 ls (.int x :: st) H Q) := sw_A_step (cc := cL_moved) rfl dL_moved_165 rfl ls st H Q
theorem r70_167 : sw_A 70 167 ls st H Q = (sw_has1 False ls 9 (sw_i1 False st fun x r => sw_A 70 169 (sw_set1 ls 9 (.int x)) r H Q)) := sw_A_step (cc := cL_moved) rfl dL_moved_167 rfl ls st H Q
theorem r70_169 : sw_A 70 169 ls st H Q = (sw_ldi False ls 14 fun x => sw_A 70 172 (sw_set1 ls 14 (.int (x + Int32.ofInt (-1)))) st H Q) := sw_A_step (cc := cL_moved) rfl dL_moved_169 rfl ls st H Q
theorem r70_172 : sw_A 70 172 ls st H Q = (sw_A 70 60 ls st H Q) := sw_A_step (cc := cL_moved) rfl dL_moved_172 rfl ls st H Q
theorem r70_175 : sw_A 70 175 ls st H Q = (sw_ldi False ls 9 fun x => sw_A 70 177 ls (.int x :: st) H Q) := sw_A_step (cc := cL_moved) rfl dL_moved_175 rfl ls st H Q
theorem r70_177 : sw_A 70 177 ls st H Q = (sw_i1 False st fun x r => if x < 0 then sw_A 70 189 ls r H Q else sw_A 70 180 ls r H Q) := sw_A_step (cc := cL_moved) rfl dL_moved_177 rfl ls st H Q
theorem r70_180 : sw_A 70 180 ls st H Q = (sw_ldl False ls 7 fun x => sw_A 70 182 ls (.long x :: st) H Q) := sw_A_step (cc := cL_moved) rfl dL_moved_180 rfl ls st H Q
theorem r70_182 : sw_A 70 182 ls st H Q = (sw_A 70 183 ls (.long (Int64.ofNat 1) :: st) H Q) := sw_A_step (cc := cL_moved) rfl dL_moved_182 rfl ls st H Q
theorem r70_183 : sw_A 70 183 ls st H Q = (sw_ldi False ls 9 fun x => sw_A 70 185 ls (.int x :: st) H Q) := sw_A_step (cc := cL_moved) rfl dL_moved_183 rfl ls st H Q
theorem r70_185 : sw_A 70 185 ls st H Q = (sw_li False st fun x y r => sw_A 70 186 ls (.long (x <<< (y.toInt64 &&& 63)) :: r) H Q) := sw_A_step (cc := cL_moved) rfl dL_moved_185 rfl ls st H Q
theorem r70_186 : sw_A 70 186 ls st H Q = (sw_l2 False st fun x y r => sw_A 70 187 ls (.long (x ^^^ y) :: r) H Q) := sw_A_step (cc := cL_moved) rfl dL_moved_186 rfl ls st H Q
theorem r70_187 : sw_A 70 187 ls st H Q = (sw_has1 False ls 8 (sw_l1 False st fun x r => sw_A 70 189 (sw_set2 ls 7 (.long x)) r H Q)) := sw_A_step (cc := cL_moved) rfl dL_moved_187 rfl ls st H Q
theorem r70_189 : sw_A 70 189 ls st H Q = (sw_A 70 6 ls st H Q) := sw_A_step (cc := cL_moved) rfl dL_moved_189 rfl ls st H Q
theorem r70_192 : sw_A 70 192 ls st H Q = (sw_ldl False ls 7 fun x => sw_A 70 194 ls (.long x :: st) H Q) := sw_A_step (cc := cL_moved) rfl dL_moved_192 rfl ls st H Q
theorem r70_194 : sw_A 70 194 ls st H Q = (match st with | [.long x] => Q (some (some (.long x))) H | _ => False) := sw_A_step (cc := cL_moved) rfl dL_moved_194 rfl ls st H Q
theorem r71_0 : sw_A 71 0 ls st H Q = (sw_ldi False ls 0 fun x => sw_A 71 1 ls (.int x :: st) H Q) := sw_A_step (cc := cX5_homeOf) rfl dX5_homeOf_0 rfl ls st H Q
theorem r71_1 : sw_A 71 1 ls st H Q = (sw_i1 False st fun x r => if x = 0 then sw_A 71 8 ls r H Q else sw_A 71 4 ls r H Q) := sw_A_step (cc := cX5_homeOf) rfl dX5_homeOf_1 rfl ls st H Q
theorem r71_4 : sw_A 71 4 ls st H Q = (sw_A 71 5 ls (.int (Int32.ofInt 1) :: st) H Q) := sw_A_step (cc := cX5_homeOf) rfl dX5_homeOf_4 rfl ls st H Q
theorem r71_5 : sw_A 71 5 ls st H Q = (sw_A 71 9 ls st H Q) := sw_A_step (cc := cX5_homeOf) rfl dX5_homeOf_5 rfl ls st H Q
theorem r71_8 : sw_A 71 8 ls st H Q = (sw_A 71 9 ls (.int (Int32.ofInt 2) :: st) H Q) := sw_A_step (cc := cX5_homeOf) rfl dX5_homeOf_8 rfl ls st H Q
theorem r71_9 : sw_A 71 9 ls st H Q = (match st with | [.int x] => Q (some (some (.int x))) H | _ => False) := sw_A_step (cc := cX5_homeOf) rfl dX5_homeOf_9 rfl ls st H Q
theorem r72_0 : sw_A 72 0 ls st H Q = (sw_ldi False ls 0 fun x => sw_A 72 1 ls (.int x :: st) H Q) := sw_A_step (cc := cX11_isOnSide) rfl dX11_isOnSide_0 rfl ls st H Q
theorem r72_1 : sw_A 72 1 ls st H Q = (sw_ldi False ls 1 fun x => sw_A 72 2 ls (.int x :: st) H Q) := sw_A_step (cc := cX11_isOnSide) rfl dX11_isOnSide_1 rfl ls st H Q
theorem r72_2 : sw_A 72 2 ls st H Q = (sw_pop False 2 st [] fun args r => sw_ck False r (sw_M 32 args H (sw_K 72 5 none ls r Q))) := sw_A_step (cc := cX11_isOnSide) rfl dX11_isOnSide_2 rfl ls st H Q
theorem r72_5 : sw_A 72 5 ls st H Q = (sw_A 72 6 ls (.int (Int32.ofInt (-1)) :: st) H Q) := sw_A_step (cc := cX11_isOnSide) rfl dX11_isOnSide_5 rfl ls st H Q
theorem r72_6 : sw_A 72 6 ls st H Q = (sw_i2 False st fun x y r => if ¬ x = y then sw_A 72 13 ls r H Q else sw_A 72 9 ls r H Q) := sw_A_step (cc := cX11_isOnSide) rfl dX11_isOnSide_6 rfl ls st H Q
theorem r72_9 : sw_A 72 9 ls st H Q = (sw_A 72 10 ls (.int (Int32.ofInt 1) :: st) H Q) := sw_A_step (cc := cX11_isOnSide) rfl dX11_isOnSide_9 rfl ls st H Q
theorem r72_10 : sw_A 72 10 ls st H Q = (sw_A 72 14 ls st H Q) := sw_A_step (cc := cX11_isOnSide) rfl dX11_isOnSide_10 rfl ls st H Q
theorem r72_13 : sw_A 72 13 ls st H Q = (sw_A 72 14 ls (.int (Int32.ofInt 0) :: st) H Q) := sw_A_step (cc := cX11_isOnSide) rfl dX11_isOnSide_13 rfl ls st H Q
theorem r72_14 : sw_A 72 14 ls st H Q = (match st with | [.int x] => (if 2 = 1 ∨ 2 = 2 ∧ (x = 0 ∨ x = 1) then Q (some (some (.int x))) H else False) | _ => False) := sw_A_step (cc := cX11_isOnSide) rfl dX11_isOnSide_14 rfl ls st H Q
theorem r73_0 : sw_A 73 0 ls st H Q = (sw_lda False ls 0 fun x => sw_A 73 1 ls (.ref x :: st) H Q) := sw_A_step (cc := cX5_findHanging) rfl dX5_findHanging_0 rfl ls st H Q
theorem r73_1 : sw_A 73 1 ls st H Q = (sw_r1 False st fun a r => sw_gf False H (some (5, 2, 1)) a fun v => sw_A 73 4 ls (v :: r) H Q) := sw_A_step (cc := cX5_findHanging) rfl dX5_findHanging_1 rfl ls st H Q
theorem r73_4 : sw_A 73 4 ls st H Q = (sw_pop False 1 st [] fun args r => sw_ck False r (sw_rc False H (some 10) args (sw_M 49 args H (sw_K 73 7 none ls r Q)))) := sw_A_step (cc := cX5_findHanging) rfl dX5_findHanging_4 rfl ls st H Q
theorem r73_7 : sw_A 73 7 ls st H Q = (sw_A 73 8 ls (.int (Int32.ofInt 0) :: st) H Q) := sw_A_step (cc := cX5_findHanging) rfl dX5_findHanging_7 rfl ls st H Q
theorem r73_8 : sw_A 73 8 ls st H Q = (sw_has1 False ls 2 (sw_i1 False st fun x r => sw_A 73 9 (sw_set1 ls 2 (.int x)) r H Q)) := sw_A_step (cc := cX5_findHanging) rfl dX5_findHanging_8 rfl ls st H Q
theorem r73_9 : sw_A 73 9 ls st H Q = (sw_ldi False ls 2 fun x => sw_A 73 10 ls (.int x :: st) H Q) := sw_A_step (cc := cX5_findHanging) rfl dX5_findHanging_9 rfl ls st H Q
theorem r73_10 : sw_A 73 10 ls st H Q = (sw_A 73 12 ls (.int (Int32.ofInt 36) :: st) H Q) := sw_A_step (cc := cX5_findHanging) rfl dX5_findHanging_10 rfl ls st H Q
theorem r73_12 : sw_A 73 12 ls st H Q = (sw_i2 False st fun x y r => if y ≤ x then sw_A 73 71 ls r H Q else sw_A 73 15 ls r H Q) := sw_A_step (cc := cX5_findHanging) rfl dX5_findHanging_12 rfl ls st H Q
theorem r73_15 : sw_A 73 15 ls st H Q = (sw_lda False ls 0 fun x => sw_A 73 16 ls (.ref x :: st) H Q) := sw_A_step (cc := cX5_findHanging) rfl dX5_findHanging_15 rfl ls st H Q
theorem r73_16 : sw_A 73 16 ls st H Q = (sw_r1 False st fun a r => sw_gf False H (some (5, 1, 1)) a fun v => sw_A 73 19 ls (v :: r) H Q) := sw_A_step (cc := cX5_findHanging) rfl dX5_findHanging_16 rfl ls st H Q
theorem r73_19 : sw_A 73 19 ls st H Q = (sw_ldi False ls 2 fun x => sw_A 73 20 ls (.int x :: st) H Q) := sw_A_step (cc := cX5_findHanging) rfl dX5_findHanging_19 rfl ls st H Q
theorem r73_20 : sw_A 73 20 ls st H Q = (sw_lda False ls 1 fun x => sw_A 73 21 ls (.ref x :: st) H Q) := sw_A_step (cc := cX5_findHanging) rfl dX5_findHanging_20 rfl ls st H Q
theorem r73_21 : sw_A 73 21 ls st H Q = (sw_ldi False ls 2 fun x => sw_A 73 22 ls (.int x :: st) H Q) := sw_A_step (cc := cX5_findHanging) rfl dX5_findHanging_21 rfl ls st H Q
theorem r73_22 : sw_A 73 22 ls st H Q = (sw_ri False st fun a i r => sw_ald False H 1 a i fun x => sw_A 73 23 ls (.int x :: r) H Q) := sw_A_step (cc := cX5_findHanging) rfl dX5_findHanging_22 rfl ls st H Q
theorem r73_23 : sw_A 73 23 ls st H Q = (sw_i1 False st fun x r => if ¬ x = 0 then sw_A 73 46 ls r H Q else sw_A 73 26 ls r H Q) := sw_A_step (cc := cX5_findHanging) rfl dX5_findHanging_23 rfl ls st H Q
theorem r73_26 : sw_A 73 26 ls st H Q = (sw_ldi False ls 2 fun x => sw_A 73 27 ls (.int x :: st) H Q) := sw_A_step (cc := cX5_findHanging) rfl dX5_findHanging_26 rfl ls st H Q
theorem r73_27 : sw_A 73 27 ls st H Q = (sw_lda False ls 0 fun x => sw_A 73 28 ls (.ref x :: st) H Q) := sw_A_step (cc := cX5_findHanging) rfl dX5_findHanging_27 rfl ls st H Q
theorem r73_28 : sw_A 73 28 ls st H Q = (sw_r1 False st fun a r => sw_gf False H (some (5, 0, 1)) a fun v => sw_A 73 31 ls (v :: r) H Q) := sw_A_step (cc := cX5_findHanging) rfl dX5_findHanging_28 rfl ls st H Q
theorem r73_31 : sw_A 73 31 ls st H Q = (sw_ldi False ls 2 fun x => sw_A 73 32 ls (.int x :: st) H Q) := sw_A_step (cc := cX5_findHanging) rfl dX5_findHanging_31 rfl ls st H Q
theorem r73_32 : sw_A 73 32 ls st H Q = (sw_ri False st fun a i r => sw_ald False H 1 a i fun x => sw_A 73 33 ls (.int x :: r) H Q) := sw_A_step (cc := cX5_findHanging) rfl dX5_findHanging_32 rfl ls st H Q
theorem r73_33 : sw_A 73 33 ls st H Q = (sw_pop False 1 st [] fun args r => sw_ck False r (sw_M 71 args H (sw_K 73 36 none ls r Q))) := sw_A_step (cc := cX5_findHanging) rfl dX5_findHanging_33 rfl ls st H Q
theorem r73_36 : sw_A 73 36 ls st H Q = (sw_pop False 2 st [] fun args r => sw_ck False r (sw_M 72 args H (sw_K 73 39 none ls r Q))) := sw_A_step (cc := cX5_findHanging) rfl dX5_findHanging_36 rfl ls st H Q
theorem r73_39 : sw_A 73 39 ls st H Q = (sw_i1 False st fun x r => if x = 0 then sw_A 73 46 ls r H Q else sw_A 73 42 ls r H Q) := sw_A_step (cc := cX5_findHanging) rfl dX5_findHanging_39 rfl ls st H Q
theorem r73_42 : sw_A 73 42 ls st H Q = (sw_A 73 43 ls (.int (Int32.ofInt 1) :: st) H Q) := sw_A_step (cc := cX5_findHanging) rfl dX5_findHanging_42 rfl ls st H Q
theorem r73_43 : sw_A 73 43 ls st H Q = (sw_A 73 47 ls st H Q) := sw_A_step (cc := cX5_findHanging) rfl dX5_findHanging_43 rfl ls st H Q
theorem r73_46 : sw_A 73 46 ls st H Q = (sw_A 73 47 ls (.int (Int32.ofInt 0) :: st) H Q) := sw_A_step (cc := cX5_findHanging) rfl dX5_findHanging_46 rfl ls st H Q
theorem r73_47 : sw_A 73 47 ls st H Q = (sw_rix False st fun a i x r => sw_ast False H 1 a i (x &&& 1) fun H1 => sw_A 73 48 ls r H1 Q) := sw_A_step (cc := cX5_findHanging) rfl dX5_findHanging_47 rfl ls st H Q
theorem r73_48 : sw_A 73 48 ls st H Q = (sw_lda False ls 0 fun x => sw_A 73 49 ls (.ref x :: st) H Q) := sw_A_step (cc := cX5_findHanging) rfl dX5_findHanging_48 rfl ls st H Q
theorem r73_49 : sw_A 73 49 ls st H Q = (sw_r1 False st fun a r => sw_gf False H (some (5, 1, 1)) a fun v => sw_A 73 52 ls (v :: r) H Q) := sw_A_step (cc := cX5_findHanging) rfl dX5_findHanging_49 rfl ls st H Q
theorem r73_52 : sw_A 73 52 ls st H Q = (sw_ldi False ls 2 fun x => sw_A 73 53 ls (.int x :: st) H Q) := sw_A_step (cc := cX5_findHanging) rfl dX5_findHanging_52 rfl ls st H Q
theorem r73_53 : sw_A 73 53 ls st H Q = (sw_ri False st fun a i r => sw_ald False H 1 a i fun x => sw_A 73 54 ls (.int x :: r) H Q) := sw_A_step (cc := cX5_findHanging) rfl dX5_findHanging_53 rfl ls st H Q
theorem r73_54 : sw_A 73 54 ls st H Q = (sw_i1 False st fun x r => if x = 0 then sw_A 73 65 ls r H Q else sw_A 73 57 ls r H Q) := sw_A_step (cc := cX5_findHanging) rfl dX5_findHanging_54 rfl ls st H Q
theorem r73_57 : sw_A 73 57 ls st H Q = (sw_lda False ls 0 fun x => sw_A 73 58 ls (.ref x :: st) H Q) := sw_A_step (cc := cX5_findHanging) rfl dX5_findHanging_57 rfl ls st H Q
theorem r73_58 : sw_A 73 58 ls st H Q = (sw_r1 False st fun a r => sw_gf False H (some (5, 2, 1)) a fun v => sw_A 73 61 ls (v :: r) H Q) := sw_A_step (cc := cX5_findHanging) rfl dX5_findHanging_58 rfl ls st H Q
theorem r73_61 : sw_A 73 61 ls st H Q = (sw_ldi False ls 2 fun x => sw_A 73 62 ls (.int x :: st) H Q) := sw_A_step (cc := cX5_findHanging) rfl dX5_findHanging_61 rfl ls st H Q
theorem r73_62 : sw_A 73 62 ls st H Q = (sw_pop False 2 st [] fun args r => sw_ck False r (sw_rc False H (some 10) args (sw_M 50 args H (sw_K 73 65 none ls r Q)))) := sw_A_step (cc := cX5_findHanging) rfl dX5_findHanging_62 rfl ls st H Q
theorem r73_65 : sw_A 73 65 ls st H Q = (sw_ldi False ls 2 fun x => sw_A 73 68 (sw_set1 ls 2 (.int (x + Int32.ofInt 1))) st H Q) := sw_A_step (cc := cX5_findHanging) rfl dX5_findHanging_65 rfl ls st H Q
theorem r73_68 : sw_A 73 68 ls st H Q = (sw_A 73 9 ls st H Q) := sw_A_step (cc := cX5_findHanging) rfl dX5_findHanging_68 rfl ls st H Q
theorem r73_71 : sw_A 73 71 ls st H Q = (sw_A 73 72 ls (.int (Int32.ofInt 0) :: st) H Q) := sw_A_step (cc := cX5_findHanging) rfl dX5_findHanging_71 rfl ls st H Q
theorem r73_72 : sw_A 73 72 ls st H Q = (sw_has1 False ls 2 (sw_i1 False st fun x r => sw_A 73 73 (sw_set1 ls 2 (.int x)) r H Q)) := sw_A_step (cc := cX5_findHanging) rfl dX5_findHanging_72 rfl ls st H Q
theorem r73_73 : sw_A 73 73 ls st H Q = (sw_ldi False ls 2 fun x => sw_A 73 74 ls (.int x :: st) H Q) := sw_A_step (cc := cX5_findHanging) rfl dX5_findHanging_73 rfl ls st H Q
theorem r73_74 : sw_A 73 74 ls st H Q = (sw_A 73 76 ls (.int (Int32.ofInt 36) :: st) H Q) := sw_A_step (cc := cX5_findHanging) rfl dX5_findHanging_74 rfl ls st H Q
theorem r73_76 : sw_A 73 76 ls st H Q = (sw_i2 False st fun x y r => if y ≤ x then sw_A 73 180 ls r H Q else sw_A 73 79 ls r H Q) := sw_A_step (cc := cX5_findHanging) rfl dX5_findHanging_76 rfl ls st H Q
theorem r73_79 : sw_A 73 79 ls st H Q = (sw_lda False ls 0 fun x => sw_A 73 80 ls (.ref x :: st) H Q) := sw_A_step (cc := cX5_findHanging) rfl dX5_findHanging_79 rfl ls st H Q
theorem r73_80 : sw_A 73 80 ls st H Q = (sw_r1 False st fun a r => sw_gf False H (some (5, 2, 1)) a fun v => sw_A 73 83 ls (v :: r) H Q) := sw_A_step (cc := cX5_findHanging) rfl dX5_findHanging_80 rfl ls st H Q
theorem r73_83 : sw_A 73 83 ls st H Q = (sw_pop False 1 st [] fun args r => sw_ck False r (sw_rc False H (some 10) args (sw_M 52 args H (sw_K 73 86 none ls r Q)))) := sw_A_step (cc := cX5_findHanging) rfl dX5_findHanging_83 rfl ls st H Q
theorem r73_86 : sw_A 73 86 ls st H Q = (sw_has1 False ls 3 (sw_i1 False st fun x r => sw_A 73 87 (sw_set1 ls 3 (.int x)) r H Q)) := sw_A_step (cc := cX5_findHanging) rfl dX5_findHanging_86 rfl ls st H Q
theorem r73_87 : sw_A 73 87 ls st H Q = (sw_ldi False ls 3 fun x => sw_A 73 88 ls (.int x :: st) H Q) := sw_A_step (cc := cX5_findHanging) rfl dX5_findHanging_87 rfl ls st H Q
theorem r73_88 : sw_A 73 88 ls st H Q = (sw_A 73 89 ls (.int (Int32.ofInt (-1)) :: st) H Q) := sw_A_step (cc := cX5_findHanging) rfl dX5_findHanging_88 rfl ls st H Q
theorem r73_89 : sw_A 73 89 ls st H Q = (sw_i2 False st fun x y r => if ¬ x = y then sw_A 73 95 ls r H Q else sw_A 73 92 ls r H Q) := sw_A_step (cc := cX5_findHanging) rfl dX5_findHanging_89 rfl ls st H Q
theorem r73_92 : sw_A 73 92 ls st H Q = (sw_A 73 180 ls st H Q) := sw_A_step (cc := cX5_findHanging) rfl dX5_findHanging_92 rfl ls st H Q
theorem r73_95 : sw_A 73 95 ls st H Q = (sw_A 73 96 ls (.int (Int32.ofInt 0) :: st) H Q) := sw_A_step (cc := cX5_findHanging) rfl dX5_findHanging_95 rfl ls st H Q
theorem r73_96 : sw_A 73 96 ls st H Q = (sw_has1 False ls 4 (sw_i1 False st fun x r => sw_A 73 98 (sw_set1 ls 4 (.int x)) r H Q)) := sw_A_step (cc := cX5_findHanging) rfl dX5_findHanging_96 rfl ls st H Q
theorem r73_98 : sw_A 73 98 ls st H Q = (sw_ldi False ls 4 fun x => sw_A 73 100 ls (.int x :: st) H Q) := sw_A_step (cc := cX5_findHanging) rfl dX5_findHanging_98 rfl ls st H Q
theorem r73_100 : sw_A 73 100 ls st H Q = (sw_A 73 101 ls (.int (Int32.ofInt 4) :: st) H Q) := sw_A_step (cc := cX5_findHanging) rfl dX5_findHanging_100 rfl ls st H Q
theorem r73_101 : sw_A 73 101 ls st H Q = (sw_i2 False st fun x y r => if y ≤ x then sw_A 73 174 ls r H Q else sw_A 73 104 ls r H Q) := sw_A_step (cc := cX5_findHanging) rfl dX5_findHanging_101 rfl ls st H Q
theorem r73_104 : sw_A 73 104 ls st H Q = (sw_ldi False ls 3 fun x => sw_A 73 105 ls (.int x :: st) H Q) := sw_A_step (cc := cX5_findHanging) rfl dX5_findHanging_104 rfl ls st H Q
theorem r73_105 : sw_A 73 105 ls st H Q = (sw_ldi False ls 4 fun x => sw_A 73 107 ls (.int x :: st) H Q) := sw_A_step (cc := cX5_findHanging) rfl dX5_findHanging_105 rfl ls st H Q
theorem r73_107 : sw_A 73 107 ls st H Q = (sw_pop False 2 st [] fun args r => sw_ck False r (sw_M 32 args H (sw_K 73 110 none ls r Q))) := sw_A_step (cc := cX5_findHanging) rfl dX5_findHanging_107 rfl ls st H Q
theorem r73_110 : sw_A 73 110 ls st H Q = (sw_has1 False ls 5 (sw_i1 False st fun x r => sw_A 73 112 (sw_set1 ls 5 (.int x)) r H Q)) := sw_A_step (cc := cX5_findHanging) rfl dX5_findHanging_110 rfl ls st H Q
theorem r73_112 : sw_A 73 112 ls st H Q = (sw_ldi False ls 5 fun x => sw_A 73 114 ls (.int x :: st) H Q) := sw_A_step (cc := cX5_findHanging) rfl dX5_findHanging_112 rfl ls st H Q
theorem r73_114 : sw_A 73 114 ls st H Q = (sw_A 73 115 ls (.int (Int32.ofInt (-1)) :: st) H Q) := sw_A_step (cc := cX5_findHanging) rfl dX5_findHanging_114 rfl ls st H Q
theorem r73_115 : sw_A 73 115 ls st H Q = (sw_i2 False st fun x y r => if x = y then sw_A 73 168 ls r H Q else sw_A 73 118 ls r H Q) := sw_A_step (cc := cX5_findHanging) rfl dX5_findHanging_115 rfl ls st H Q
theorem r73_118 : sw_A 73 118 ls st H Q = (sw_lda False ls 0 fun x => sw_A 73 119 ls (.ref x :: st) H Q) := sw_A_step (cc := cX5_findHanging) rfl dX5_findHanging_118 rfl ls st H Q
theorem r73_119 : sw_A 73 119 ls st H Q = (sw_r1 False st fun a r => sw_gf False H (some (5, 1, 1)) a fun v => sw_A 73 122 ls (v :: r) H Q) := sw_A_step (cc := cX5_findHanging) rfl dX5_findHanging_119 rfl ls st H Q
theorem r73_122 : sw_A 73 122 ls st H Q = (sw_ldi False ls 5 fun x => sw_A 73 124 ls (.int x :: st) H Q) := sw_A_step (cc := cX5_findHanging) rfl dX5_findHanging_122 rfl ls st H Q
theorem r73_124 : sw_A 73 124 ls st H Q = (sw_ri False st fun a i r => sw_ald False H 1 a i fun x => sw_A 73 125 ls (.int x :: r) H Q) := sw_A_step (cc := cX5_findHanging) rfl dX5_findHanging_124 rfl ls st H Q
theorem r73_125 : sw_A 73 125 ls st H Q = (sw_i1 False st fun x r => if ¬ x = 0 then sw_A 73 168 ls r H Q else sw_A 73 128 ls r H Q) := sw_A_step (cc := cX5_findHanging) rfl dX5_findHanging_125 rfl ls st H Q
theorem r73_128 : sw_A 73 128 ls st H Q = (sw_lda False ls 1 fun x => sw_A 73 129 ls (.ref x :: st) H Q) := sw_A_step (cc := cX5_findHanging) rfl dX5_findHanging_128 rfl ls st H Q
theorem r73_129 : sw_A 73 129 ls st H Q = (sw_ldi False ls 5 fun x => sw_A 73 131 ls (.int x :: st) H Q) := sw_A_step (cc := cX5_findHanging) rfl dX5_findHanging_129 rfl ls st H Q
theorem r73_131 : sw_A 73 131 ls st H Q = (sw_ri False st fun a i r => sw_ald False H 1 a i fun x => sw_A 73 132 ls (.int x :: r) H Q) := sw_A_step (cc := cX5_findHanging) rfl dX5_findHanging_131 rfl ls st H Q
theorem r73_132 : sw_A 73 132 ls st H Q = (sw_i1 False st fun x r => if ¬ x = 0 then sw_A 73 168 ls r H Q else sw_A 73 135 ls r H Q) := sw_A_step (cc := cX5_findHanging) rfl dX5_findHanging_132 rfl ls st H Q
theorem r73_135 : sw_A 73 135 ls st H Q = (sw_lda False ls 0 fun x => sw_A 73 136 ls (.ref x :: st) H Q) := sw_A_step (cc := cX5_findHanging) rfl dX5_findHanging_135 rfl ls st H Q
theorem r73_136 : sw_A 73 136 ls st H Q = (sw_r1 False st fun a r => sw_gf False H (some (5, 0, 1)) a fun v => sw_A 73 139 ls (v :: r) H Q) := sw_A_step (cc := cX5_findHanging) rfl dX5_findHanging_136 rfl ls st H Q
theorem r73_139 : sw_A 73 139 ls st H Q = (sw_ldi False ls 5 fun x => sw_A 73 141 ls (.int x :: st) H Q) := sw_A_step (cc := cX5_findHanging) rfl dX5_findHanging_139 rfl ls st H Q
theorem r73_141 : sw_A 73 141 ls st H Q = (sw_ri False st fun a i r => sw_ald False H 1 a i fun x => sw_A 73 142 ls (.int x :: r) H Q) := sw_A_step (cc := cX5_findHanging) rfl dX5_findHanging_141 rfl ls st H Q
theorem r73_142 : sw_A 73 142 ls st H Q = (sw_lda False ls 0 fun x => sw_A 73 143 ls (.ref x :: st) H Q) := sw_A_step (cc := cX5_findHanging) rfl dX5_findHanging_142 rfl ls st H Q
theorem r73_143 : sw_A 73 143 ls st H Q = (sw_r1 False st fun a r => sw_gf False H (some (5, 0, 1)) a fun v => sw_A 73 146 ls (v :: r) H Q) := sw_A_step (cc := cX5_findHanging) rfl dX5_findHanging_143 rfl ls st H Q
theorem r73_146 : sw_A 73 146 ls st H Q = (sw_ldi False ls 3 fun x => sw_A 73 147 ls (.int x :: st) H Q) := sw_A_step (cc := cX5_findHanging) rfl dX5_findHanging_146 rfl ls st H Q
theorem r73_147 : sw_A 73 147 ls st H Q = (sw_ri False st fun a i r => sw_ald False H 1 a i fun x => sw_A 73 148 ls (.int x :: r) H Q) := sw_A_step (cc := cX5_findHanging) rfl dX5_findHanging_147 rfl ls st H Q
theorem r73_148 : sw_A 73 148 ls st H Q = (sw_i2 False st fun x y r => if ¬ x = y then sw_A 73 168 ls r H Q else sw_A 73 151 ls r H Q) := sw_A_step (cc := cX5_findHanging) rfl dX5_findHanging_148 rfl ls st H Q
theorem r73_151 : sw_A 73 151 ls st H Q = (sw_lda False ls 0 fun x => sw_A 73 152 ls (.ref x :: st) H Q) := sw_A_step (cc := cX5_findHanging) rfl dX5_findHanging_151 rfl ls st H Q
theorem r73_152 : sw_A 73 152 ls st H Q = (sw_r1 False st fun a r => sw_gf False H (some (5, 1, 1)) a fun v => sw_A 73 155 ls (v :: r) H Q) := sw_A_step (cc := cX5_findHanging) rfl dX5_findHanging_152 rfl ls st H Q
theorem r73_155 : sw_A 73 155 ls st H Q = (sw_ldi False ls 5 fun x => sw_A 73 157 ls (.int x :: st) H Q) := sw_A_step (cc := cX5_findHanging) rfl dX5_findHanging_155 rfl ls st H Q
theorem r73_157 : sw_A 73 157 ls st H Q = (sw_A 73 158 ls (.int (Int32.ofInt 1) :: st) H Q) := sw_A_step (cc := cX5_findHanging) rfl dX5_findHanging_157 rfl ls st H Q
theorem r73_158 : sw_A 73 158 ls st H Q = (sw_rix False st fun a i x r => sw_ast False H 1 a i (x &&& 1) fun H1 => sw_A 73 159 ls r H1 Q) := sw_A_step (cc := cX5_findHanging) rfl dX5_findHanging_158 rfl ls st H Q
theorem r73_159 : sw_A 73 159 ls st H Q = (sw_lda False ls 0 fun x => sw_A 73 160 ls (.ref x :: st) H Q) := sw_A_step (cc := cX5_findHanging) rfl dX5_findHanging_159 rfl ls st H Q
theorem r73_160 : sw_A 73 160 ls st H Q = (sw_r1 False st fun a r => sw_gf False H (some (5, 2, 1)) a fun v => sw_A 73 163 ls (v :: r) H Q) := sw_A_step (cc := cX5_findHanging) rfl dX5_findHanging_160 rfl ls st H Q
theorem r73_163 : sw_A 73 163 ls st H Q = (sw_ldi False ls 5 fun x => sw_A 73 165 ls (.int x :: st) H Q) := sw_A_step (cc := cX5_findHanging) rfl dX5_findHanging_163 rfl ls st H Q
theorem r73_165 : sw_A 73 165 ls st H Q = (sw_pop False 2 st [] fun args r => sw_ck False r (sw_rc False H (some 10) args (sw_M 50 args H (sw_K 73 168 none ls r Q)))) := sw_A_step (cc := cX5_findHanging) rfl dX5_findHanging_165 rfl ls st H Q
theorem r73_168 : sw_A 73 168 ls st H Q = (sw_ldi False ls 4 fun x => sw_A 73 171 (sw_set1 ls 4 (.int (x + Int32.ofInt 1))) st H Q) := sw_A_step (cc := cX5_findHanging) rfl dX5_findHanging_168 rfl ls st H Q
theorem r73_171 : sw_A 73 171 ls st H Q = (sw_A 73 98 ls st H Q) := sw_A_step (cc := cX5_findHanging) rfl dX5_findHanging_171 rfl ls st H Q
theorem r73_174 : sw_A 73 174 ls st H Q = (sw_ldi False ls 2 fun x => sw_A 73 177 (sw_set1 ls 2 (.int (x + Int32.ofInt 1))) st H Q) := sw_A_step (cc := cX5_findHanging) rfl dX5_findHanging_174 rfl ls st H Q
theorem r73_177 : sw_A 73 177 ls st H Q = (sw_A 73 73 ls st H Q) := sw_A_step (cc := cX5_findHanging) rfl dX5_findHanging_177 rfl ls st H Q
theorem r73_180 : sw_A 73 180 ls st H Q = (match st with | [] => Q (some none) H | _ => False) := sw_A_step (cc := cX5_findHanging) rfl dX5_findHanging_180 rfl ls st H Q
theorem r74_0 : sw_A 74 0 ls st H Q = (sw_ldi False ls 1 fun x => sw_A 74 1 ls (.int x :: st) H Q) := sw_A_step (cc := cX5_isPressed) rfl dX5_isPressed_0 rfl ls st H Q
theorem r74_1 : sw_A 74 1 ls st H Q = (sw_ldi False ls 2 fun x => sw_A 74 2 ls (.int x :: st) H Q) := sw_A_step (cc := cX5_isPressed) rfl dX5_isPressed_1 rfl ls st H Q
theorem r74_2 : sw_A 74 2 ls st H Q = (sw_pop False 1 st [] fun args r => sw_ck False r (sw_M 71 args H (sw_K 74 5 none ls r Q))) := sw_A_step (cc := cX5_isPressed) rfl dX5_isPressed_2 rfl ls st H Q
theorem r74_5 : sw_A 74 5 ls st H Q = (sw_pop False 2 st [] fun args r => sw_ck False r (sw_M 72 args H (sw_K 74 8 none ls r Q))) := sw_A_step (cc := cX5_isPressed) rfl dX5_isPressed_5 rfl ls st H Q
theorem r74_8 : sw_A 74 8 ls st H Q = (sw_i1 False st fun x r => if x = 0 then sw_A 74 13 ls r H Q else sw_A 74 11 ls r H Q) := sw_A_step (cc := cX5_isPressed) rfl dX5_isPressed_8 rfl ls st H Q
theorem r74_11 : sw_A 74 11 ls st H Q = (sw_A 74 12 ls (.int (Int32.ofInt 1) :: st) H Q) := sw_A_step (cc := cX5_isPressed) rfl dX5_isPressed_11 rfl ls st H Q
theorem r74_12 : sw_A 74 12 ls st H Q = (match st with | [.int x] => (if 2 = 1 ∨ 2 = 2 ∧ (x = 0 ∨ x = 1) then Q (some (some (.int x))) H else False) | _ => False) := sw_A_step (cc := cX5_isPressed) rfl dX5_isPressed_12 rfl ls st H Q
theorem r74_13 : sw_A 74 13 ls st H Q = (sw_A 74 14 ls (.int (Int32.ofInt 0) :: st) H Q) := sw_A_step (cc := cX5_isPressed) rfl dX5_isPressed_13 rfl ls st H Q
theorem r74_14 : sw_A 74 14 ls st H Q = (sw_has1 False ls 3 (sw_i1 False st fun x r => sw_A 74 15 (sw_set1 ls 3 (.int x)) r H Q)) := sw_A_step (cc := cX5_isPressed) rfl dX5_isPressed_14 rfl ls st H Q
theorem r74_15 : sw_A 74 15 ls st H Q = (sw_ldi False ls 3 fun x => sw_A 74 16 ls (.int x :: st) H Q) := sw_A_step (cc := cX5_isPressed) rfl dX5_isPressed_15 rfl ls st H Q
theorem r74_16 : sw_A 74 16 ls st H Q = (sw_A 74 17 ls (.int (Int32.ofInt 4) :: st) H Q) := sw_A_step (cc := cX5_isPressed) rfl dX5_isPressed_16 rfl ls st H Q
theorem r74_17 : sw_A 74 17 ls st H Q = (sw_i2 False st fun x y r => if y ≤ x then sw_A 74 62 ls r H Q else sw_A 74 20 ls r H Q) := sw_A_step (cc := cX5_isPressed) rfl dX5_isPressed_17 rfl ls st H Q
theorem r74_20 : sw_A 74 20 ls st H Q = (sw_ldi False ls 1 fun x => sw_A 74 21 ls (.int x :: st) H Q) := sw_A_step (cc := cX5_isPressed) rfl dX5_isPressed_20 rfl ls st H Q
theorem r74_21 : sw_A 74 21 ls st H Q = (sw_ldi False ls 3 fun x => sw_A 74 22 ls (.int x :: st) H Q) := sw_A_step (cc := cX5_isPressed) rfl dX5_isPressed_21 rfl ls st H Q
theorem r74_22 : sw_A 74 22 ls st H Q = (sw_pop False 2 st [] fun args r => sw_ck False r (sw_M 32 args H (sw_K 74 25 none ls r Q))) := sw_A_step (cc := cX5_isPressed) rfl dX5_isPressed_22 rfl ls st H Q
theorem r74_25 : sw_A 74 25 ls st H Q = (sw_has1 False ls 4 (sw_i1 False st fun x r => sw_A 74 27 (sw_set1 ls 4 (.int x)) r H Q)) := sw_A_step (cc := cX5_isPressed) rfl dX5_isPressed_25 rfl ls st H Q
theorem r74_27 : sw_A 74 27 ls st H Q = (sw_ldi False ls 4 fun x => sw_A 74 29 ls (.int x :: st) H Q) := sw_A_step (cc := cX5_isPressed) rfl dX5_isPressed_27 rfl ls st H Q
theorem r74_29 : sw_A 74 29 ls st H Q = (sw_A 74 30 ls (.int (Int32.ofInt (-1)) :: st) H Q) := sw_A_step (cc := cX5_isPressed) rfl dX5_isPressed_29 rfl ls st H Q
theorem r74_30 : sw_A 74 30 ls st H Q = (sw_i2 False st fun x y r => if x = y then sw_A 74 56 ls r H Q else sw_A 74 33 ls r H Q) := sw_A_step (cc := cX5_isPressed) rfl dX5_isPressed_30 rfl ls st H Q
theorem r74_33 : sw_A 74 33 ls st H Q = (sw_lda False ls 0 fun x => sw_A 74 34 ls (.ref x :: st) H Q) := sw_A_step (cc := cX5_isPressed) rfl dX5_isPressed_33 rfl ls st H Q
theorem r74_34 : sw_A 74 34 ls st H Q = (sw_r1 False st fun a r => sw_gf False H (some (5, 1, 1)) a fun v => sw_A 74 37 ls (v :: r) H Q) := sw_A_step (cc := cX5_isPressed) rfl dX5_isPressed_34 rfl ls st H Q
theorem r74_37 : sw_A 74 37 ls st H Q = (sw_ldi False ls 4 fun x => sw_A 74 39 ls (.int x :: st) H Q) := sw_A_step (cc := cX5_isPressed) rfl dX5_isPressed_37 rfl ls st H Q
theorem r74_39 : sw_A 74 39 ls st H Q = (sw_ri False st fun a i r => sw_ald False H 1 a i fun x => sw_A 74 40 ls (.int x :: r) H Q) := sw_A_step (cc := cX5_isPressed) rfl dX5_isPressed_39 rfl ls st H Q
theorem r74_40 : sw_A 74 40 ls st H Q = (sw_i1 False st fun x r => if x = 0 then sw_A 74 56 ls r H Q else sw_A 74 43 ls r H Q) := sw_A_step (cc := cX5_isPressed) rfl dX5_isPressed_40 rfl ls st H Q
theorem r74_43 : sw_A 74 43 ls st H Q = (sw_lda False ls 0 fun x => sw_A 74 44 ls (.ref x :: st) H Q) := sw_A_step (cc := cX5_isPressed) rfl dX5_isPressed_43 rfl ls st H Q
theorem r74_44 : sw_A 74 44 ls st H Q = (sw_r1 False st fun a r => sw_gf False H (some (5, 0, 1)) a fun v => sw_A 74 47 ls (v :: r) H Q) := sw_A_step (cc := cX5_isPressed) rfl dX5_isPressed_44 rfl ls st H Q
theorem r74_47 : sw_A 74 47 ls st H Q = (sw_ldi False ls 4 fun x => sw_A 74 49 ls (.int x :: st) H Q) := sw_A_step (cc := cX5_isPressed) rfl dX5_isPressed_47 rfl ls st H Q
theorem r74_49 : sw_A 74 49 ls st H Q = (sw_ri False st fun a i r => sw_ald False H 1 a i fun x => sw_A 74 50 ls (.int x :: r) H Q) := sw_A_step (cc := cX5_isPressed) rfl dX5_isPressed_49 rfl ls st H Q
theorem r74_50 : sw_A 74 50 ls st H Q = (sw_ldi False ls 2 fun x => sw_A 74 51 ls (.int x :: st) H Q) := sw_A_step (cc := cX5_isPressed) rfl dX5_isPressed_50 rfl ls st H Q
theorem r74_51 : sw_A 74 51 ls st H Q = (sw_i2 False st fun x y r => if ¬ x = y then sw_A 74 56 ls r H Q else sw_A 74 54 ls r H Q) := sw_A_step (cc := cX5_isPressed) rfl dX5_isPressed_51 rfl ls st H Q
theorem r74_54 : sw_A 74 54 ls st H Q = (sw_A 74 55 ls (.int (Int32.ofInt 1) :: st) H Q) := sw_A_step (cc := cX5_isPressed) rfl dX5_isPressed_54 rfl ls st H Q
theorem r74_55 : sw_A 74 55 ls st H Q = (match st with | [.int x] => (if 2 = 1 ∨ 2 = 2 ∧ (x = 0 ∨ x = 1) then Q (some (some (.int x))) H else False) | _ => False) := sw_A_step (cc := cX5_isPressed) rfl dX5_isPressed_55 rfl ls st H Q
theorem r74_56 : sw_A 74 56 ls st H Q = (sw_ldi False ls 3 fun x => sw_A 74 59 (sw_set1 ls 3 (.int (x + Int32.ofInt 1))) st H Q) := sw_A_step (cc := cX5_isPressed) rfl dX5_isPressed_56 rfl ls st H Q
theorem r74_59 : sw_A 74 59 ls st H Q = (sw_A 74 15 ls st H Q) := sw_A_step (cc := cX5_isPressed) rfl dX5_isPressed_59 rfl ls st H Q
theorem r74_62 : sw_A 74 62 ls st H Q = (sw_A 74 63 ls (.int (Int32.ofInt 0) :: st) H Q) := sw_A_step (cc := cX5_isPressed) rfl dX5_isPressed_62 rfl ls st H Q
theorem r74_63 : sw_A 74 63 ls st H Q = (match st with | [.int x] => (if 2 = 1 ∨ 2 = 2 ∧ (x = 0 ∨ x = 1) then Q (some (some (.int x))) H else False) | _ => False) := sw_A_step (cc := cX5_isPressed) rfl dX5_isPressed_63 rfl ls st H Q
theorem r75_0 : sw_A 75 0 ls st H Q = (sw_A 75 1 ls (.int (Int32.ofInt 0) :: st) H Q) := sw_A_step (cc := cX5_nextPushed) rfl dX5_nextPushed_0 rfl ls st H Q
theorem r75_1 : sw_A 75 1 ls st H Q = (sw_has1 False ls 4 (sw_i1 False st fun x r => sw_A 75 3 (sw_set1 ls 4 (.int x)) r H Q)) := sw_A_step (cc := cX5_nextPushed) rfl dX5_nextPushed_1 rfl ls st H Q
theorem r75_3 : sw_A 75 3 ls st H Q = (sw_ldi False ls 4 fun x => sw_A 75 5 ls (.int x :: st) H Q) := sw_A_step (cc := cX5_nextPushed) rfl dX5_nextPushed_3 rfl ls st H Q
theorem r75_5 : sw_A 75 5 ls st H Q = (sw_A 75 7 ls (.int (Int32.ofInt 36) :: st) H Q) := sw_A_step (cc := cX5_nextPushed) rfl dX5_nextPushed_5 rfl ls st H Q
theorem r75_7 : sw_A 75 7 ls st H Q = (sw_i2 False st fun x y r => if y ≤ x then sw_A 75 94 ls r H Q else sw_A 75 10 ls r H Q) := sw_A_step (cc := cX5_nextPushed) rfl dX5_nextPushed_7 rfl ls st H Q
theorem r75_10 : sw_A 75 10 ls st H Q = (sw_lda False ls 0 fun x => sw_A 75 11 ls (.ref x :: st) H Q) := sw_A_step (cc := cX5_nextPushed) rfl dX5_nextPushed_10 rfl ls st H Q
theorem r75_11 : sw_A 75 11 ls st H Q = (sw_r1 False st fun a r => sw_gf False H (some (5, 1, 1)) a fun v => sw_A 75 14 ls (v :: r) H Q) := sw_A_step (cc := cX5_nextPushed) rfl dX5_nextPushed_11 rfl ls st H Q
theorem r75_14 : sw_A 75 14 ls st H Q = (sw_ldi False ls 4 fun x => sw_A 75 16 ls (.int x :: st) H Q) := sw_A_step (cc := cX5_nextPushed) rfl dX5_nextPushed_14 rfl ls st H Q
theorem r75_16 : sw_A 75 16 ls st H Q = (sw_ri False st fun a i r => sw_ald False H 1 a i fun x => sw_A 75 17 ls (.int x :: r) H Q) := sw_A_step (cc := cX5_nextPushed) rfl dX5_nextPushed_16 rfl ls st H Q
theorem r75_17 : sw_A 75 17 ls st H Q = (sw_i1 False st fun x r => if x = 0 then sw_A 75 35 ls r H Q else sw_A 75 20 ls r H Q) := sw_A_step (cc := cX5_nextPushed) rfl dX5_nextPushed_17 rfl ls st H Q
theorem r75_20 : sw_A 75 20 ls st H Q = (sw_lda False ls 0 fun x => sw_A 75 21 ls (.ref x :: st) H Q) := sw_A_step (cc := cX5_nextPushed) rfl dX5_nextPushed_20 rfl ls st H Q
theorem r75_21 : sw_A 75 21 ls st H Q = (sw_r1 False st fun a r => sw_gf False H (some (5, 0, 1)) a fun v => sw_A 75 24 ls (v :: r) H Q) := sw_A_step (cc := cX5_nextPushed) rfl dX5_nextPushed_21 rfl ls st H Q
theorem r75_24 : sw_A 75 24 ls st H Q = (sw_ldi False ls 4 fun x => sw_A 75 26 ls (.int x :: st) H Q) := sw_A_step (cc := cX5_nextPushed) rfl dX5_nextPushed_24 rfl ls st H Q
theorem r75_26 : sw_A 75 26 ls st H Q = (sw_ri False st fun a i r => sw_ald False H 1 a i fun x => sw_A 75 27 ls (.int x :: r) H Q) := sw_A_step (cc := cX5_nextPushed) rfl dX5_nextPushed_26 rfl ls st H Q
theorem r75_27 : sw_A 75 27 ls st H Q = (sw_ldi False ls 3 fun x => sw_A 75 28 ls (.int x :: st) H Q) := sw_A_step (cc := cX5_nextPushed) rfl dX5_nextPushed_27 rfl ls st H Q
theorem r75_28 : sw_A 75 28 ls st H Q = (sw_i2 False st fun x y r => if x = y then sw_A 75 35 ls r H Q else sw_A 75 31 ls r H Q) := sw_A_step (cc := cX5_nextPushed) rfl dX5_nextPushed_28 rfl ls st H Q
theorem r75_31 : sw_A 75 31 ls st H Q = (sw_A 75 32 ls (.int (Int32.ofInt 1) :: st) H Q) := sw_A_step (cc := cX5_nextPushed) rfl dX5_nextPushed_31 rfl ls st H Q
theorem r75_32 : sw_A 75 32 ls st H Q = (sw_A 75 36 ls st H Q) := sw_A_step (cc := cX5_nextPushed) rfl dX5_nextPushed_32 rfl ls st H Q
theorem r75_35 : sw_A 75 35 ls st H Q = (sw_A 75 36 ls (.int (Int32.ofInt 0) :: st) H Q) := sw_A_step (cc := cX5_nextPushed) rfl dX5_nextPushed_35 rfl ls st H Q
theorem r75_36 : sw_A 75 36 ls st H Q = (sw_has1 False ls 5 (sw_i1 False st fun x r => sw_A 75 38 (sw_set1 ls 5 (.int x)) r H Q)) := sw_A_step (cc := cX5_nextPushed) rfl dX5_nextPushed_36 rfl ls st H Q
theorem r75_38 : sw_A 75 38 ls st H Q = (sw_lda False ls 1 fun x => sw_A 75 39 ls (.ref x :: st) H Q) := sw_A_step (cc := cX5_nextPushed) rfl dX5_nextPushed_38 rfl ls st H Q
theorem r75_39 : sw_A 75 39 ls st H Q = (sw_r1 False st fun a r => sw_gf False H (some (8, 1, 3)) a fun v => sw_A 75 42 ls (v :: r) H Q) := sw_A_step (cc := cX5_nextPushed) rfl dX5_nextPushed_39 rfl ls st H Q
theorem r75_42 : sw_A 75 42 ls st H Q = (sw_ldi False ls 4 fun x => sw_A 75 44 ls (.int x :: st) H Q) := sw_A_step (cc := cX5_nextPushed) rfl dX5_nextPushed_42 rfl ls st H Q
theorem r75_44 : sw_A 75 44 ls st H Q = (sw_ri False st fun a i r => sw_ald False H 0 a i fun x => sw_A 75 45 ls (.int x :: r) H Q) := sw_A_step (cc := cX5_nextPushed) rfl dX5_nextPushed_44 rfl ls st H Q
theorem r75_45 : sw_A 75 45 ls st H Q = (sw_ldi False ls 2 fun x => sw_A 75 46 ls (.int x :: st) H Q) := sw_A_step (cc := cX5_nextPushed) rfl dX5_nextPushed_45 rfl ls st H Q
theorem r75_46 : sw_A 75 46 ls st H Q = (sw_i2 False st fun x y r => if y ≤ x then sw_A 75 53 ls r H Q else sw_A 75 49 ls r H Q) := sw_A_step (cc := cX5_nextPushed) rfl dX5_nextPushed_46 rfl ls st H Q
theorem r75_49 : sw_A 75 49 ls st H Q = (sw_A 75 50 ls (.int (Int32.ofInt 1) :: st) H Q) := sw_A_step (cc := cX5_nextPushed) rfl dX5_nextPushed_49 rfl ls st H Q
theorem r75_50 : sw_A 75 50 ls st H Q = (sw_A 75 54 ls st H Q) := sw_A_step (cc := cX5_nextPushed) rfl dX5_nextPushed_50 rfl ls st H Q
theorem r75_53 : sw_A 75 53 ls st H Q = (sw_A 75 54 ls (.int (Int32.ofInt 0) :: st) H Q) := sw_A_step (cc := cX5_nextPushed) rfl dX5_nextPushed_53 rfl ls st H Q
theorem r75_54 : sw_A 75 54 ls st H Q = (sw_ldi False ls 3 fun x => sw_A 75 55 ls (.int x :: st) H Q) := sw_A_step (cc := cX5_nextPushed) rfl dX5_nextPushed_54 rfl ls st H Q
theorem r75_55 : sw_A 75 55 ls st H Q = (sw_i2 False st fun x y r => if ¬ x = y then sw_A 75 62 ls r H Q else sw_A 75 58 ls r H Q) := sw_A_step (cc := cX5_nextPushed) rfl dX5_nextPushed_55 rfl ls st H Q
theorem r75_58 : sw_A 75 58 ls st H Q = (sw_A 75 59 ls (.int (Int32.ofInt 1) :: st) H Q) := sw_A_step (cc := cX5_nextPushed) rfl dX5_nextPushed_58 rfl ls st H Q
theorem r75_59 : sw_A 75 59 ls st H Q = (sw_A 75 63 ls st H Q) := sw_A_step (cc := cX5_nextPushed) rfl dX5_nextPushed_59 rfl ls st H Q
theorem r75_62 : sw_A 75 62 ls st H Q = (sw_A 75 63 ls (.int (Int32.ofInt 0) :: st) H Q) := sw_A_step (cc := cX5_nextPushed) rfl dX5_nextPushed_62 rfl ls st H Q
theorem r75_63 : sw_A 75 63 ls st H Q = (sw_has1 False ls 6 (sw_i1 False st fun x r => sw_A 75 65 (sw_set1 ls 6 (.int x)) r H Q)) := sw_A_step (cc := cX5_nextPushed) rfl dX5_nextPushed_63 rfl ls st H Q
theorem r75_65 : sw_A 75 65 ls st H Q = (sw_ldi False ls 5 fun x => sw_A 75 67 ls (.int x :: st) H Q) := sw_A_step (cc := cX5_nextPushed) rfl dX5_nextPushed_65 rfl ls st H Q
theorem r75_67 : sw_A 75 67 ls st H Q = (sw_i1 False st fun x r => if x = 0 then sw_A 75 88 ls r H Q else sw_A 75 70 ls r H Q) := sw_A_step (cc := cX5_nextPushed) rfl dX5_nextPushed_67 rfl ls st H Q
theorem r75_70 : sw_A 75 70 ls st H Q = (sw_ldi False ls 6 fun x => sw_A 75 72 ls (.int x :: st) H Q) := sw_A_step (cc := cX5_nextPushed) rfl dX5_nextPushed_70 rfl ls st H Q
theorem r75_72 : sw_A 75 72 ls st H Q = (sw_i1 False st fun x r => if x = 0 then sw_A 75 88 ls r H Q else sw_A 75 75 ls r H Q) := sw_A_step (cc := cX5_nextPushed) rfl dX5_nextPushed_72 rfl ls st H Q
theorem r75_75 : sw_A 75 75 ls st H Q = (sw_lda False ls 0 fun x => sw_A 75 76 ls (.ref x :: st) H Q) := sw_A_step (cc := cX5_nextPushed) rfl dX5_nextPushed_75 rfl ls st H Q
theorem r75_76 : sw_A 75 76 ls st H Q = (sw_ldi False ls 4 fun x => sw_A 75 78 ls (.int x :: st) H Q) := sw_A_step (cc := cX5_nextPushed) rfl dX5_nextPushed_76 rfl ls st H Q
theorem r75_78 : sw_A 75 78 ls st H Q = (sw_ldi False ls 3 fun x => sw_A 75 79 ls (.int x :: st) H Q) := sw_A_step (cc := cX5_nextPushed) rfl dX5_nextPushed_78 rfl ls st H Q
theorem r75_79 : sw_A 75 79 ls st H Q = (sw_pop False 3 st [] fun args r => sw_ck False r (sw_rc False H (some 5) args (sw_M 74 args H (sw_K 75 82 none ls r Q)))) := sw_A_step (cc := cX5_nextPushed) rfl dX5_nextPushed_79 rfl ls st H Q
theorem r75_82 : sw_A 75 82 ls st H Q = (sw_i1 False st fun x r => if x = 0 then sw_A 75 88 ls r H Q else sw_A 75 85 ls r H Q) := sw_A_step (cc := cX5_nextPushed) rfl dX5_nextPushed_82 rfl ls st H Q
theorem r75_85 : sw_A 75 85 ls st H Q = (sw_ldi False ls 4 fun x => sw_A 75 87 ls (.int x :: st) H Q) := sw_A_step (cc := cX5_nextPushed) rfl dX5_nextPushed_85 rfl ls st H Q
theorem r75_87 : sw_A 75 87 ls st H Q = (match st with | [.int x] => Q (some (some (.int x))) H | _ => False) := sw_A_step (cc := cX5_nextPushed) rfl dX5_nextPushed_87 rfl ls st H Q
theorem r75_88 : sw_A 75 88 ls st H Q = (sw_ldi False ls 4 fun x => sw_A 75 91 (sw_set1 ls 4 (.int (x + Int32.ofInt 1))) st H Q) := sw_A_step (cc := cX5_nextPushed) rfl dX5_nextPushed_88 rfl ls st H Q
theorem r75_91 : sw_A 75 91 ls st H Q = (sw_A 75 3 ls st H Q) := sw_A_step (cc := cX5_nextPushed) rfl dX5_nextPushed_91 rfl ls st H Q
theorem r75_94 : sw_A 75 94 ls st H Q = (sw_A 75 95 ls (.int (Int32.ofInt (-1)) :: st) H Q) := sw_A_step (cc := cX5_nextPushed) rfl dX5_nextPushed_94 rfl ls st H Q
theorem r75_95 : sw_A 75 95 ls st H Q = (match st with | [.int x] => Q (some (some (.int x))) H | _ => False) := sw_A_step (cc := cX5_nextPushed) rfl dX5_nextPushed_95 rfl ls st H Q
theorem r76_0 : sw_A 76 0 ls st H Q = (sw_A 76 1 ls (.int (Int32.ofInt 0) :: st) H Q) := sw_A_step (cc := cX5_push) rfl dX5_push_0 rfl ls st H Q
theorem r76_1 : sw_A 76 1 ls st H Q = (sw_has1 False ls 5 (sw_i1 False st fun x r => sw_A 76 3 (sw_set1 ls 5 (.int x)) r H Q)) := sw_A_step (cc := cX5_push) rfl dX5_push_1 rfl ls st H Q
theorem r76_3 : sw_A 76 3 ls st H Q = (sw_ldi False ls 5 fun x => sw_A 76 5 ls (.int x :: st) H Q) := sw_A_step (cc := cX5_push) rfl dX5_push_3 rfl ls st H Q
theorem r76_5 : sw_A 76 5 ls st H Q = (sw_A 76 7 ls (.int (Int32.ofInt 36) :: st) H Q) := sw_A_step (cc := cX5_push) rfl dX5_push_5 rfl ls st H Q
theorem r76_7 : sw_A 76 7 ls st H Q = (sw_i2 False st fun x y r => if y ≤ x then sw_A 76 49 ls r H Q else sw_A 76 10 ls r H Q) := sw_A_step (cc := cX5_push) rfl dX5_push_7 rfl ls st H Q
theorem r76_10 : sw_A 76 10 ls st H Q = (sw_lda False ls 0 fun x => sw_A 76 11 ls (.ref x :: st) H Q) := sw_A_step (cc := cX5_push) rfl dX5_push_10 rfl ls st H Q
theorem r76_11 : sw_A 76 11 ls st H Q = (sw_lda False ls 2 fun x => sw_A 76 12 ls (.ref x :: st) H Q) := sw_A_step (cc := cX5_push) rfl dX5_push_11 rfl ls st H Q
theorem r76_12 : sw_A 76 12 ls st H Q = (sw_pop False 2 st [] fun args r => sw_ck False r (sw_rc False H (some 5) args (sw_M 73 args H (sw_K 76 15 none ls r Q)))) := sw_A_step (cc := cX5_push) rfl dX5_push_12 rfl ls st H Q
theorem r76_15 : sw_A 76 15 ls st H Q = (sw_lda False ls 0 fun x => sw_A 76 16 ls (.ref x :: st) H Q) := sw_A_step (cc := cX5_push) rfl dX5_push_15 rfl ls st H Q
theorem r76_16 : sw_A 76 16 ls st H Q = (sw_lda False ls 1 fun x => sw_A 76 17 ls (.ref x :: st) H Q) := sw_A_step (cc := cX5_push) rfl dX5_push_16 rfl ls st H Q
theorem r76_17 : sw_A 76 17 ls st H Q = (sw_ldi False ls 3 fun x => sw_A 76 18 ls (.int x :: st) H Q) := sw_A_step (cc := cX5_push) rfl dX5_push_17 rfl ls st H Q
theorem r76_18 : sw_A 76 18 ls st H Q = (sw_ldi False ls 4 fun x => sw_A 76 20 ls (.int x :: st) H Q) := sw_A_step (cc := cX5_push) rfl dX5_push_18 rfl ls st H Q
theorem r76_20 : sw_A 76 20 ls st H Q = (sw_pop False 4 st [] fun args r => sw_ck False r (sw_rc False H (some 5) args (sw_M 75 args H (sw_K 76 23 none ls r Q)))) := sw_A_step (cc := cX5_push) rfl dX5_push_20 rfl ls st H Q
theorem r76_23 : sw_A 76 23 ls st H Q = (sw_has1 False ls 6 (sw_i1 False st fun x r => sw_A 76 25 (sw_set1 ls 6 (.int x)) r H Q)) := sw_A_step (cc := cX5_push) rfl dX5_push_23 rfl ls st H Q
theorem r76_25 : sw_A 76 25 ls st H Q = (sw_ldi False ls 6 fun x => sw_A 76 27 ls (.int x :: st) H Q) := sw_A_step (cc := cX5_push) rfl dX5_push_25 rfl ls st H Q
theorem r76_27 : sw_A 76 27 ls st H Q = (sw_A 76 28 ls (.int (Int32.ofInt (-1)) :: st) H Q) := sw_A_step (cc := cX5_push) rfl dX5_push_27 rfl ls st H Q
theorem r76_28 : sw_A 76 28 ls st H Q = (sw_i2 False st fun x y r => if ¬ x = y then sw_A 76 34 ls r H Q else sw_A 76 31 ls r H Q) := sw_A_step (cc := cX5_push) rfl dX5_push_28 rfl ls st H Q
theorem r76_31 : sw_A 76 31 ls st H Q = (sw_A 76 49 ls st H Q) := sw_A_step (cc := cX5_push) rfl dX5_push_31 rfl ls st H Q
theorem r76_34 : sw_A 76 34 ls st H Q = (sw_lda False ls 0 fun x => sw_A 76 35 ls (.ref x :: st) H Q) := sw_A_step (cc := cX5_push) rfl dX5_push_34 rfl ls st H Q
theorem r76_35 : sw_A 76 35 ls st H Q = (sw_r1 False st fun a r => sw_gf False H (some (5, 0, 1)) a fun v => sw_A 76 38 ls (v :: r) H Q) := sw_A_step (cc := cX5_push) rfl dX5_push_35 rfl ls st H Q
theorem r76_38 : sw_A 76 38 ls st H Q = (sw_ldi False ls 6 fun x => sw_A 76 40 ls (.int x :: st) H Q) := sw_A_step (cc := cX5_push) rfl dX5_push_38 rfl ls st H Q
theorem r76_40 : sw_A 76 40 ls st H Q = (sw_ldi False ls 4 fun x => sw_A 76 42 ls (.int x :: st) H Q) := sw_A_step (cc := cX5_push) rfl dX5_push_40 rfl ls st H Q
theorem r76_42 : sw_A 76 42 ls st H Q = (sw_rix False st fun a i x r => sw_ast False H 1 a i (x &&& 1) fun H1 => sw_A 76 43 ls r H1 Q) := sw_A_step (cc := cX5_push) rfl dX5_push_42 rfl ls st H Q
theorem r76_43 : sw_A 76 43 ls st H Q = (sw_ldi False ls 5 fun x => sw_A 76 46 (sw_set1 ls 5 (.int (x + Int32.ofInt 1))) st H Q) := sw_A_step (cc := cX5_push) rfl dX5_push_43 rfl ls st H Q
theorem r76_46 : sw_A 76 46 ls st H Q = (sw_A 76 3 ls st H Q) := sw_A_step (cc := cX5_push) rfl dX5_push_46 rfl ls st H Q
theorem r76_49 : sw_A 76 49 ls st H Q = (match st with | [] => Q (some none) H | _ => False) := sw_A_step (cc := cX5_push) rfl dX5_push_49 rfl ls st H Q
theorem r77_0 : sw_A 77 0 ls st H Q = (sw_ldi False ls 1 fun x => sw_A 77 1 ls (.int x :: st) H Q) := sw_A_step (cc := cX11_drain) rfl dX11_drain_0 rfl ls st H Q
theorem r77_1 : sw_A 77 1 ls st H Q = (sw_A 77 2 ls (.int (Int32.ofInt 0) :: st) H Q) := sw_A_step (cc := cX11_drain) rfl dX11_drain_1 rfl ls st H Q
theorem r77_2 : sw_A 77 2 ls st H Q = (sw_A 77 5 ls (.int (Int32.ofInt 1000) :: st) H Q) := sw_A_step (cc := cX11_drain) rfl dX11_drain_2 rfl ls st H Q
theorem r77_5 : sw_A 77 5 ls st H Q = (sw_pop False 3 st [] fun args r => sw_ck False r (sw_M 17 args H (sw_K 77 8 none ls r Q))) := sw_A_step (cc := cX11_drain) rfl dX11_drain_5 rfl ls st H Q
theorem r77_8 : sw_A 77 8 ls st H Q = (sw_lda False ls 0 fun x => sw_A 77 9 ls (.ref x :: st) H Q) := sw_A_step (cc := cX11_drain) rfl dX11_drain_8 rfl ls st H Q
theorem r77_9 : sw_A 77 9 ls st H Q = (sw_r1 False st fun a r => sw_gf False H (some (11, 10, 1)) a fun v => sw_A 77 12 ls (v :: r) H Q) := sw_A_step (cc := cX11_drain) rfl dX11_drain_9 rfl ls st H Q
theorem r77_12 : sw_A 77 12 ls st H Q = (sw_lda False ls 0 fun x => sw_A 77 13 ls (.ref x :: st) H Q) := sw_A_step (cc := cX11_drain) rfl dX11_drain_12 rfl ls st H Q
theorem r77_13 : sw_A 77 13 ls st H Q = (sw_r1 False st fun a r => sw_gf False H (some (11, 0, 1)) a fun v => sw_A 77 16 ls (v :: r) H Q) := sw_A_step (cc := cX11_drain) rfl dX11_drain_13 rfl ls st H Q
theorem r77_16 : sw_A 77 16 ls st H Q = (sw_lda False ls 0 fun x => sw_A 77 17 ls (.ref x :: st) H Q) := sw_A_step (cc := cX11_drain) rfl dX11_drain_16 rfl ls st H Q
theorem r77_17 : sw_A 77 17 ls st H Q = (sw_r1 False st fun a r => sw_gf False H (some (11, 2, 1)) a fun v => sw_A 77 20 ls (v :: r) H Q) := sw_A_step (cc := cX11_drain) rfl dX11_drain_17 rfl ls st H Q
theorem r77_20 : sw_A 77 20 ls st H Q = (sw_r1 False st fun a r => sw_gf False H (some (7, 0, 3)) a fun v => sw_A 77 23 ls (v :: r) H Q) := sw_A_step (cc := cX11_drain) rfl dX11_drain_20 rfl ls st H Q
theorem r77_23 : sw_A 77 23 ls st H Q = (sw_ldi False ls 1 fun x => sw_A 77 24 ls (.int x :: st) H Q) := sw_A_step (cc := cX11_drain) rfl dX11_drain_23 rfl ls st H Q
theorem r77_24 : sw_A 77 24 ls st H Q = (sw_A 77 25 ls (.int (Int32.ofInt 1) :: st) H Q) := sw_A_step (cc := cX11_drain) rfl dX11_drain_24 rfl ls st H Q
theorem r77_25 : sw_A 77 25 ls st H Q = (sw_pop False 5 st [] fun args r => sw_ck False r (sw_rc False H (some 5) args (sw_M 76 args H (sw_K 77 28 none ls r Q)))) := sw_A_step (cc := cX11_drain) rfl dX11_drain_25 rfl ls st H Q
theorem r77_28 : sw_A 77 28 ls st H Q = (sw_lda False ls 0 fun x => sw_A 77 29 ls (.ref x :: st) H Q) := sw_A_step (cc := cX11_drain) rfl dX11_drain_28 rfl ls st H Q
theorem r77_29 : sw_A 77 29 ls st H Q = (sw_r1 False st fun a r => sw_gf False H (some (11, 10, 1)) a fun v => sw_A 77 32 ls (v :: r) H Q) := sw_A_step (cc := cX11_drain) rfl dX11_drain_29 rfl ls st H Q
theorem r77_32 : sw_A 77 32 ls st H Q = (sw_r1 False st fun a r => sw_gf False H (some (5, 0, 3)) a fun v => sw_A 77 35 ls (v :: r) H Q) := sw_A_step (cc := cX11_drain) rfl dX11_drain_32 rfl ls st H Q
theorem r77_35 : sw_A 77 35 ls st H Q = (sw_pop False 1 st [] fun args r => sw_ck False r (sw_M 35 args H (sw_K 77 38 none ls r Q))) := sw_A_step (cc := cX11_drain) rfl dX11_drain_35 rfl ls st H Q
theorem r77_38 : sw_A 77 38 ls st H Q = (match st with | [.int x] => Q (some (some (.int x))) H | _ => False) := sw_A_step (cc := cX11_drain) rfl dX11_drain_38 rfl ls st H Q
theorem r78_0 : sw_A 78 0 ls st H Q = (sw_ldi False ls 1 fun x => sw_A 78 1 ls (.int x :: st) H Q) := sw_A_step (cc := cX11_soak) rfl dX11_soak_0 rfl ls st H Q
theorem r78_1 : sw_A 78 1 ls st H Q = (sw_A 78 2 ls (.int (Int32.ofInt 0) :: st) H Q) := sw_A_step (cc := cX11_soak) rfl dX11_soak_1 rfl ls st H Q
theorem r78_2 : sw_A 78 2 ls st H Q = (sw_A 78 5 ls (.int (Int32.ofInt 1000) :: st) H Q) := sw_A_step (cc := cX11_soak) rfl dX11_soak_2 rfl ls st H Q
theorem r78_5 : sw_A 78 5 ls st H Q = (sw_pop False 3 st [] fun args r => sw_ck False r (sw_M 17 args H (sw_K 78 8 none ls r Q))) := sw_A_step (cc := cX11_soak) rfl dX11_soak_5 rfl ls st H Q
theorem r78_8 : sw_A 78 8 ls st H Q = (sw_lda False ls 0 fun x => sw_A 78 9 ls (.ref x :: st) H Q) := sw_A_step (cc := cX11_soak) rfl dX11_soak_8 rfl ls st H Q
theorem r78_9 : sw_A 78 9 ls st H Q = (sw_r1 False st fun a r => sw_gf False H (some (11, 10, 1)) a fun v => sw_A 78 12 ls (v :: r) H Q) := sw_A_step (cc := cX11_soak) rfl dX11_soak_9 rfl ls st H Q
theorem r78_12 : sw_A 78 12 ls st H Q = (sw_lda False ls 0 fun x => sw_A 78 13 ls (.ref x :: st) H Q) := sw_A_step (cc := cX11_soak) rfl dX11_soak_12 rfl ls st H Q
theorem r78_13 : sw_A 78 13 ls st H Q = (sw_r1 False st fun a r => sw_gf False H (some (11, 0, 1)) a fun v => sw_A 78 16 ls (v :: r) H Q) := sw_A_step (cc := cX11_soak) rfl dX11_soak_13 rfl ls st H Q
theorem r78_16 : sw_A 78 16 ls st H Q = (sw_lda False ls 0 fun x => sw_A 78 17 ls (.ref x :: st) H Q) := sw_A_step (cc := cX11_soak) rfl dX11_soak_16 rfl ls st H Q
theorem r78_17 : sw_A 78 17 ls st H Q = (sw_r1 False st fun a r => sw_gf False H (some (11, 2, 1)) a fun v => sw_A 78 20 ls (v :: r) H Q) := sw_A_step (cc := cX11_soak) rfl dX11_soak_17 rfl ls st H Q
theorem r78_20 : sw_A 78 20 ls st H Q = (sw_r1 False st fun a r => sw_gf False H (some (7, 0, 3)) a fun v => sw_A 78 23 ls (v :: r) H Q) := sw_A_step (cc := cX11_soak) rfl dX11_soak_20 rfl ls st H Q
theorem r78_23 : sw_A 78 23 ls st H Q = (sw_ldi False ls 1 fun x => sw_A 78 24 ls (.int x :: st) H Q) := sw_A_step (cc := cX11_soak) rfl dX11_soak_23 rfl ls st H Q
theorem r78_24 : sw_A 78 24 ls st H Q = (sw_A 78 25 ls (.int (Int32.ofInt 0) :: st) H Q) := sw_A_step (cc := cX11_soak) rfl dX11_soak_24 rfl ls st H Q
theorem r78_25 : sw_A 78 25 ls st H Q = (sw_pop False 5 st [] fun args r => sw_ck False r (sw_rc False H (some 5) args (sw_M 76 args H (sw_K 78 28 none ls r Q)))) := sw_A_step (cc := cX11_soak) rfl dX11_soak_25 rfl ls st H Q
theorem r78_28 : sw_A 78 28 ls st H Q = (sw_lda False ls 0 fun x => sw_A 78 29 ls (.ref x :: st) H Q) := sw_A_step (cc := cX11_soak) rfl dX11_soak_28 rfl ls st H Q
theorem r78_29 : sw_A 78 29 ls st H Q = (sw_r1 False st fun a r => sw_gf False H (some (11, 10, 1)) a fun v => sw_A 78 32 ls (v :: r) H Q) := sw_A_step (cc := cX11_soak) rfl dX11_soak_29 rfl ls st H Q
theorem r78_32 : sw_A 78 32 ls st H Q = (sw_r1 False st fun a r => sw_gf False H (some (5, 0, 3)) a fun v => sw_A 78 35 ls (v :: r) H Q) := sw_A_step (cc := cX11_soak) rfl dX11_soak_32 rfl ls st H Q
theorem r78_35 : sw_A 78 35 ls st H Q = (sw_pop False 1 st [] fun args r => sw_ck False r (sw_M 35 args H (sw_K 78 38 none ls r Q))) := sw_A_step (cc := cX11_soak) rfl dX11_soak_35 rfl ls st H Q
theorem r78_38 : sw_A 78 38 ls st H Q = (match st with | [.int x] => Q (some (some (.int x))) H | _ => False) := sw_A_step (cc := cX11_soak) rfl dX11_soak_38 rfl ls st H Q
end sw_R
