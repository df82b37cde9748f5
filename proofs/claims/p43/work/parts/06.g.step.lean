section sw_R
variable (ls : sw_LS) (st : List Value) (H : sw_HS) (Q : sw_Ot → sw_HS → Prop)
theorem r132_0 : sw_A 132 0 ls st H Q = (sw_lda False ls 0 fun x => sw_A 132 1 ls (.ref x :: st) H Q) := sw_A_step (cc := cX3_rise) rfl dX3_rise_0 rfl ls st H Q
theorem r132_1 : sw_A 132 1 ls st H Q = (sw_pop False 1 st [] fun args r => sw_ck False r (sw_rc False H (some 3) args (sw_M 110 args H (sw_K 132 4 none ls r Q)))) := sw_A_step (cc := cX3_rise) rfl dX3_rise_1 rfl ls st H Q
theorem r132_4 : sw_A 132 4 ls st H Q = (sw_lda False ls 2 fun x => sw_A 132 5 ls (.ref x :: st) H Q) := sw_A_step (cc := cX3_rise) rfl dX3_rise_4 rfl ls st H Q
theorem r132_5 : sw_A 132 5 ls st H Q = (sw_ldi False ls 3 fun x => sw_A 132 6 ls (.int x :: st) H Q) := sw_A_step (cc := cX3_rise) rfl dX3_rise_5 rfl ls st H Q
theorem r132_6 : sw_A 132 6 ls st H Q = (sw_ri False st fun a i r => sw_ald False H 1 a i fun x => sw_A 132 7 ls (.int x :: r) H Q) := sw_A_step (cc := cX3_rise) rfl dX3_rise_6 rfl ls st H Q
theorem r132_7 : sw_A 132 7 ls st H Q = (sw_i1 False st fun x r => if ¬ x = 0 then sw_A 132 16 ls r H Q else sw_A 132 10 ls r H Q) := sw_A_step (cc := cX3_rise) rfl dX3_rise_7 rfl ls st H Q
theorem r132_10 : sw_A 132 10 ls st H Q = (sw_lda False ls 0 fun x => sw_A 132 11 ls (.ref x :: st) H Q) := sw_A_step (cc := cX3_rise) rfl dX3_rise_10 rfl ls st H Q
theorem r132_11 : sw_A 132 11 ls st H Q = (sw_ldi False ls 3 fun x => sw_A 132 12 ls (.int x :: st) H Q) := sw_A_step (cc := cX3_rise) rfl dX3_rise_11 rfl ls st H Q
theorem r132_12 : sw_A 132 12 ls st H Q = (sw_A 132 13 ls (.int (Int32.ofInt 0) :: st) H Q) := sw_A_step (cc := cX3_rise) rfl dX3_rise_12 rfl ls st H Q
theorem r132_13 : sw_A 132 13 ls st H Q = (sw_pop False 3 st [] fun args r => sw_ck False r (sw_rc False H (some 3) args (sw_M 111 args H (sw_K 132 16 none ls r Q)))) := sw_A_step (cc := cX3_rise) rfl dX3_rise_13 rfl ls st H Q
theorem r132_16 : sw_A 132 16 ls st H Q = (sw_A 132 17 ls (.int (Int32.ofInt 0) :: st) H Q) := sw_A_step (cc := cX3_rise) rfl dX3_rise_16 rfl ls st H Q
theorem r132_17 : sw_A 132 17 ls st H Q = (sw_has1 False ls 4 (sw_i1 False st fun x r => sw_A 132 19 (sw_set1 ls 4 (.int x)) r H Q)) := sw_A_step (cc := cX3_rise) rfl dX3_rise_17 rfl ls st H Q
theorem r132_19 : sw_A 132 19 ls st H Q = (sw_ldi False ls 4 fun x => sw_A 132 21 ls (.int x :: st) H Q) := sw_A_step (cc := cX3_rise) rfl dX3_rise_19 rfl ls st H Q
theorem r132_21 : sw_A 132 21 ls st H Q = (sw_A 132 23 ls (.int (Int32.ofInt 36) :: st) H Q) := sw_A_step (cc := cX3_rise) rfl dX3_rise_21 rfl ls st H Q
theorem r132_23 : sw_A 132 23 ls st H Q = (sw_i2 False st fun x y r => if y ≤ x then sw_A 132 112 ls r H Q else sw_A 132 26 ls r H Q) := sw_A_step (cc := cX3_rise) rfl dX3_rise_23 rfl ls st H Q
theorem r132_26 : sw_A 132 26 ls st H Q = (sw_lda False ls 0 fun x => sw_A 132 27 ls (.ref x :: st) H Q) := sw_A_step (cc := cX3_rise) rfl dX3_rise_26 rfl ls st H Q
theorem r132_27 : sw_A 132 27 ls st H Q = (sw_pop False 1 st [] fun args r => sw_ck False r (sw_rc False H (some 3) args (sw_M 113 args H (sw_K 132 30 none ls r Q)))) := sw_A_step (cc := cX3_rise) rfl dX3_rise_27 rfl ls st H Q
theorem r132_30 : sw_A 132 30 ls st H Q = (sw_has1 False ls 5 (sw_i1 False st fun x r => sw_A 132 32 (sw_set1 ls 5 (.int x)) r H Q)) := sw_A_step (cc := cX3_rise) rfl dX3_rise_30 rfl ls st H Q
theorem r132_32 : sw_A 132 32 ls st H Q = (sw_ldi False ls 5 fun x => sw_A 132 34 ls (.int x :: st) H Q) := sw_A_step (cc := cX3_rise) rfl dX3_rise_32 rfl ls st H Q
theorem r132_34 : sw_A 132 34 ls st H Q = (sw_A 132 35 ls (.int (Int32.ofInt (-1)) :: st) H Q) := sw_A_step (cc := cX3_rise) rfl dX3_rise_34 rfl ls st H Q
theorem r132_35 : sw_A 132 35 ls st H Q = (sw_i2 False st fun x y r => if ¬ x = y then sw_A 132 41 ls r H Q else sw_A 132 38 ls r H Q) := sw_A_step (cc := cX3_rise) rfl dX3_rise_35 rfl ls st H Q
theorem r132_38 : sw_A 132 38 ls st H Q = (sw_A 132 112 ls st H Q) := sw_A_step (cc := cX3_rise) rfl dX3_rise_38 rfl ls st H Q
theorem r132_41 : sw_A 132 41 ls st H Q = (sw_A 132 42 ls (.int (Int32.ofInt 0) :: st) H Q) := sw_A_step (cc := cX3_rise) rfl dX3_rise_41 rfl ls st H Q
theorem r132_42 : sw_A 132 42 ls st H Q = (sw_has1 False ls 6 (sw_i1 False st fun x r => sw_A 132 44 (sw_set1 ls 6 (.int x)) r H Q)) := sw_A_step (cc := cX3_rise) rfl dX3_rise_42 rfl ls st H Q
theorem r132_44 : sw_A 132 44 ls st H Q = (sw_ldi False ls 6 fun x => sw_A 132 46 ls (.int x :: st) H Q) := sw_A_step (cc := cX3_rise) rfl dX3_rise_44 rfl ls st H Q
theorem r132_46 : sw_A 132 46 ls st H Q = (sw_A 132 47 ls (.int (Int32.ofInt 4) :: st) H Q) := sw_A_step (cc := cX3_rise) rfl dX3_rise_46 rfl ls st H Q
theorem r132_47 : sw_A 132 47 ls st H Q = (sw_i2 False st fun x y r => if y ≤ x then sw_A 132 106 ls r H Q else sw_A 132 50 ls r H Q) := sw_A_step (cc := cX3_rise) rfl dX3_rise_47 rfl ls st H Q
theorem r132_50 : sw_A 132 50 ls st H Q = (sw_ldi False ls 5 fun x => sw_A 132 52 ls (.int x :: st) H Q) := sw_A_step (cc := cX3_rise) rfl dX3_rise_50 rfl ls st H Q
theorem r132_52 : sw_A 132 52 ls st H Q = (sw_ldi False ls 6 fun x => sw_A 132 54 ls (.int x :: st) H Q) := sw_A_step (cc := cX3_rise) rfl dX3_rise_52 rfl ls st H Q
theorem r132_54 : sw_A 132 54 ls st H Q = (sw_pop False 2 st [] fun args r => sw_ck False r (sw_M 32 args H (sw_K 132 57 none ls r Q))) := sw_A_step (cc := cX3_rise) rfl dX3_rise_54 rfl ls st H Q
theorem r132_57 : sw_A 132 57 ls st H Q = (sw_has1 False ls 7 (sw_i1 False st fun x r => sw_A 132 59 (sw_set1 ls 7 (.int x)) r H Q)) := sw_A_step (cc := cX3_rise) rfl dX3_rise_57 rfl ls st H Q
theorem r132_59 : sw_A 132 59 ls st H Q = (sw_ldi False ls 7 fun x => sw_A 132 61 ls (.int x :: st) H Q) := sw_A_step (cc := cX3_rise) rfl dX3_rise_59 rfl ls st H Q
theorem r132_61 : sw_A 132 61 ls st H Q = (sw_A 132 62 ls (.int (Int32.ofInt (-1)) :: st) H Q) := sw_A_step (cc := cX3_rise) rfl dX3_rise_61 rfl ls st H Q
theorem r132_62 : sw_A 132 62 ls st H Q = (sw_i2 False st fun x y r => if x = y then sw_A 132 100 ls r H Q else sw_A 132 65 ls r H Q) := sw_A_step (cc := cX3_rise) rfl dX3_rise_62 rfl ls st H Q
theorem r132_65 : sw_A 132 65 ls st H Q = (sw_lda False ls 2 fun x => sw_A 132 66 ls (.ref x :: st) H Q) := sw_A_step (cc := cX3_rise) rfl dX3_rise_65 rfl ls st H Q
theorem r132_66 : sw_A 132 66 ls st H Q = (sw_ldi False ls 7 fun x => sw_A 132 68 ls (.int x :: st) H Q) := sw_A_step (cc := cX3_rise) rfl dX3_rise_66 rfl ls st H Q
theorem r132_68 : sw_A 132 68 ls st H Q = (sw_ri False st fun a i r => sw_ald False H 1 a i fun x => sw_A 132 69 ls (.int x :: r) H Q) := sw_A_step (cc := cX3_rise) rfl dX3_rise_68 rfl ls st H Q
theorem r132_69 : sw_A 132 69 ls st H Q = (sw_i1 False st fun x r => if ¬ x = 0 then sw_A 132 100 ls r H Q else sw_A 132 72 ls r H Q) := sw_A_step (cc := cX3_rise) rfl dX3_rise_69 rfl ls st H Q
theorem r132_72 : sw_A 132 72 ls st H Q = (sw_lda False ls 0 fun x => sw_A 132 73 ls (.ref x :: st) H Q) := sw_A_step (cc := cX3_rise) rfl dX3_rise_72 rfl ls st H Q
theorem r132_73 : sw_A 132 73 ls st H Q = (sw_ldi False ls 7 fun x => sw_A 132 75 ls (.int x :: st) H Q) := sw_A_step (cc := cX3_rise) rfl dX3_rise_73 rfl ls st H Q
theorem r132_75 : sw_A 132 75 ls st H Q = (sw_lda False ls 0 fun x => sw_A 132 76 ls (.ref x :: st) H Q) := sw_A_step (cc := cX3_rise) rfl dX3_rise_75 rfl ls st H Q
theorem r132_76 : sw_A 132 76 ls st H Q = (sw_r1 False st fun a r => sw_gf False H (some (3, 0, 1)) a fun v => sw_A 132 79 ls (v :: r) H Q) := sw_A_step (cc := cX3_rise) rfl dX3_rise_76 rfl ls st H Q
theorem r132_79 : sw_A 132 79 ls st H Q = (sw_ldi False ls 5 fun x => sw_A 132 81 ls (.int x :: st) H Q) := sw_A_step (cc := cX3_rise) rfl dX3_rise_79 rfl ls st H Q
theorem r132_81 : sw_A 132 81 ls st H Q = (sw_ri False st fun a i r => sw_ald False H 0 a i fun x => sw_A 132 82 ls (.int x :: r) H Q) := sw_A_step (cc := cX3_rise) rfl dX3_rise_81 rfl ls st H Q
theorem r132_82 : sw_A 132 82 ls st H Q = (sw_lda False ls 1 fun x => sw_A 132 83 ls (.ref x :: st) H Q) := sw_A_step (cc := cX3_rise) rfl dX3_rise_82 rfl ls st H Q
theorem r132_83 : sw_A 132 83 ls st H Q = (sw_r1 False st fun a r => sw_gf False H (some (8, 0, 3)) a fun v => sw_A 132 86 ls (v :: r) H Q) := sw_A_step (cc := cX3_rise) rfl dX3_rise_83 rfl ls st H Q
theorem r132_86 : sw_A 132 86 ls st H Q = (sw_ldi False ls 5 fun x => sw_A 132 88 ls (.int x :: st) H Q) := sw_A_step (cc := cX3_rise) rfl dX3_rise_86 rfl ls st H Q
theorem r132_88 : sw_A 132 88 ls st H Q = (sw_ldi False ls 7 fun x => sw_A 132 90 ls (.int x :: st) H Q) := sw_A_step (cc := cX3_rise) rfl dX3_rise_88 rfl ls st H Q
theorem r132_90 : sw_A 132 90 ls st H Q = (sw_pop False 2 st [] fun args r => sw_ck False r (sw_M 89 args H (sw_K 132 93 none ls r Q))) := sw_A_step (cc := cX3_rise) rfl dX3_rise_90 rfl ls st H Q
theorem r132_93 : sw_A 132 93 ls st H Q = (sw_ri False st fun a i r => sw_ald False H 0 a i fun x => sw_A 132 94 ls (.int x :: r) H Q) := sw_A_step (cc := cX3_rise) rfl dX3_rise_93 rfl ls st H Q
theorem r132_94 : sw_A 132 94 ls st H Q = (sw_i2 False st fun x y r => sw_A 132 95 ls (.int (x + y) :: r) H Q) := sw_A_step (cc := cX3_rise) rfl dX3_rise_94 rfl ls st H Q
theorem r132_95 : sw_A 132 95 ls st H Q = (sw_A 132 96 ls (.int (Int32.ofInt 1) :: st) H Q) := sw_A_step (cc := cX3_rise) rfl dX3_rise_95 rfl ls st H Q
theorem r132_96 : sw_A 132 96 ls st H Q = (sw_i2 False st fun x y r => sw_A 132 97 ls (.int (x + y) :: r) H Q) := sw_A_step (cc := cX3_rise) rfl dX3_rise_96 rfl ls st H Q
theorem r132_97 : sw_A 132 97 ls st H Q = (sw_pop False 3 st [] fun args r => sw_ck False r (sw_rc False H (some 3) args (sw_M 111 args H (sw_K 132 100 none ls r Q)))) := sw_A_step (cc := cX3_rise) rfl dX3_rise_97 rfl ls st H Q
theorem r132_100 : sw_A 132 100 ls st H Q = (sw_ldi False ls 6 fun x => sw_A 132 103 (sw_set1 ls 6 (.int (x + Int32.ofInt 1))) st H Q) := sw_A_step (cc := cX3_rise) rfl dX3_rise_100 rfl ls st H Q
theorem r132_103 : sw_A 132 103 ls st H Q = (sw_A 132 44 ls st H Q) := sw_A_step (cc := cX3_rise) rfl dX3_rise_103 rfl ls st H Q
theorem r132_106 : sw_A 132 106 ls st H Q = (sw_ldi False ls 4 fun x => sw_A 132 109 (sw_set1 ls 4 (.int (x + Int32.ofInt 1))) st H Q) := sw_A_step (cc := cX3_rise) rfl dX3_rise_106 rfl ls st H Q
theorem r132_109 : sw_A 132 109 ls st H Q = (sw_A 132 19 ls st H Q) := sw_A_step (cc := cX3_rise) rfl dX3_rise_109 rfl ls st H Q
theorem r132_112 : sw_A 132 112 ls st H Q = (match st with | [] => Q (some none) H | _ => False) := sw_A_step (cc := cX3_rise) rfl dX3_rise_112 rfl ls st H Q
theorem r133_0 : sw_A 133 0 ls st H Q = (sw_ldi False ls 1 fun x => sw_A 133 1 ls (.int x :: st) H Q) := sw_A_step (cc := cX11_time) rfl dX11_time_0 rfl ls st H Q
theorem r133_1 : sw_A 133 1 ls st H Q = (sw_pop False 1 st [] fun args r => sw_ck False r (sw_M 25 args H (sw_K 133 4 none ls r Q))) := sw_A_step (cc := cX11_time) rfl dX11_time_1 rfl ls st H Q
theorem r133_4 : sw_A 133 4 ls st H Q = (sw_ldi False ls 2 fun x => sw_A 133 5 ls (.int x :: st) H Q) := sw_A_step (cc := cX11_time) rfl dX11_time_4 rfl ls st H Q
theorem r133_5 : sw_A 133 5 ls st H Q = (sw_pop False 1 st [] fun args r => sw_ck False r (sw_M 25 args H (sw_K 133 8 none ls r Q))) := sw_A_step (cc := cX11_time) rfl dX11_time_5 rfl ls st H Q
theorem r133_8 : sw_A 133 8 ls st H Q = (sw_lda False ls 0 fun x => sw_A 133 9 ls (.ref x :: st) H Q) := sw_A_step (cc := cX11_time) rfl dX11_time_8 rfl ls st H Q
theorem r133_9 : sw_A 133 9 ls st H Q = (sw_r1 False st fun a r => sw_gf False H (some (11, 7, 1)) a fun v => sw_A 133 12 ls (v :: r) H Q) := sw_A_step (cc := cX11_time) rfl dX11_time_9 rfl ls st H Q
theorem r133_12 : sw_A 133 12 ls st H Q = (sw_lda False ls 0 fun x => sw_A 133 13 ls (.ref x :: st) H Q) := sw_A_step (cc := cX11_time) rfl dX11_time_12 rfl ls st H Q
theorem r133_13 : sw_A 133 13 ls st H Q = (sw_r1 False st fun a r => sw_gf False H (some (11, 0, 1)) a fun v => sw_A 133 16 ls (v :: r) H Q) := sw_A_step (cc := cX11_time) rfl dX11_time_13 rfl ls st H Q
theorem r133_16 : sw_A 133 16 ls st H Q = (sw_lda False ls 0 fun x => sw_A 133 17 ls (.ref x :: st) H Q) := sw_A_step (cc := cX11_time) rfl dX11_time_16 rfl ls st H Q
theorem r133_17 : sw_A 133 17 ls st H Q = (sw_r1 False st fun a r => sw_gf False H (some (11, 2, 1)) a fun v => sw_A 133 20 ls (v :: r) H Q) := sw_A_step (cc := cX11_time) rfl dX11_time_17 rfl ls st H Q
theorem r133_20 : sw_A 133 20 ls st H Q = (sw_r1 False st fun a r => sw_gf False H (some (7, 0, 3)) a fun v => sw_A 133 23 ls (v :: r) H Q) := sw_A_step (cc := cX11_time) rfl dX11_time_20 rfl ls st H Q
theorem r133_23 : sw_A 133 23 ls st H Q = (sw_ldi False ls 1 fun x => sw_A 133 24 ls (.int x :: st) H Q) := sw_A_step (cc := cX11_time) rfl dX11_time_23 rfl ls st H Q
theorem r133_24 : sw_A 133 24 ls st H Q = (sw_pop False 4 st [] fun args r => sw_ck False r (sw_rc False H (some 3) args (sw_M 132 args H (sw_K 133 27 none ls r Q)))) := sw_A_step (cc := cX11_time) rfl dX11_time_24 rfl ls st H Q
theorem r133_27 : sw_A 133 27 ls st H Q = (sw_lda False ls 0 fun x => sw_A 133 28 ls (.ref x :: st) H Q) := sw_A_step (cc := cX11_time) rfl dX11_time_27 rfl ls st H Q
theorem r133_28 : sw_A 133 28 ls st H Q = (sw_r1 False st fun a r => sw_gf False H (some (11, 7, 1)) a fun v => sw_A 133 31 ls (v :: r) H Q) := sw_A_step (cc := cX11_time) rfl dX11_time_28 rfl ls st H Q
theorem r133_31 : sw_A 133 31 ls st H Q = (sw_r1 False st fun a r => sw_gf False H (some (3, 0, 3)) a fun v => sw_A 133 34 ls (v :: r) H Q) := sw_A_step (cc := cX11_time) rfl dX11_time_31 rfl ls st H Q
theorem r133_34 : sw_A 133 34 ls st H Q = (sw_ldi False ls 2 fun x => sw_A 133 35 ls (.int x :: st) H Q) := sw_A_step (cc := cX11_time) rfl dX11_time_34 rfl ls st H Q
theorem r133_35 : sw_A 133 35 ls st H Q = (sw_ri False st fun a i r => sw_ald False H 0 a i fun x => sw_A 133 36 ls (.int x :: r) H Q) := sw_A_step (cc := cX11_time) rfl dX11_time_35 rfl ls st H Q
theorem r133_36 : sw_A 133 36 ls st H Q = (match st with | [.int x] => Q (some (some (.int x))) H | _ => False) := sw_A_step (cc := cX11_time) rfl dX11_time_36 rfl ls st H Q
theorem r134_0 : sw_A 134 0 ls st H Q = (sw_ldi False ls 1 fun x => sw_A 134 1 ls (.int x :: st) H Q) := sw_A_step (cc := cX11_rival) rfl dX11_rival_0 rfl ls st H Q
theorem r134_1 : sw_A 134 1 ls st H Q = (sw_pop False 1 st [] fun args r => sw_ck False r (sw_M 25 args H (sw_K 134 4 none ls r Q))) := sw_A_step (cc := cX11_rival) rfl dX11_rival_1 rfl ls st H Q
theorem r134_4 : sw_A 134 4 ls st H Q = (sw_ldi False ls 2 fun x => sw_A 134 5 ls (.int x :: st) H Q) := sw_A_step (cc := cX11_rival) rfl dX11_rival_4 rfl ls st H Q
theorem r134_5 : sw_A 134 5 ls st H Q = (sw_pop False 1 st [] fun args r => sw_ck False r (sw_M 25 args H (sw_K 134 8 none ls r Q))) := sw_A_step (cc := cX11_rival) rfl dX11_rival_5 rfl ls st H Q
theorem r134_8 : sw_A 134 8 ls st H Q = (sw_ldi False ls 3 fun x => sw_A 134 9 ls (.int x :: st) H Q) := sw_A_step (cc := cX11_rival) rfl dX11_rival_8 rfl ls st H Q
theorem r134_9 : sw_A 134 9 ls st H Q = (sw_pop False 1 st [] fun args r => sw_ck False r (sw_M 25 args H (sw_K 134 12 none ls r Q))) := sw_A_step (cc := cX11_rival) rfl dX11_rival_9 rfl ls st H Q
theorem r134_12 : sw_A 134 12 ls st H Q = (sw_ldi False ls 1 fun x => sw_A 134 13 ls (.int x :: st) H Q) := sw_A_step (cc := cX11_rival) rfl dX11_rival_12 rfl ls st H Q
theorem r134_13 : sw_A 134 13 ls st H Q = (sw_ldi False ls 2 fun x => sw_A 134 14 ls (.int x :: st) H Q) := sw_A_step (cc := cX11_rival) rfl dX11_rival_13 rfl ls st H Q
theorem r134_14 : sw_A 134 14 ls st H Q = (sw_i2 False st fun x y r => if ¬ x = y then sw_A 134 27 ls r H Q else sw_A 134 17 ls r H Q) := sw_A_step (cc := cX11_rival) rfl dX11_rival_14 rfl ls st H Q
theorem r134_17 : sw_A 134 17 ls st H Q = (False) := sw_A_step (cc := cX11_rival) rfl dX11_rival_17 rfl ls st H Q
theorem r134_20 : sw_A 134 20 ls st H Q = (sw_r1 False st fun a r => sw_A 134 21 ls (.ref a :: .ref a :: r) H Q) := sw_A_step (cc := cX11_rival) rfl dX11_rival_20 rfl ls st H Q
theorem r134_21 : sw_A 134 21 ls st H Q = (False) := sw_A_step (cc := cX11_rival) rfl dX11_rival_21 rfl ls st H Q
theorem r134_23 : sw_A 134 23 ls st H Q = (False) := sw_A_step (cc := cX11_rival) rfl dX11_rival_23 rfl ls st H Q
theorem r134_26 : sw_A 134 26 ls st H Q = (False) := sw_A_step (cc := cX11_rival) rfl dX11_rival_26 rfl ls st H Q
theorem r134_27 : sw_A 134 27 ls st H Q = (sw_lda False ls 0 fun x => sw_A 134 28 ls (.ref x :: st) H Q) := sw_A_step (cc := cX11_rival) rfl dX11_rival_27 rfl ls st H Q
theorem r134_28 : sw_A 134 28 ls st H Q = (sw_ldi False ls 1 fun x => sw_A 134 29 ls (.int x :: st) H Q) := sw_A_step (cc := cX11_rival) rfl dX11_rival_28 rfl ls st H Q
theorem r134_29 : sw_A 134 29 ls st H Q = (sw_ldi False ls 3 fun x => sw_A 134 30 ls (.int x :: st) H Q) := sw_A_step (cc := cX11_rival) rfl dX11_rival_29 rfl ls st H Q
theorem r134_30 : sw_A 134 30 ls st H Q = (sw_pop False 3 st [] fun args r => sw_ck False r (sw_rc False H (some 11) args (sw_M 133 args H (sw_K 134 33 none ls r Q)))) := sw_A_step (cc := cX11_rival) rfl dX11_rival_30 rfl ls st H Q
theorem r134_33 : sw_A 134 33 ls st H Q = (sw_has1 False ls 4 (sw_i1 False st fun x r => sw_A 134 35 (sw_set1 ls 4 (.int x)) r H Q)) := sw_A_step (cc := cX11_rival) rfl dX11_rival_33 rfl ls st H Q
theorem r134_35 : sw_A 134 35 ls st H Q = (sw_lda False ls 0 fun x => sw_A 134 36 ls (.ref x :: st) H Q) := sw_A_step (cc := cX11_rival) rfl dX11_rival_35 rfl ls st H Q
theorem r134_36 : sw_A 134 36 ls st H Q = (sw_ldi False ls 2 fun x => sw_A 134 37 ls (.int x :: st) H Q) := sw_A_step (cc := cX11_rival) rfl dX11_rival_36 rfl ls st H Q
theorem r134_37 : sw_A 134 37 ls st H Q = (sw_ldi False ls 3 fun x => sw_A 134 38 ls (.int x :: st) H Q) := sw_A_step (cc := cX11_rival) rfl dX11_rival_37 rfl ls st H Q
theorem r134_38 : sw_A 134 38 ls st H Q = (sw_pop False 3 st [] fun args r => sw_ck False r (sw_rc False H (some 11) args (sw_M 133 args H (sw_K 134 41 none ls r Q)))) := sw_A_step (cc := cX11_rival) rfl dX11_rival_38 rfl ls st H Q
theorem r134_41 : sw_A 134 41 ls st H Q = (sw_has1 False ls 5 (sw_i1 False st fun x r => sw_A 134 43 (sw_set1 ls 5 (.int x)) r H Q)) := sw_A_step (cc := cX11_rival) rfl dX11_rival_41 rfl ls st H Q
theorem r134_43 : sw_A 134 43 ls st H Q = (sw_ldi False ls 4 fun x => sw_A 134 45 ls (.int x :: st) H Q) := sw_A_step (cc := cX11_rival) rfl dX11_rival_43 rfl ls st H Q
theorem r134_45 : sw_A 134 45 ls st H Q = (sw_ldi False ls 5 fun x => sw_A 134 47 ls (.int x :: st) H Q) := sw_A_step (cc := cX11_rival) rfl dX11_rival_45 rfl ls st H Q
theorem r134_47 : sw_A 134 47 ls st H Q = (sw_i2 False st fun x y r => if ¬ x = y then sw_A 134 52 ls r H Q else sw_A 134 50 ls r H Q) := sw_A_step (cc := cX11_rival) rfl dX11_rival_47 rfl ls st H Q
theorem r134_50 : sw_A 134 50 ls st H Q = (sw_A 134 51 ls (.int (Int32.ofInt (-1)) :: st) H Q) := sw_A_step (cc := cX11_rival) rfl dX11_rival_50 rfl ls st H Q
theorem r134_51 : sw_A 134 51 ls st H Q = (match st with | [.int x] => Q (some (some (.int x))) H | _ => False) := sw_A_step (cc := cX11_rival) rfl dX11_rival_51 rfl ls st H Q
theorem r134_52 : sw_A 134 52 ls st H Q = (sw_ldi False ls 4 fun x => sw_A 134 54 ls (.int x :: st) H Q) := sw_A_step (cc := cX11_rival) rfl dX11_rival_52 rfl ls st H Q
theorem r134_54 : sw_A 134 54 ls st H Q = (sw_A 134 55 ls (.int (Int32.ofInt (-1)) :: st) H Q) := sw_A_step (cc := cX11_rival) rfl dX11_rival_54 rfl ls st H Q
theorem r134_55 : sw_A 134 55 ls st H Q = (sw_i2 False st fun x y r => if ¬ x = y then sw_A 134 60 ls r H Q else sw_A 134 58 ls r H Q) := sw_A_step (cc := cX11_rival) rfl dX11_rival_55 rfl ls st H Q
theorem r134_58 : sw_A 134 58 ls st H Q = (sw_A 134 59 ls (.int (Int32.ofInt 1) :: st) H Q) := sw_A_step (cc := cX11_rival) rfl dX11_rival_58 rfl ls st H Q
theorem r134_59 : sw_A 134 59 ls st H Q = (match st with | [.int x] => Q (some (some (.int x))) H | _ => False) := sw_A_step (cc := cX11_rival) rfl dX11_rival_59 rfl ls st H Q
theorem r134_60 : sw_A 134 60 ls st H Q = (sw_ldi False ls 5 fun x => sw_A 134 62 ls (.int x :: st) H Q) := sw_A_step (cc := cX11_rival) rfl dX11_rival_60 rfl ls st H Q
theorem r134_62 : sw_A 134 62 ls st H Q = (sw_A 134 63 ls (.int (Int32.ofInt (-1)) :: st) H Q) := sw_A_step (cc := cX11_rival) rfl dX11_rival_62 rfl ls st H Q
theorem r134_63 : sw_A 134 63 ls st H Q = (sw_i2 False st fun x y r => if x = y then sw_A 134 73 ls r H Q else sw_A 134 66 ls r H Q) := sw_A_step (cc := cX11_rival) rfl dX11_rival_63 rfl ls st H Q
theorem r134_66 : sw_A 134 66 ls st H Q = (sw_ldi False ls 4 fun x => sw_A 134 68 ls (.int x :: st) H Q) := sw_A_step (cc := cX11_rival) rfl dX11_rival_66 rfl ls st H Q
theorem r134_68 : sw_A 134 68 ls st H Q = (sw_ldi False ls 5 fun x => sw_A 134 70 ls (.int x :: st) H Q) := sw_A_step (cc := cX11_rival) rfl dX11_rival_68 rfl ls st H Q
theorem r134_70 : sw_A 134 70 ls st H Q = (sw_i2 False st fun x y r => if y ≤ x then sw_A 134 77 ls r H Q else sw_A 134 73 ls r H Q) := sw_A_step (cc := cX11_rival) rfl dX11_rival_70 rfl ls st H Q
theorem r134_73 : sw_A 134 73 ls st H Q = (sw_A 134 74 ls (.int (Int32.ofInt 0) :: st) H Q) := sw_A_step (cc := cX11_rival) rfl dX11_rival_73 rfl ls st H Q
theorem r134_74 : sw_A 134 74 ls st H Q = (sw_A 134 78 ls st H Q) := sw_A_step (cc := cX11_rival) rfl dX11_rival_74 rfl ls st H Q
theorem r134_77 : sw_A 134 77 ls st H Q = (sw_A 134 78 ls (.int (Int32.ofInt 1) :: st) H Q) := sw_A_step (cc := cX11_rival) rfl dX11_rival_77 rfl ls st H Q
theorem r134_78 : sw_A 134 78 ls st H Q = (match st with | [.int x] => Q (some (some (.int x))) H | _ => False) := sw_A_step (cc := cX11_rival) rfl dX11_rival_78 rfl ls st H Q
theorem r135_0 : sw_A 135 0 ls st H Q = (sw_A 135 1 ls (.int (Int32.ofInt 0) :: st) H Q) := sw_A_step (cc := cX3_countWithin) rfl dX3_countWithin_0 rfl ls st H Q
theorem r135_1 : sw_A 135 1 ls st H Q = (sw_has1 False ls 2 (sw_i1 False st fun x r => sw_A 135 2 (sw_set1 ls 2 (.int x)) r H Q)) := sw_A_step (cc := cX3_countWithin) rfl dX3_countWithin_1 rfl ls st H Q
theorem r135_2 : sw_A 135 2 ls st H Q = (sw_A 135 3 ls (.int (Int32.ofInt 0) :: st) H Q) := sw_A_step (cc := cX3_countWithin) rfl dX3_countWithin_2 rfl ls st H Q
theorem r135_3 : sw_A 135 3 ls st H Q = (sw_has1 False ls 3 (sw_i1 False st fun x r => sw_A 135 4 (sw_set1 ls 3 (.int x)) r H Q)) := sw_A_step (cc := cX3_countWithin) rfl dX3_countWithin_3 rfl ls st H Q
theorem r135_4 : sw_A 135 4 ls st H Q = (sw_ldi False ls 3 fun x => sw_A 135 5 ls (.int x :: st) H Q) := sw_A_step (cc := cX3_countWithin) rfl dX3_countWithin_4 rfl ls st H Q
theorem r135_5 : sw_A 135 5 ls st H Q = (sw_A 135 7 ls (.int (Int32.ofInt 36) :: st) H Q) := sw_A_step (cc := cX3_countWithin) rfl dX3_countWithin_5 rfl ls st H Q
theorem r135_7 : sw_A 135 7 ls st H Q = (sw_i2 False st fun x y r => if y ≤ x then sw_A 135 39 ls r H Q else sw_A 135 10 ls r H Q) := sw_A_step (cc := cX3_countWithin) rfl dX3_countWithin_7 rfl ls st H Q
theorem r135_10 : sw_A 135 10 ls st H Q = (sw_lda False ls 0 fun x => sw_A 135 11 ls (.ref x :: st) H Q) := sw_A_step (cc := cX3_countWithin) rfl dX3_countWithin_10 rfl ls st H Q
theorem r135_11 : sw_A 135 11 ls st H Q = (sw_r1 False st fun a r => sw_gf False H (some (3, 0, 1)) a fun v => sw_A 135 14 ls (v :: r) H Q) := sw_A_step (cc := cX3_countWithin) rfl dX3_countWithin_11 rfl ls st H Q
theorem r135_14 : sw_A 135 14 ls st H Q = (sw_ldi False ls 3 fun x => sw_A 135 15 ls (.int x :: st) H Q) := sw_A_step (cc := cX3_countWithin) rfl dX3_countWithin_14 rfl ls st H Q
theorem r135_15 : sw_A 135 15 ls st H Q = (sw_ri False st fun a i r => sw_ald False H 0 a i fun x => sw_A 135 16 ls (.int x :: r) H Q) := sw_A_step (cc := cX3_countWithin) rfl dX3_countWithin_15 rfl ls st H Q
theorem r135_16 : sw_A 135 16 ls st H Q = (sw_A 135 17 ls (.int (Int32.ofInt (-1)) :: st) H Q) := sw_A_step (cc := cX3_countWithin) rfl dX3_countWithin_16 rfl ls st H Q
theorem r135_17 : sw_A 135 17 ls st H Q = (sw_i2 False st fun x y r => if x = y then sw_A 135 33 ls r H Q else sw_A 135 20 ls r H Q) := sw_A_step (cc := cX3_countWithin) rfl dX3_countWithin_17 rfl ls st H Q
theorem r135_20 : sw_A 135 20 ls st H Q = (sw_lda False ls 0 fun x => sw_A 135 21 ls (.ref x :: st) H Q) := sw_A_step (cc := cX3_countWithin) rfl dX3_countWithin_20 rfl ls st H Q
theorem r135_21 : sw_A 135 21 ls st H Q = (sw_r1 False st fun a r => sw_gf False H (some (3, 0, 1)) a fun v => sw_A 135 24 ls (v :: r) H Q) := sw_A_step (cc := cX3_countWithin) rfl dX3_countWithin_21 rfl ls st H Q
theorem r135_24 : sw_A 135 24 ls st H Q = (sw_ldi False ls 3 fun x => sw_A 135 25 ls (.int x :: st) H Q) := sw_A_step (cc := cX3_countWithin) rfl dX3_countWithin_24 rfl ls st H Q
theorem r135_25 : sw_A 135 25 ls st H Q = (sw_ri False st fun a i r => sw_ald False H 0 a i fun x => sw_A 135 26 ls (.int x :: r) H Q) := sw_A_step (cc := cX3_countWithin) rfl dX3_countWithin_25 rfl ls st H Q
theorem r135_26 : sw_A 135 26 ls st H Q = (sw_ldi False ls 1 fun x => sw_A 135 27 ls (.int x :: st) H Q) := sw_A_step (cc := cX3_countWithin) rfl dX3_countWithin_26 rfl ls st H Q
theorem r135_27 : sw_A 135 27 ls st H Q = (sw_i2 False st fun x y r => if y < x then sw_A 135 33 ls r H Q else sw_A 135 30 ls r H Q) := sw_A_step (cc := cX3_countWithin) rfl dX3_countWithin_27 rfl ls st H Q
theorem r135_30 : sw_A 135 30 ls st H Q = (sw_ldi False ls 2 fun x => sw_A 135 33 (sw_set1 ls 2 (.int (x + Int32.ofInt 1))) st H Q) := sw_A_step (cc := cX3_countWithin) rfl dX3_countWithin_30 rfl ls st H Q
theorem r135_33 : sw_A 135 33 ls st H Q = (sw_ldi False ls 3 fun x => sw_A 135 36 (sw_set1 ls 3 (.int (x + Int32.ofInt 1))) st H Q) := sw_A_step (cc := cX3_countWithin) rfl dX3_countWithin_33 rfl ls st H Q
theorem r135_36 : sw_A 135 36 ls st H Q = (sw_A 135 4 ls st H Q) := sw_A_step (cc := cX3_countWithin) rfl dX3_countWithin_36 rfl ls st H Q
theorem r135_39 : sw_A 135 39 ls st H Q = (sw_ldi False ls 2 fun x => sw_A 135 40 ls (.int x :: st) H Q) := sw_A_step (cc := cX3_countWithin) rfl dX3_countWithin_39 rfl ls st H Q
theorem r135_40 : sw_A 135 40 ls st H Q = (match st with | [.int x] => Q (some (some (.int x))) H | _ => False) := sw_A_step (cc := cX3_countWithin) rfl dX3_countWithin_40 rfl ls st H Q
theorem r136_0 : sw_A 136 0 ls st H Q = (sw_ldi False ls 1 fun x => sw_A 136 1 ls (.int x :: st) H Q) := sw_A_step (cc := cX11_ball) rfl dX11_ball_0 rfl ls st H Q
theorem r136_1 : sw_A 136 1 ls st H Q = (sw_pop False 1 st [] fun args r => sw_ck False r (sw_M 25 args H (sw_K 136 4 none ls r Q))) := sw_A_step (cc := cX11_ball) rfl dX11_ball_1 rfl ls st H Q
theorem r136_4 : sw_A 136 4 ls st H Q = (sw_ldi False ls 2 fun x => sw_A 136 5 ls (.int x :: st) H Q) := sw_A_step (cc := cX11_ball) rfl dX11_ball_4 rfl ls st H Q
theorem r136_5 : sw_A 136 5 ls st H Q = (sw_A 136 6 ls (.int (Int32.ofInt 0) :: st) H Q) := sw_A_step (cc := cX11_ball) rfl dX11_ball_5 rfl ls st H Q
theorem r136_6 : sw_A 136 6 ls st H Q = (sw_A 136 8 ls (.int (Int32.ofInt 60000) :: st) H Q) := sw_A_step (cc := cX11_ball) rfl dX11_ball_6 rfl ls st H Q
theorem r136_8 : sw_A 136 8 ls st H Q = (sw_pop False 3 st [] fun args r => sw_ck False r (sw_M 17 args H (sw_K 136 11 none ls r Q))) := sw_A_step (cc := cX11_ball) rfl dX11_ball_8 rfl ls st H Q
theorem r136_11 : sw_A 136 11 ls st H Q = (sw_lda False ls 0 fun x => sw_A 136 12 ls (.ref x :: st) H Q) := sw_A_step (cc := cX11_ball) rfl dX11_ball_11 rfl ls st H Q
theorem r136_12 : sw_A 136 12 ls st H Q = (sw_r1 False st fun a r => sw_gf False H (some (11, 7, 1)) a fun v => sw_A 136 15 ls (v :: r) H Q) := sw_A_step (cc := cX11_ball) rfl dX11_ball_12 rfl ls st H Q
theorem r136_15 : sw_A 136 15 ls st H Q = (sw_lda False ls 0 fun x => sw_A 136 16 ls (.ref x :: st) H Q) := sw_A_step (cc := cX11_ball) rfl dX11_ball_15 rfl ls st H Q
theorem r136_16 : sw_A 136 16 ls st H Q = (sw_r1 False st fun a r => sw_gf False H (some (11, 0, 1)) a fun v => sw_A 136 19 ls (v :: r) H Q) := sw_A_step (cc := cX11_ball) rfl dX11_ball_16 rfl ls st H Q
theorem r136_19 : sw_A 136 19 ls st H Q = (sw_lda False ls 0 fun x => sw_A 136 20 ls (.ref x :: st) H Q) := sw_A_step (cc := cX11_ball) rfl dX11_ball_19 rfl ls st H Q
theorem r136_20 : sw_A 136 20 ls st H Q = (sw_r1 False st fun a r => sw_gf False H (some (11, 2, 1)) a fun v => sw_A 136 23 ls (v :: r) H Q) := sw_A_step (cc := cX11_ball) rfl dX11_ball_20 rfl ls st H Q
theorem r136_23 : sw_A 136 23 ls st H Q = (sw_r1 False st fun a r => sw_gf False H (some (7, 0, 3)) a fun v => sw_A 136 26 ls (v :: r) H Q) := sw_A_step (cc := cX11_ball) rfl dX11_ball_23 rfl ls st H Q
theorem r136_26 : sw_A 136 26 ls st H Q = (sw_ldi False ls 1 fun x => sw_A 136 27 ls (.int x :: st) H Q) := sw_A_step (cc := cX11_ball) rfl dX11_ball_26 rfl ls st H Q
theorem r136_27 : sw_A 136 27 ls st H Q = (sw_pop False 4 st [] fun args r => sw_ck False r (sw_rc False H (some 3) args (sw_M 132 args H (sw_K 136 30 none ls r Q)))) := sw_A_step (cc := cX11_ball) rfl dX11_ball_27 rfl ls st H Q
theorem r136_30 : sw_A 136 30 ls st H Q = (sw_lda False ls 0 fun x => sw_A 136 31 ls (.ref x :: st) H Q) := sw_A_step (cc := cX11_ball) rfl dX11_ball_30 rfl ls st H Q
theorem r136_31 : sw_A 136 31 ls st H Q = (sw_r1 False st fun a r => sw_gf False H (some (11, 7, 1)) a fun v => sw_A 136 34 ls (v :: r) H Q) := sw_A_step (cc := cX11_ball) rfl dX11_ball_31 rfl ls st H Q
theorem r136_34 : sw_A 136 34 ls st H Q = (sw_ldi False ls 2 fun x => sw_A 136 35 ls (.int x :: st) H Q) := sw_A_step (cc := cX11_ball) rfl dX11_ball_34 rfl ls st H Q
theorem r136_35 : sw_A 136 35 ls st H Q = (sw_pop False 2 st [] fun args r => sw_ck False r (sw_rc False H (some 3) args (sw_M 135 args H (sw_K 136 38 none ls r Q)))) := sw_A_step (cc := cX11_ball) rfl dX11_ball_35 rfl ls st H Q
theorem r136_38 : sw_A 136 38 ls st H Q = (match st with | [.int x] => Q (some (some (.int x))) H | _ => False) := sw_A_step (cc := cX11_ball) rfl dX11_ball_38 rfl ls st H Q
theorem r137_0 : sw_A 137 0 ls st H Q = (sw_ldi False ls 1 fun x => sw_A 137 1 ls (.int x :: st) H Q) := sw_A_step (cc := cX11_needInvasion) rfl dX11_needInvasion_0 rfl ls st H Q
theorem r137_1 : sw_A 137 1 ls st H Q = (sw_pop False 1 st [] fun args r => sw_ck False r (sw_M 25 args H (sw_K 137 4 none ls r Q))) := sw_A_step (cc := cX11_needInvasion) rfl dX11_needInvasion_1 rfl ls st H Q
theorem r137_4 : sw_A 137 4 ls st H Q = (sw_ldi False ls 2 fun x => sw_A 137 5 ls (.int x :: st) H Q) := sw_A_step (cc := cX11_needInvasion) rfl dX11_needInvasion_4 rfl ls st H Q
theorem r137_5 : sw_A 137 5 ls st H Q = (sw_A 137 6 ls (.int (Int32.ofInt 0) :: st) H Q) := sw_A_step (cc := cX11_needInvasion) rfl dX11_needInvasion_5 rfl ls st H Q
theorem r137_6 : sw_A 137 6 ls st H Q = (sw_A 137 8 ls (.int (Int32.ofInt 35) :: st) H Q) := sw_A_step (cc := cX11_needInvasion) rfl dX11_needInvasion_6 rfl ls st H Q
theorem r137_8 : sw_A 137 8 ls st H Q = (sw_pop False 3 st [] fun args r => sw_ck False r (sw_M 17 args H (sw_K 137 11 none ls r Q))) := sw_A_step (cc := cX11_needInvasion) rfl dX11_needInvasion_8 rfl ls st H Q
theorem r137_11 : sw_A 137 11 ls st H Q = (sw_lda False ls 0 fun x => sw_A 137 12 ls (.ref x :: st) H Q) := sw_A_step (cc := cX11_needInvasion) rfl dX11_needInvasion_11 rfl ls st H Q
theorem r137_12 : sw_A 137 12 ls st H Q = (sw_ldi False ls 1 fun x => sw_A 137 13 ls (.int x :: st) H Q) := sw_A_step (cc := cX11_needInvasion) rfl dX11_needInvasion_12 rfl ls st H Q
theorem r137_13 : sw_A 137 13 ls st H Q = (sw_pop False 2 st [] fun args r => sw_ck False r (sw_rc False H (some 11) args (sw_M 38 args H (sw_K 137 16 none ls r Q)))) := sw_A_step (cc := cX11_needInvasion) rfl dX11_needInvasion_13 rfl ls st H Q
theorem r137_16 : sw_A 137 16 ls st H Q = (match st with | [] => Q (some none) H | _ => False) := sw_A_step (cc := cX11_needInvasion) rfl dX11_needInvasion_16 rfl ls st H Q
theorem r138_0 : sw_A 138 0 ls st H Q = (sw_A 138 1 ls (.int (Int32.ofInt (-1)) :: st) H Q) := sw_A_step (cc := cX6_nextBond) rfl dX6_nextBond_0 rfl ls st H Q
theorem r138_1 : sw_A 138 1 ls st H Q = (sw_has1 False ls 3 (sw_i1 False st fun x r => sw_A 138 2 (sw_set1 ls 3 (.int x)) r H Q)) := sw_A_step (cc := cX6_nextBond) rfl dX6_nextBond_1 rfl ls st H Q
theorem r138_2 : sw_A 138 2 ls st H Q = (sw_A 138 3 ls (.int (Int32.ofInt 0) :: st) H Q) := sw_A_step (cc := cX6_nextBond) rfl dX6_nextBond_2 rfl ls st H Q
theorem r138_3 : sw_A 138 3 ls st H Q = (sw_has1 False ls 4 (sw_i1 False st fun x r => sw_A 138 5 (sw_set1 ls 4 (.int x)) r H Q)) := sw_A_step (cc := cX6_nextBond) rfl dX6_nextBond_3 rfl ls st H Q
theorem r138_5 : sw_A 138 5 ls st H Q = (sw_ldi False ls 4 fun x => sw_A 138 7 ls (.int x :: st) H Q) := sw_A_step (cc := cX6_nextBond) rfl dX6_nextBond_5 rfl ls st H Q
theorem r138_7 : sw_A 138 7 ls st H Q = (sw_A 138 9 ls (.int (Int32.ofInt 60) :: st) H Q) := sw_A_step (cc := cX6_nextBond) rfl dX6_nextBond_7 rfl ls st H Q
theorem r138_9 : sw_A 138 9 ls st H Q = (sw_i2 False st fun x y r => if y ≤ x then sw_A 138 99 ls r H Q else sw_A 138 12 ls r H Q) := sw_A_step (cc := cX6_nextBond) rfl dX6_nextBond_9 rfl ls st H Q
theorem r138_12 : sw_A 138 12 ls st H Q = (sw_ldi False ls 4 fun x => sw_A 138 14 ls (.int x :: st) H Q) := sw_A_step (cc := cX6_nextBond) rfl dX6_nextBond_12 rfl ls st H Q
theorem r138_14 : sw_A 138 14 ls st H Q = (sw_pop False 1 st [] fun args r => sw_ck False r (sw_M 85 args H (sw_K 138 17 none ls r Q))) := sw_A_step (cc := cX6_nextBond) rfl dX6_nextBond_14 rfl ls st H Q
theorem r138_17 : sw_A 138 17 ls st H Q = (sw_has1 False ls 5 (sw_i1 False st fun x r => sw_A 138 19 (sw_set1 ls 5 (.int x)) r H Q)) := sw_A_step (cc := cX6_nextBond) rfl dX6_nextBond_17 rfl ls st H Q
theorem r138_19 : sw_A 138 19 ls st H Q = (sw_ldi False ls 4 fun x => sw_A 138 21 ls (.int x :: st) H Q) := sw_A_step (cc := cX6_nextBond) rfl dX6_nextBond_19 rfl ls st H Q
theorem r138_21 : sw_A 138 21 ls st H Q = (sw_pop False 1 st [] fun args r => sw_ck False r (sw_M 86 args H (sw_K 138 24 none ls r Q))) := sw_A_step (cc := cX6_nextBond) rfl dX6_nextBond_21 rfl ls st H Q
theorem r138_24 : sw_A 138 24 ls st H Q = (sw_has1 False ls 6 (sw_i1 False st fun x r => sw_A 138 26 (sw_set1 ls 6 (.int x)) r H Q)) := sw_A_step (cc := cX6_nextBond) rfl dX6_nextBond_24 rfl ls st H Q
theorem r138_26 : sw_A 138 26 ls st H Q = (sw_lda False ls 0 fun x => sw_A 138 27 ls (.ref x :: st) H Q) := sw_A_step (cc := cX6_nextBond) rfl dX6_nextBond_26 rfl ls st H Q
theorem r138_27 : sw_A 138 27 ls st H Q = (sw_r1 False st fun a r => sw_gf False H (some (6, 0, 1)) a fun v => sw_A 138 30 ls (v :: r) H Q) := sw_A_step (cc := cX6_nextBond) rfl dX6_nextBond_27 rfl ls st H Q
theorem r138_30 : sw_A 138 30 ls st H Q = (sw_ldi False ls 5 fun x => sw_A 138 32 ls (.int x :: st) H Q) := sw_A_step (cc := cX6_nextBond) rfl dX6_nextBond_30 rfl ls st H Q
theorem r138_32 : sw_A 138 32 ls st H Q = (sw_ri False st fun a i r => sw_ald False H 1 a i fun x => sw_A 138 33 ls (.int x :: r) H Q) := sw_A_step (cc := cX6_nextBond) rfl dX6_nextBond_32 rfl ls st H Q
theorem r138_33 : sw_A 138 33 ls st H Q = (sw_lda False ls 0 fun x => sw_A 138 34 ls (.ref x :: st) H Q) := sw_A_step (cc := cX6_nextBond) rfl dX6_nextBond_33 rfl ls st H Q
theorem r138_34 : sw_A 138 34 ls st H Q = (sw_r1 False st fun a r => sw_gf False H (some (6, 0, 1)) a fun v => sw_A 138 37 ls (v :: r) H Q) := sw_A_step (cc := cX6_nextBond) rfl dX6_nextBond_34 rfl ls st H Q
theorem r138_37 : sw_A 138 37 ls st H Q = (sw_ldi False ls 6 fun x => sw_A 138 39 ls (.int x :: st) H Q) := sw_A_step (cc := cX6_nextBond) rfl dX6_nextBond_37 rfl ls st H Q
theorem r138_39 : sw_A 138 39 ls st H Q = (sw_ri False st fun a i r => sw_ald False H 1 a i fun x => sw_A 138 40 ls (.int x :: r) H Q) := sw_A_step (cc := cX6_nextBond) rfl dX6_nextBond_39 rfl ls st H Q
theorem r138_40 : sw_A 138 40 ls st H Q = (sw_i2 False st fun x y r => if x = y then sw_A 138 61 ls r H Q else sw_A 138 43 ls r H Q) := sw_A_step (cc := cX6_nextBond) rfl dX6_nextBond_40 rfl ls st H Q
theorem r138_43 : sw_A 138 43 ls st H Q = (sw_lda False ls 2 fun x => sw_A 138 44 ls (.ref x :: st) H Q) := sw_A_step (cc := cX6_nextBond) rfl dX6_nextBond_43 rfl ls st H Q
theorem r138_44 : sw_A 138 44 ls st H Q = (sw_ldi False ls 5 fun x => sw_A 138 46 ls (.int x :: st) H Q) := sw_A_step (cc := cX6_nextBond) rfl dX6_nextBond_44 rfl ls st H Q
theorem r138_46 : sw_A 138 46 ls st H Q = (sw_ri False st fun a i r => sw_ald False H 1 a i fun x => sw_A 138 47 ls (.int x :: r) H Q) := sw_A_step (cc := cX6_nextBond) rfl dX6_nextBond_46 rfl ls st H Q
theorem r138_47 : sw_A 138 47 ls st H Q = (sw_i1 False st fun x r => if ¬ x = 0 then sw_A 138 61 ls r H Q else sw_A 138 50 ls r H Q) := sw_A_step (cc := cX6_nextBond) rfl dX6_nextBond_47 rfl ls st H Q
theorem r138_50 : sw_A 138 50 ls st H Q = (sw_lda False ls 2 fun x => sw_A 138 51 ls (.ref x :: st) H Q) := sw_A_step (cc := cX6_nextBond) rfl dX6_nextBond_50 rfl ls st H Q
theorem r138_51 : sw_A 138 51 ls st H Q = (sw_ldi False ls 6 fun x => sw_A 138 53 ls (.int x :: st) H Q) := sw_A_step (cc := cX6_nextBond) rfl dX6_nextBond_51 rfl ls st H Q
theorem r138_53 : sw_A 138 53 ls st H Q = (sw_ri False st fun a i r => sw_ald False H 1 a i fun x => sw_A 138 54 ls (.int x :: r) H Q) := sw_A_step (cc := cX6_nextBond) rfl dX6_nextBond_53 rfl ls st H Q
theorem r138_54 : sw_A 138 54 ls st H Q = (sw_i1 False st fun x r => if ¬ x = 0 then sw_A 138 61 ls r H Q else sw_A 138 57 ls r H Q) := sw_A_step (cc := cX6_nextBond) rfl dX6_nextBond_54 rfl ls st H Q
theorem r138_57 : sw_A 138 57 ls st H Q = (sw_A 138 58 ls (.int (Int32.ofInt 1) :: st) H Q) := sw_A_step (cc := cX6_nextBond) rfl dX6_nextBond_57 rfl ls st H Q
theorem r138_58 : sw_A 138 58 ls st H Q = (sw_A 138 62 ls st H Q) := sw_A_step (cc := cX6_nextBond) rfl dX6_nextBond_58 rfl ls st H Q
theorem r138_61 : sw_A 138 61 ls st H Q = (sw_A 138 62 ls (.int (Int32.ofInt 0) :: st) H Q) := sw_A_step (cc := cX6_nextBond) rfl dX6_nextBond_61 rfl ls st H Q
theorem r138_62 : sw_A 138 62 ls st H Q = (sw_has1 False ls 7 (sw_i1 False st fun x r => sw_A 138 64 (sw_set1 ls 7 (.int x)) r H Q)) := sw_A_step (cc := cX6_nextBond) rfl dX6_nextBond_62 rfl ls st H Q
theorem r138_64 : sw_A 138 64 ls st H Q = (sw_ldi False ls 7 fun x => sw_A 138 66 ls (.int x :: st) H Q) := sw_A_step (cc := cX6_nextBond) rfl dX6_nextBond_64 rfl ls st H Q
theorem r138_66 : sw_A 138 66 ls st H Q = (sw_i1 False st fun x r => if x = 0 then sw_A 138 93 ls r H Q else sw_A 138 69 ls r H Q) := sw_A_step (cc := cX6_nextBond) rfl dX6_nextBond_66 rfl ls st H Q
theorem r138_69 : sw_A 138 69 ls st H Q = (sw_ldi False ls 3 fun x => sw_A 138 70 ls (.int x :: st) H Q) := sw_A_step (cc := cX6_nextBond) rfl dX6_nextBond_69 rfl ls st H Q
theorem r138_70 : sw_A 138 70 ls st H Q = (sw_A 138 71 ls (.int (Int32.ofInt (-1)) :: st) H Q) := sw_A_step (cc := cX6_nextBond) rfl dX6_nextBond_70 rfl ls st H Q
theorem r138_71 : sw_A 138 71 ls st H Q = (sw_i2 False st fun x y r => if x = y then sw_A 138 90 ls r H Q else sw_A 138 74 ls r H Q) := sw_A_step (cc := cX6_nextBond) rfl dX6_nextBond_71 rfl ls st H Q
theorem r138_74 : sw_A 138 74 ls st H Q = (sw_lda False ls 1 fun x => sw_A 138 75 ls (.ref x :: st) H Q) := sw_A_step (cc := cX6_nextBond) rfl dX6_nextBond_74 rfl ls st H Q
theorem r138_75 : sw_A 138 75 ls st H Q = (sw_r1 False st fun a r => sw_gf False H (some (8, 0, 3)) a fun v => sw_A 138 78 ls (v :: r) H Q) := sw_A_step (cc := cX6_nextBond) rfl dX6_nextBond_75 rfl ls st H Q
theorem r138_78 : sw_A 138 78 ls st H Q = (sw_ldi False ls 4 fun x => sw_A 138 80 ls (.int x :: st) H Q) := sw_A_step (cc := cX6_nextBond) rfl dX6_nextBond_78 rfl ls st H Q
theorem r138_80 : sw_A 138 80 ls st H Q = (sw_ri False st fun a i r => sw_ald False H 0 a i fun x => sw_A 138 81 ls (.int x :: r) H Q) := sw_A_step (cc := cX6_nextBond) rfl dX6_nextBond_80 rfl ls st H Q
theorem r138_81 : sw_A 138 81 ls st H Q = (sw_lda False ls 1 fun x => sw_A 138 82 ls (.ref x :: st) H Q) := sw_A_step (cc := cX6_nextBond) rfl dX6_nextBond_81 rfl ls st H Q
theorem r138_82 : sw_A 138 82 ls st H Q = (sw_r1 False st fun a r => sw_gf False H (some (8, 0, 3)) a fun v => sw_A 138 85 ls (v :: r) H Q) := sw_A_step (cc := cX6_nextBond) rfl dX6_nextBond_82 rfl ls st H Q
theorem r138_85 : sw_A 138 85 ls st H Q = (sw_ldi False ls 3 fun x => sw_A 138 86 ls (.int x :: st) H Q) := sw_A_step (cc := cX6_nextBond) rfl dX6_nextBond_85 rfl ls st H Q
theorem r138_86 : sw_A 138 86 ls st H Q = (sw_ri False st fun a i r => sw_ald False H 0 a i fun x => sw_A 138 87 ls (.int x :: r) H Q) := sw_A_step (cc := cX6_nextBond) rfl dX6_nextBond_86 rfl ls st H Q
theorem r138_87 : sw_A 138 87 ls st H Q = (sw_i2 False st fun x y r => if y ≤ x then sw_A 138 93 ls r H Q else sw_A 138 90 ls r H Q) := sw_A_step (cc := cX6_nextBond) rfl dX6_nextBond_87 rfl ls st H Q
theorem r138_90 : sw_A 138 90 ls st H Q = (sw_ldi False ls 4 fun x => sw_A 138 92 ls (.int x :: st) H Q) := sw_A_step (cc := cX6_nextBond) rfl dX6_nextBond_90 rfl ls st H Q
theorem r138_92 : sw_A 138 92 ls st H Q = (sw_has1 False ls 3 (sw_i1 False st fun x r => sw_A 138 93 (sw_set1 ls 3 (.int x)) r H Q)) := sw_A_step (cc := cX6_nextBond) rfl dX6_nextBond_92 rfl ls st H Q
theorem r138_93 : sw_A 138 93 ls st H Q = (sw_ldi False ls 4 fun x => sw_A 138 96 (sw_set1 ls 4 (.int (x + Int32.ofInt 1))) st H Q) := sw_A_step (cc := cX6_nextBond) rfl dX6_nextBond_93 rfl ls st H Q
theorem r138_96 : sw_A 138 96 ls st H Q = (sw_A 138 5 ls st H Q) := sw_A_step (cc := cX6_nextBond) rfl dX6_nextBond_96 rfl ls st H Q
theorem r138_99 : sw_A 138 99 ls st H Q = (sw_ldi False ls 3 fun x => sw_A 138 100 ls (.int x :: st) H Q) := sw_A_step (cc := cX6_nextBond) rfl dX6_nextBond_99 rfl ls st H Q
theorem r138_100 : sw_A 138 100 ls st H Q = (match st with | [.int x] => Q (some (some (.int x))) H | _ => False) := sw_A_step (cc := cX6_nextBond) rfl dX6_nextBond_100 rfl ls st H Q
theorem r139_0 : sw_A 139 0 ls st H Q = (sw_lda False ls 0 fun x => sw_A 139 1 ls (.ref x :: st) H Q) := sw_A_step (cc := cX6_goOn) rfl dX6_goOn_0 rfl ls st H Q
theorem r139_1 : sw_A 139 1 ls st H Q = (sw_r1 False st fun a r => sw_gf False H (some (6, 0, 1)) a fun v => sw_A 139 4 ls (v :: r) H Q) := sw_A_step (cc := cX6_goOn) rfl dX6_goOn_1 rfl ls st H Q
theorem r139_4 : sw_A 139 4 ls st H Q = (sw_pop False 1 st [] fun args r => sw_ck False r (sw_M 104 args H (sw_K 139 7 none ls r Q))) := sw_A_step (cc := cX6_goOn) rfl dX6_goOn_4 rfl ls st H Q
theorem r139_7 : sw_A 139 7 ls st H Q = (sw_lda False ls 0 fun x => sw_A 139 8 ls (.ref x :: st) H Q) := sw_A_step (cc := cX6_goOn) rfl dX6_goOn_7 rfl ls st H Q
theorem r139_8 : sw_A 139 8 ls st H Q = (sw_r1 False st fun a r => sw_gf False H (some (6, 0, 1)) a fun v => sw_A 139 11 ls (v :: r) H Q) := sw_A_step (cc := cX6_goOn) rfl dX6_goOn_8 rfl ls st H Q
theorem r139_11 : sw_A 139 11 ls st H Q = (sw_ldi False ls 3 fun x => sw_A 139 12 ls (.int x :: st) H Q) := sw_A_step (cc := cX6_goOn) rfl dX6_goOn_11 rfl ls st H Q
theorem r139_12 : sw_A 139 12 ls st H Q = (sw_A 139 13 ls (.int (Int32.ofInt 1) :: st) H Q) := sw_A_step (cc := cX6_goOn) rfl dX6_goOn_12 rfl ls st H Q
theorem r139_13 : sw_A 139 13 ls st H Q = (sw_rix False st fun a i x r => sw_ast False H 1 a i (x &&& 1) fun H1 => sw_A 139 14 ls r H1 Q) := sw_A_step (cc := cX6_goOn) rfl dX6_goOn_13 rfl ls st H Q
theorem r139_14 : sw_A 139 14 ls st H Q = (sw_lda False ls 0 fun x => sw_A 139 15 ls (.ref x :: st) H Q) := sw_A_step (cc := cX6_goOn) rfl dX6_goOn_14 rfl ls st H Q
theorem r139_15 : sw_A 139 15 ls st H Q = (sw_ldi False ls 3 fun x => sw_A 139 16 ls (.int x :: st) H Q) := sw_A_step (cc := cX6_goOn) rfl dX6_goOn_15 rfl ls st H Q
theorem r139_16 : sw_A 139 16 ls st H Q = (sw_rv False st fun a v r => sw_pf False H (some (6, 1, 0)) 1 a v fun H1 => sw_A 139 19 ls r H1 Q) := sw_A_step (cc := cX6_goOn) rfl dX6_goOn_16 rfl ls st H Q
theorem r139_19 : sw_A 139 19 ls st H Q = (sw_lda False ls 0 fun x => sw_A 139 20 ls (.ref x :: st) H Q) := sw_A_step (cc := cX6_goOn) rfl dX6_goOn_19 rfl ls st H Q
theorem r139_20 : sw_A 139 20 ls st H Q = (sw_A 139 21 ls (.int (Int32.ofInt (-1)) :: st) H Q) := sw_A_step (cc := cX6_goOn) rfl dX6_goOn_20 rfl ls st H Q
theorem r139_21 : sw_A 139 21 ls st H Q = (sw_rv False st fun a v r => sw_pf False H (some (6, 2, 0)) 1 a v fun H1 => sw_A 139 24 ls r H1 Q) := sw_A_step (cc := cX6_goOn) rfl dX6_goOn_21 rfl ls st H Q
theorem r139_24 : sw_A 139 24 ls st H Q = (sw_A 139 25 ls (.int (Int32.ofInt 0) :: st) H Q) := sw_A_step (cc := cX6_goOn) rfl dX6_goOn_24 rfl ls st H Q
theorem r139_25 : sw_A 139 25 ls st H Q = (sw_has1 False ls 5 (sw_i1 False st fun x r => sw_A 139 27 (sw_set1 ls 5 (.int x)) r H Q)) := sw_A_step (cc := cX6_goOn) rfl dX6_goOn_25 rfl ls st H Q
theorem r139_27 : sw_A 139 27 ls st H Q = (sw_ldi False ls 5 fun x => sw_A 139 29 ls (.int x :: st) H Q) := sw_A_step (cc := cX6_goOn) rfl dX6_goOn_27 rfl ls st H Q
theorem r139_29 : sw_A 139 29 ls st H Q = (sw_ldi False ls 4 fun x => sw_A 139 31 ls (.int x :: st) H Q) := sw_A_step (cc := cX6_goOn) rfl dX6_goOn_29 rfl ls st H Q
theorem r139_31 : sw_A 139 31 ls st H Q = (sw_i2 False st fun x y r => if y ≤ x then sw_A 139 114 ls r H Q else sw_A 139 34 ls r H Q) := sw_A_step (cc := cX6_goOn) rfl dX6_goOn_31 rfl ls st H Q
theorem r139_34 : sw_A 139 34 ls st H Q = (sw_lda False ls 0 fun x => sw_A 139 35 ls (.ref x :: st) H Q) := sw_A_step (cc := cX6_goOn) rfl dX6_goOn_34 rfl ls st H Q
theorem r139_35 : sw_A 139 35 ls st H Q = (sw_lda False ls 1 fun x => sw_A 139 36 ls (.ref x :: st) H Q) := sw_A_step (cc := cX6_goOn) rfl dX6_goOn_35 rfl ls st H Q
theorem r139_36 : sw_A 139 36 ls st H Q = (sw_lda False ls 2 fun x => sw_A 139 37 ls (.ref x :: st) H Q) := sw_A_step (cc := cX6_goOn) rfl dX6_goOn_36 rfl ls st H Q
theorem r139_37 : sw_A 139 37 ls st H Q = (sw_pop False 3 st [] fun args r => sw_ck False r (sw_rc False H (some 6) args (sw_M 138 args H (sw_K 139 40 none ls r Q)))) := sw_A_step (cc := cX6_goOn) rfl dX6_goOn_37 rfl ls st H Q
theorem r139_40 : sw_A 139 40 ls st H Q = (sw_has1 False ls 6 (sw_i1 False st fun x r => sw_A 139 42 (sw_set1 ls 6 (.int x)) r H Q)) := sw_A_step (cc := cX6_goOn) rfl dX6_goOn_40 rfl ls st H Q
theorem r139_42 : sw_A 139 42 ls st H Q = (sw_ldi False ls 6 fun x => sw_A 139 44 ls (.int x :: st) H Q) := sw_A_step (cc := cX6_goOn) rfl dX6_goOn_42 rfl ls st H Q
theorem r139_44 : sw_A 139 44 ls st H Q = (sw_A 139 45 ls (.int (Int32.ofInt (-1)) :: st) H Q) := sw_A_step (cc := cX6_goOn) rfl dX6_goOn_44 rfl ls st H Q
theorem r139_45 : sw_A 139 45 ls st H Q = (sw_i2 False st fun x y r => if ¬ x = y then sw_A 139 50 ls r H Q else sw_A 139 48 ls r H Q) := sw_A_step (cc := cX6_goOn) rfl dX6_goOn_45 rfl ls st H Q
theorem r139_48 : sw_A 139 48 ls st H Q = (sw_A 139 49 ls (.int (Int32.ofInt 0) :: st) H Q) := sw_A_step (cc := cX6_goOn) rfl dX6_goOn_48 rfl ls st H Q
theorem r139_49 : sw_A 139 49 ls st H Q = (match st with | [.int x] => (if 2 = 1 ∨ 2 = 2 ∧ (x = 0 ∨ x = 1) then Q (some (some (.int x))) H else False) | _ => False) := sw_A_step (cc := cX6_goOn) rfl dX6_goOn_49 rfl ls st H Q
theorem r139_50 : sw_A 139 50 ls st H Q = (sw_lda False ls 0 fun x => sw_A 139 51 ls (.ref x :: st) H Q) := sw_A_step (cc := cX6_goOn) rfl dX6_goOn_50 rfl ls st H Q
theorem r139_51 : sw_A 139 51 ls st H Q = (sw_lda False ls 0 fun x => sw_A 139 52 ls (.ref x :: st) H Q) := sw_A_step (cc := cX6_goOn) rfl dX6_goOn_51 rfl ls st H Q
theorem r139_52 : sw_A 139 52 ls st H Q = (sw_r1 False st fun a r => sw_gf False H (some (6, 0, 1)) a fun v => sw_A 139 55 ls (v :: r) H Q) := sw_A_step (cc := cX6_goOn) rfl dX6_goOn_52 rfl ls st H Q
theorem r139_55 : sw_A 139 55 ls st H Q = (sw_ldi False ls 6 fun x => sw_A 139 57 ls (.int x :: st) H Q) := sw_A_step (cc := cX6_goOn) rfl dX6_goOn_55 rfl ls st H Q
theorem r139_57 : sw_A 139 57 ls st H Q = (sw_pop False 1 st [] fun args r => sw_ck False r (sw_M 85 args H (sw_K 139 60 none ls r Q))) := sw_A_step (cc := cX6_goOn) rfl dX6_goOn_57 rfl ls st H Q
theorem r139_60 : sw_A 139 60 ls st H Q = (sw_ri False st fun a i r => sw_ald False H 1 a i fun x => sw_A 139 61 ls (.int x :: r) H Q) := sw_A_step (cc := cX6_goOn) rfl dX6_goOn_60 rfl ls st H Q
theorem r139_61 : sw_A 139 61 ls st H Q = (sw_i1 False st fun x r => if x = 0 then sw_A 139 72 ls r H Q else sw_A 139 64 ls r H Q) := sw_A_step (cc := cX6_goOn) rfl dX6_goOn_61 rfl ls st H Q
theorem r139_64 : sw_A 139 64 ls st H Q = (sw_ldi False ls 6 fun x => sw_A 139 66 ls (.int x :: st) H Q) := sw_A_step (cc := cX6_goOn) rfl dX6_goOn_64 rfl ls st H Q
theorem r139_66 : sw_A 139 66 ls st H Q = (sw_pop False 1 st [] fun args r => sw_ck False r (sw_M 86 args H (sw_K 139 69 none ls r Q))) := sw_A_step (cc := cX6_goOn) rfl dX6_goOn_66 rfl ls st H Q
theorem r139_69 : sw_A 139 69 ls st H Q = (sw_A 139 77 ls st H Q) := sw_A_step (cc := cX6_goOn) rfl dX6_goOn_69 rfl ls st H Q
theorem r139_72 : sw_A 139 72 ls st H Q = (sw_ldi False ls 6 fun x => sw_A 139 74 ls (.int x :: st) H Q) := sw_A_step (cc := cX6_goOn) rfl dX6_goOn_72 rfl ls st H Q
theorem r139_74 : sw_A 139 74 ls st H Q = (sw_pop False 1 st [] fun args r => sw_ck False r (sw_M 85 args H (sw_K 139 77 none ls r Q))) := sw_A_step (cc := cX6_goOn) rfl dX6_goOn_74 rfl ls st H Q
theorem r139_77 : sw_A 139 77 ls st H Q = (sw_rv False st fun a v r => sw_pf False H (some (6, 1, 0)) 1 a v fun H1 => sw_A 139 80 ls r H1 Q) := sw_A_step (cc := cX6_goOn) rfl dX6_goOn_77 rfl ls st H Q
theorem r139_80 : sw_A 139 80 ls st H Q = (sw_lda False ls 0 fun x => sw_A 139 81 ls (.ref x :: st) H Q) := sw_A_step (cc := cX6_goOn) rfl dX6_goOn_80 rfl ls st H Q
theorem r139_81 : sw_A 139 81 ls st H Q = (sw_r1 False st fun a r => sw_gf False H (some (6, 0, 1)) a fun v => sw_A 139 84 ls (v :: r) H Q) := sw_A_step (cc := cX6_goOn) rfl dX6_goOn_81 rfl ls st H Q
theorem r139_84 : sw_A 139 84 ls st H Q = (sw_lda False ls 0 fun x => sw_A 139 85 ls (.ref x :: st) H Q) := sw_A_step (cc := cX6_goOn) rfl dX6_goOn_84 rfl ls st H Q
theorem r139_85 : sw_A 139 85 ls st H Q = (sw_r1 False st fun a r => sw_gf False H (some (6, 1, 0)) a fun v => sw_A 139 88 ls (v :: r) H Q) := sw_A_step (cc := cX6_goOn) rfl dX6_goOn_85 rfl ls st H Q
theorem r139_88 : sw_A 139 88 ls st H Q = (sw_A 139 89 ls (.int (Int32.ofInt 1) :: st) H Q) := sw_A_step (cc := cX6_goOn) rfl dX6_goOn_88 rfl ls st H Q
theorem r139_89 : sw_A 139 89 ls st H Q = (sw_rix False st fun a i x r => sw_ast False H 1 a i (x &&& 1) fun H1 => sw_A 139 90 ls r H1 Q) := sw_A_step (cc := cX6_goOn) rfl dX6_goOn_89 rfl ls st H Q
theorem r139_90 : sw_A 139 90 ls st H Q = (sw_lda False ls 0 fun x => sw_A 139 91 ls (.ref x :: st) H Q) := sw_A_step (cc := cX6_goOn) rfl dX6_goOn_90 rfl ls st H Q
theorem r139_91 : sw_A 139 91 ls st H Q = (sw_lda False ls 0 fun x => sw_A 139 92 ls (.ref x :: st) H Q) := sw_A_step (cc := cX6_goOn) rfl dX6_goOn_91 rfl ls st H Q
theorem r139_92 : sw_A 139 92 ls st H Q = (sw_r1 False st fun a r => sw_gf False H (some (6, 2, 0)) a fun v => sw_A 139 95 ls (v :: r) H Q) := sw_A_step (cc := cX6_goOn) rfl dX6_goOn_92 rfl ls st H Q
theorem r139_95 : sw_A 139 95 ls st H Q = (sw_lda False ls 1 fun x => sw_A 139 96 ls (.ref x :: st) H Q) := sw_A_step (cc := cX6_goOn) rfl dX6_goOn_95 rfl ls st H Q
theorem r139_96 : sw_A 139 96 ls st H Q = (sw_r1 False st fun a r => sw_gf False H (some (8, 0, 3)) a fun v => sw_A 139 99 ls (v :: r) H Q) := sw_A_step (cc := cX6_goOn) rfl dX6_goOn_96 rfl ls st H Q
theorem r139_99 : sw_A 139 99 ls st H Q = (sw_ldi False ls 6 fun x => sw_A 139 101 ls (.int x :: st) H Q) := sw_A_step (cc := cX6_goOn) rfl dX6_goOn_99 rfl ls st H Q
theorem r139_101 : sw_A 139 101 ls st H Q = (sw_ri False st fun a i r => sw_ald False H 0 a i fun x => sw_A 139 102 ls (.int x :: r) H Q) := sw_A_step (cc := cX6_goOn) rfl dX6_goOn_101 rfl ls st H Q
theorem r139_102 : sw_A 139 102 ls st H Q = (sw_i2 False st fun x y r => sw_ck False r (sw_A 139 105 ls (.int (if x < y then y else x) :: r) H Q)) := sw_A_step (cc := cX6_goOn) rfl dX6_goOn_102 rfl ls st H Q
theorem r139_105 : sw_A 139 105 ls st H Q = (sw_rv False st fun a v r => sw_pf False H (some (6, 2, 0)) 1 a v fun H1 => sw_A 139 108 ls r H1 Q) := sw_A_step (cc := cX6_goOn) rfl dX6_goOn_105 rfl ls st H Q
theorem r139_108 : sw_A 139 108 ls st H Q = (sw_ldi False ls 5 fun x => sw_A 139 111 (sw_set1 ls 5 (.int (x + Int32.ofInt 1))) st H Q) := sw_A_step (cc := cX6_goOn) rfl dX6_goOn_108 rfl ls st H Q
theorem r139_111 : sw_A 139 111 ls st H Q = (sw_A 139 27 ls st H Q) := sw_A_step (cc := cX6_goOn) rfl dX6_goOn_111 rfl ls st H Q
theorem r139_114 : sw_A 139 114 ls st H Q = (sw_A 139 115 ls (.int (Int32.ofInt 1) :: st) H Q) := sw_A_step (cc := cX6_goOn) rfl dX6_goOn_114 rfl ls st H Q
theorem r139_115 : sw_A 139 115 ls st H Q = (match st with | [.int x] => (if 2 = 1 ∨ 2 = 2 ∧ (x = 0 ∨ x = 1) then Q (some (some (.int x))) H else False) | _ => False) := sw_A_step (cc := cX6_goOn) rfl dX6_goOn_115 rfl ls st H Q
theorem r140_0 : sw_A 140 0 ls st H Q = (sw_lda False ls 0 fun x => sw_A 140 1 ls (.ref x :: st) H Q) := sw_A_step (cc := cX11_invade) rfl dX11_invade_0 rfl ls st H Q
theorem r140_1 : sw_A 140 1 ls st H Q = (sw_ldi False ls 1 fun x => sw_A 140 2 ls (.int x :: st) H Q) := sw_A_step (cc := cX11_invade) rfl dX11_invade_1 rfl ls st H Q
theorem r140_2 : sw_A 140 2 ls st H Q = (sw_ldi False ls 2 fun x => sw_A 140 3 ls (.int x :: st) H Q) := sw_A_step (cc := cX11_invade) rfl dX11_invade_2 rfl ls st H Q
theorem r140_3 : sw_A 140 3 ls st H Q = (sw_pop False 3 st [] fun args r => sw_ck False r (sw_rc False H (some 11) args (sw_M 137 args H (sw_K 140 6 none ls r Q)))) := sw_A_step (cc := cX11_invade) rfl dX11_invade_3 rfl ls st H Q
theorem r140_6 : sw_A 140 6 ls st H Q = (sw_lda False ls 0 fun x => sw_A 140 7 ls (.ref x :: st) H Q) := sw_A_step (cc := cX11_invade) rfl dX11_invade_6 rfl ls st H Q
theorem r140_7 : sw_A 140 7 ls st H Q = (sw_r1 False st fun a r => sw_gf False H (some (11, 8, 1)) a fun v => sw_A 140 10 ls (v :: r) H Q) := sw_A_step (cc := cX11_invade) rfl dX11_invade_7 rfl ls st H Q
theorem r140_10 : sw_A 140 10 ls st H Q = (sw_lda False ls 0 fun x => sw_A 140 11 ls (.ref x :: st) H Q) := sw_A_step (cc := cX11_invade) rfl dX11_invade_10 rfl ls st H Q
theorem r140_11 : sw_A 140 11 ls st H Q = (sw_r1 False st fun a r => sw_gf False H (some (11, 0, 1)) a fun v => sw_A 140 14 ls (v :: r) H Q) := sw_A_step (cc := cX11_invade) rfl dX11_invade_11 rfl ls st H Q
theorem r140_14 : sw_A 140 14 ls st H Q = (sw_lda False ls 0 fun x => sw_A 140 15 ls (.ref x :: st) H Q) := sw_A_step (cc := cX11_invade) rfl dX11_invade_14 rfl ls st H Q
theorem r140_15 : sw_A 140 15 ls st H Q = (sw_r1 False st fun a r => sw_gf False H (some (11, 2, 1)) a fun v => sw_A 140 18 ls (v :: r) H Q) := sw_A_step (cc := cX11_invade) rfl dX11_invade_15 rfl ls st H Q
theorem r140_18 : sw_A 140 18 ls st H Q = (sw_r1 False st fun a r => sw_gf False H (some (7, 0, 3)) a fun v => sw_A 140 21 ls (v :: r) H Q) := sw_A_step (cc := cX11_invade) rfl dX11_invade_18 rfl ls st H Q
theorem r140_21 : sw_A 140 21 ls st H Q = (sw_ldi False ls 1 fun x => sw_A 140 22 ls (.int x :: st) H Q) := sw_A_step (cc := cX11_invade) rfl dX11_invade_21 rfl ls st H Q
theorem r140_22 : sw_A 140 22 ls st H Q = (sw_ldi False ls 2 fun x => sw_A 140 23 ls (.int x :: st) H Q) := sw_A_step (cc := cX11_invade) rfl dX11_invade_22 rfl ls st H Q
theorem r140_23 : sw_A 140 23 ls st H Q = (sw_pop False 5 st [] fun args r => sw_ck False r (sw_rc False H (some 6) args (sw_M 139 args H (sw_K 140 26 none ls r Q)))) := sw_A_step (cc := cX11_invade) rfl dX11_invade_23 rfl ls st H Q
theorem r140_26 : sw_A 140 26 ls st H Q = (sw_i1 False st fun x r => if x = 0 then sw_A 140 39 ls r H Q else sw_A 140 29 ls r H Q) := sw_A_step (cc := cX11_invade) rfl dX11_invade_26 rfl ls st H Q
theorem r140_29 : sw_A 140 29 ls st H Q = (sw_lda False ls 0 fun x => sw_A 140 30 ls (.ref x :: st) H Q) := sw_A_step (cc := cX11_invade) rfl dX11_invade_29 rfl ls st H Q
theorem r140_30 : sw_A 140 30 ls st H Q = (sw_r1 False st fun a r => sw_gf False H (some (11, 8, 1)) a fun v => sw_A 140 33 ls (v :: r) H Q) := sw_A_step (cc := cX11_invade) rfl dX11_invade_30 rfl ls st H Q
theorem r140_33 : sw_A 140 33 ls st H Q = (sw_r1 False st fun a r => sw_gf False H (some (6, 1, 3)) a fun v => sw_A 140 36 ls (v :: r) H Q) := sw_A_step (cc := cX11_invade) rfl dX11_invade_33 rfl ls st H Q
theorem r140_36 : sw_A 140 36 ls st H Q = (sw_A 140 40 ls st H Q) := sw_A_step (cc := cX11_invade) rfl dX11_invade_36 rfl ls st H Q
theorem r140_39 : sw_A 140 39 ls st H Q = (sw_A 140 40 ls (.int (Int32.ofInt (-1)) :: st) H Q) := sw_A_step (cc := cX11_invade) rfl dX11_invade_39 rfl ls st H Q
theorem r140_40 : sw_A 140 40 ls st H Q = (match st with | [.int x] => Q (some (some (.int x))) H | _ => False) := sw_A_step (cc := cX11_invade) rfl dX11_invade_40 rfl ls st H Q
theorem r141_0 : sw_A 141 0 ls st H Q = (sw_lda False ls 0 fun x => sw_A 141 1 ls (.ref x :: st) H Q) := sw_A_step (cc := cL_comes) rfl dL_comes_0 rfl ls st H Q
theorem r141_1 : sw_A 141 1 ls st H Q = (sw_ldi False ls 1 fun x => sw_A 141 2 ls (.int x :: st) H Q) := sw_A_step (cc := cL_comes) rfl dL_comes_1 rfl ls st H Q
theorem r141_2 : sw_A 141 2 ls st H Q = (sw_ldi False ls 2 fun x => sw_A 141 3 ls (.int x :: st) H Q) := sw_A_step (cc := cL_comes) rfl dL_comes_2 rfl ls st H Q
theorem r141_3 : sw_A 141 3 ls st H Q = (sw_pop False 3 st [] fun args r => sw_ck False r (sw_rc False H (some 11) args (sw_M 140 args H (sw_K 141 6 (some 8) ls r Q)))) := sw_A_step (cc := cL_comes) rfl dL_comes_3 rfl ls st H Q
theorem r141_6 : sw_A 141 6 ls st H Q = (match st with | [.int x] => Q (some (some (.int x))) H | _ => False) := sw_A_step (cc := cL_comes) rfl dL_comes_6 rfl ls st H Q
theorem r141_7 : sw_A 141 7 ls st H Q = (sw_has1 False ls 3 (sw_r1 False st fun x r => sw_A 141 8 (sw_set1 ls 3 (.ref x)) r H Q)) := sw_A_step (cc := cL_comes) rfl dL_comes_7 rfl ls st H Q
theorem r141_8 : sw_A 141 8 ls st H Q = (sw_A 141 10 ls (.int (Int32.ofInt (-9)) :: st) H Q) := sw_A_step (cc := cL_comes) rfl dL_comes_8 rfl ls st H Q
theorem r141_10 : sw_A 141 10 ls st H Q = (match st with | [.int x] => Q (some (some (.int x))) H | _ => False) := sw_A_step (cc := cL_comes) rfl dL_comes_10 rfl ls st H Q
theorem r142_0 : sw_A 142 0 ls st H Q = (sw_lda False ls 0 fun x => sw_A 142 1 ls (.ref x :: st) H Q) := sw_A_step (cc := cX11_invaded) rfl dX11_invaded_0 rfl ls st H Q
theorem r142_1 : sw_A 142 1 ls st H Q = (sw_ldi False ls 1 fun x => sw_A 142 2 ls (.int x :: st) H Q) := sw_A_step (cc := cX11_invaded) rfl dX11_invaded_1 rfl ls st H Q
theorem r142_2 : sw_A 142 2 ls st H Q = (sw_ldi False ls 2 fun x => sw_A 142 3 ls (.int x :: st) H Q) := sw_A_step (cc := cX11_invaded) rfl dX11_invaded_2 rfl ls st H Q
theorem r142_3 : sw_A 142 3 ls st H Q = (sw_pop False 3 st [] fun args r => sw_ck False r (sw_rc False H (some 11) args (sw_M 137 args H (sw_K 142 6 none ls r Q)))) := sw_A_step (cc := cX11_invaded) rfl dX11_invaded_3 rfl ls st H Q
theorem r142_6 : sw_A 142 6 ls st H Q = (sw_lda False ls 0 fun x => sw_A 142 7 ls (.ref x :: st) H Q) := sw_A_step (cc := cX11_invaded) rfl dX11_invaded_6 rfl ls st H Q
theorem r142_7 : sw_A 142 7 ls st H Q = (sw_r1 False st fun a r => sw_gf False H (some (11, 8, 1)) a fun v => sw_A 142 10 ls (v :: r) H Q) := sw_A_step (cc := cX11_invaded) rfl dX11_invaded_7 rfl ls st H Q
theorem r142_10 : sw_A 142 10 ls st H Q = (sw_lda False ls 0 fun x => sw_A 142 11 ls (.ref x :: st) H Q) := sw_A_step (cc := cX11_invaded) rfl dX11_invaded_10 rfl ls st H Q
theorem r142_11 : sw_A 142 11 ls st H Q = (sw_r1 False st fun a r => sw_gf False H (some (11, 0, 1)) a fun v => sw_A 142 14 ls (v :: r) H Q) := sw_A_step (cc := cX11_invaded) rfl dX11_invaded_11 rfl ls st H Q
theorem r142_14 : sw_A 142 14 ls st H Q = (sw_lda False ls 0 fun x => sw_A 142 15 ls (.ref x :: st) H Q) := sw_A_step (cc := cX11_invaded) rfl dX11_invaded_14 rfl ls st H Q
theorem r142_15 : sw_A 142 15 ls st H Q = (sw_r1 False st fun a r => sw_gf False H (some (11, 2, 1)) a fun v => sw_A 142 18 ls (v :: r) H Q) := sw_A_step (cc := cX11_invaded) rfl dX11_invaded_15 rfl ls st H Q
theorem r142_18 : sw_A 142 18 ls st H Q = (sw_r1 False st fun a r => sw_gf False H (some (7, 0, 3)) a fun v => sw_A 142 21 ls (v :: r) H Q) := sw_A_step (cc := cX11_invaded) rfl dX11_invaded_18 rfl ls st H Q
theorem r142_21 : sw_A 142 21 ls st H Q = (sw_ldi False ls 1 fun x => sw_A 142 22 ls (.int x :: st) H Q) := sw_A_step (cc := cX11_invaded) rfl dX11_invaded_21 rfl ls st H Q
theorem r142_22 : sw_A 142 22 ls st H Q = (sw_ldi False ls 2 fun x => sw_A 142 23 ls (.int x :: st) H Q) := sw_A_step (cc := cX11_invaded) rfl dX11_invaded_22 rfl ls st H Q
theorem r142_23 : sw_A 142 23 ls st H Q = (sw_pop False 5 st [] fun args r => sw_ck False r (sw_rc False H (some 6) args (sw_M 139 args H (sw_K 142 26 none ls r Q)))) := sw_A_step (cc := cX11_invaded) rfl dX11_invaded_23 rfl ls st H Q
theorem r142_26 : sw_A 142 26 ls st H Q = (sw_i1 False st fun x r => if x = 0 then sw_A 142 39 ls r H Q else sw_A 142 29 ls r H Q) := sw_A_step (cc := cX11_invaded) rfl dX11_invaded_26 rfl ls st H Q
theorem r142_29 : sw_A 142 29 ls st H Q = (sw_lda False ls 0 fun x => sw_A 142 30 ls (.ref x :: st) H Q) := sw_A_step (cc := cX11_invaded) rfl dX11_invaded_29 rfl ls st H Q
theorem r142_30 : sw_A 142 30 ls st H Q = (sw_r1 False st fun a r => sw_gf False H (some (11, 8, 1)) a fun v => sw_A 142 33 ls (v :: r) H Q) := sw_A_step (cc := cX11_invaded) rfl dX11_invaded_30 rfl ls st H Q
theorem r142_33 : sw_A 142 33 ls st H Q = (sw_r1 False st fun a r => sw_gf False H (some (6, 2, 3)) a fun v => sw_A 142 36 ls (v :: r) H Q) := sw_A_step (cc := cX11_invaded) rfl dX11_invaded_33 rfl ls st H Q
theorem r142_36 : sw_A 142 36 ls st H Q = (sw_A 142 40 ls st H Q) := sw_A_step (cc := cX11_invaded) rfl dX11_invaded_36 rfl ls st H Q
theorem r142_39 : sw_A 142 39 ls st H Q = (sw_A 142 40 ls (.int (Int32.ofInt (-1)) :: st) H Q) := sw_A_step (cc := cX11_invaded) rfl dX11_invaded_39 rfl ls st H Q
theorem r142_40 : sw_A 142 40 ls st H Q = (match st with | [.int x] => Q (some (some (.int x))) H | _ => False) := sw_A_step (cc := cX11_invaded) rfl dX11_invaded_40 rfl ls st H Q
theorem r143_0 : sw_A 143 0 ls st H Q = (sw_lda False ls 0 fun x => sw_A 143 1 ls (.ref x :: st) H Q) := sw_A_step (cc := cL_most) rfl dL_most_0 rfl ls st H Q
theorem r143_1 : sw_A 143 1 ls st H Q = (sw_ldi False ls 1 fun x => sw_A 143 2 ls (.int x :: st) H Q) := sw_A_step (cc := cL_most) rfl dL_most_1 rfl ls st H Q
theorem r143_2 : sw_A 143 2 ls st H Q = (sw_ldi False ls 2 fun x => sw_A 143 3 ls (.int x :: st) H Q) := sw_A_step (cc := cL_most) rfl dL_most_2 rfl ls st H Q
theorem r143_3 : sw_A 143 3 ls st H Q = (sw_pop False 3 st [] fun args r => sw_ck False r (sw_rc False H (some 11) args (sw_M 142 args H (sw_K 143 6 (some 8) ls r Q)))) := sw_A_step (cc := cL_most) rfl dL_most_3 rfl ls st H Q
theorem r143_6 : sw_A 143 6 ls st H Q = (match st with | [.int x] => Q (some (some (.int x))) H | _ => False) := sw_A_step (cc := cL_most) rfl dL_most_6 rfl ls st H Q
theorem r143_7 : sw_A 143 7 ls st H Q = (sw_has1 False ls 3 (sw_r1 False st fun x r => sw_A 143 8 (sw_set1 ls 3 (.ref x)) r H Q)) := sw_A_step (cc := cL_most) rfl dL_most_7 rfl ls st H Q
theorem r143_8 : sw_A 143 8 ls st H Q = (sw_A 143 10 ls (.int (Int32.ofInt (-9)) :: st) H Q) := sw_A_step (cc := cL_most) rfl dL_most_8 rfl ls st H Q
theorem r143_10 : sw_A 143 10 ls st H Q = (match st with | [.int x] => Q (some (some (.int x))) H | _ => False) := sw_A_step (cc := cL_most) rfl dL_most_10 rfl ls st H Q
theorem r144_0 : sw_A 144 0 ls st H Q = (sw_ldl False ls 2 fun x => sw_A 144 1 ls (.long x :: st) H Q) := sw_A_step (cc := cL_comers) rfl dL_comers_0 rfl ls st H Q
theorem r144_1 : sw_A 144 1 ls st H Q = (sw_ldi False ls 4 fun x => sw_A 144 3 ls (.int x :: st) H Q) := sw_A_step (cc := cL_comers) rfl dL_comers_1 rfl ls st H Q
theorem r144_3 : sw_A 144 3 ls st H Q = (sw_pop False 2 st [] fun args r => sw_ck False r (sw_M 30 args H (sw_K 144 6 none ls r Q))) := sw_A_step (cc := cL_comers) rfl dL_comers_3 rfl ls st H Q
theorem r144_6 : sw_A 144 6 ls st H Q = (sw_i1 False st fun x r => if x = 0 then sw_A 144 39 ls r H Q else sw_A 144 9 ls r H Q) := sw_A_step (cc := cL_comers) rfl dL_comers_6 rfl ls st H Q
theorem r144_9 : sw_A 144 9 ls st H Q = (sw_lda False ls 0 fun x => sw_A 144 10 ls (.ref x :: st) H Q) := sw_A_step (cc := cL_comers) rfl dL_comers_9 rfl ls st H Q
theorem r144_10 : sw_A 144 10 ls st H Q = (sw_ldi False ls 4 fun x => sw_A 144 12 ls (.int x :: st) H Q) := sw_A_step (cc := cL_comers) rfl dL_comers_10 rfl ls st H Q
theorem r144_12 : sw_A 144 12 ls st H Q = (sw_A 144 13 ls (.int (Int32.ofInt 0) :: st) H Q) := sw_A_step (cc := cL_comers) rfl dL_comers_12 rfl ls st H Q
theorem r144_13 : sw_A 144 13 ls st H Q = (sw_pop False 3 st [] fun args r => sw_ck False r (sw_M 141 args H (sw_K 144 16 none ls r Q))) := sw_A_step (cc := cL_comers) rfl dL_comers_13 rfl ls st H Q
theorem r144_16 : sw_A 144 16 ls st H Q = (sw_A 144 18 ls (.int (Int32.ofInt (-9)) :: st) H Q) := sw_A_step (cc := cL_comers) rfl dL_comers_16 rfl ls st H Q
theorem r144_18 : sw_A 144 18 ls st H Q = (sw_i2 False st fun x y r => if ¬ x = y then sw_A 144 37 ls r H Q else sw_A 144 21 ls r H Q) := sw_A_step (cc := cL_comers) rfl dL_comers_18 rfl ls st H Q
theorem r144_21 : sw_A 144 21 ls st H Q = (sw_lda False ls 0 fun x => sw_A 144 22 ls (.ref x :: st) H Q) := sw_A_step (cc := cL_comers) rfl dL_comers_21 rfl ls st H Q
theorem r144_22 : sw_A 144 22 ls st H Q = (sw_ldi False ls 4 fun x => sw_A 144 24 ls (.int x :: st) H Q) := sw_A_step (cc := cL_comers) rfl dL_comers_22 rfl ls st H Q
theorem r144_24 : sw_A 144 24 ls st H Q = (sw_A 144 25 ls (.int (Int32.ofInt 1) :: st) H Q) := sw_A_step (cc := cL_comers) rfl dL_comers_24 rfl ls st H Q
theorem r144_25 : sw_A 144 25 ls st H Q = (sw_pop False 3 st [] fun args r => sw_ck False r (sw_M 143 args H (sw_K 144 28 none ls r Q))) := sw_A_step (cc := cL_comers) rfl dL_comers_25 rfl ls st H Q
theorem r144_28 : sw_A 144 28 ls st H Q = (sw_A 144 30 ls (.int (Int32.ofInt (-9)) :: st) H Q) := sw_A_step (cc := cL_comers) rfl dL_comers_28 rfl ls st H Q
theorem r144_30 : sw_A 144 30 ls st H Q = (sw_i2 False st fun x y r => if ¬ x = y then sw_A 144 37 ls r H Q else sw_A 144 33 ls r H Q) := sw_A_step (cc := cL_comers) rfl dL_comers_30 rfl ls st H Q
theorem r144_33 : sw_A 144 33 ls st H Q = (sw_A 144 34 ls (.int (Int32.ofInt 1) :: st) H Q) := sw_A_step (cc := cL_comers) rfl dL_comers_33 rfl ls st H Q
theorem r144_34 : sw_A 144 34 ls st H Q = (sw_A 144 38 ls st H Q) := sw_A_step (cc := cL_comers) rfl dL_comers_34 rfl ls st H Q
theorem r144_37 : sw_A 144 37 ls st H Q = (sw_A 144 38 ls (.int (Int32.ofInt 0) :: st) H Q) := sw_A_step (cc := cL_comers) rfl dL_comers_37 rfl ls st H Q
theorem r144_38 : sw_A 144 38 ls st H Q = (match st with | [.int x] => (if 2 = 1 ∨ 2 = 2 ∧ (x = 0 ∨ x = 1) then Q (some (some (.int x))) H else False) | _ => False) := sw_A_step (cc := cL_comers) rfl dL_comers_38 rfl ls st H Q
theorem r144_39 : sw_A 144 39 ls st H Q = (sw_A 144 40 ls (.long (Int64.ofNat 1) :: st) H Q) := sw_A_step (cc := cL_comers) rfl dL_comers_39 rfl ls st H Q
theorem r144_40 : sw_A 144 40 ls st H Q = (sw_ldi False ls 4 fun x => sw_A 144 42 ls (.int x :: st) H Q) := sw_A_step (cc := cL_comers) rfl dL_comers_40 rfl ls st H Q
theorem r144_42 : sw_A 144 42 ls st H Q = (sw_li False st fun x y r => sw_A 144 43 ls (.long (x <<< (y.toInt64 &&& 63)) :: r) H Q) := sw_A_step (cc := cL_comers) rfl dL_comers_42 rfl ls st H Q
theorem r144_43 : sw_A 144 43 ls st H Q = (sw_has1 False ls 6 (sw_l1 False st fun x r => sw_A 144 45 (sw_set2 ls 5 (.long x)) r H Q)) := sw_A_step (cc := cL_comers) rfl dL_comers_43 rfl ls st H Q
theorem r144_45 : sw_A 144 45 ls st H Q = (sw_A 144 46 ls (.int (Int32.ofInt (-1)) :: st) H Q) := sw_A_step (cc := cL_comers) rfl dL_comers_45 rfl ls st H Q
theorem r144_46 : sw_A 144 46 ls st H Q = (sw_has1 False ls 7 (sw_i1 False st fun x r => sw_A 144 48 (sw_set1 ls 7 (.int x)) r H Q)) := sw_A_step (cc := cL_comers) rfl dL_comers_46 rfl ls st H Q
theorem r144_48 : sw_A 144 48 ls st H Q = (sw_A 144 49 ls (.int (Int32.ofInt 0) :: st) H Q) := sw_A_step (cc := cL_comers) rfl dL_comers_48 rfl ls st H Q
theorem r144_49 : sw_A 144 49 ls st H Q = (sw_has1 False ls 8 (sw_i1 False st fun x r => sw_A 144 51 (sw_set1 ls 8 (.int x)) r H Q)) := sw_A_step (cc := cL_comers) rfl dL_comers_49 rfl ls st H Q
theorem r144_51 : sw_A 144 51 ls st H Q = (sw_ldi False ls 8 fun x => sw_A 144 53 ls (.int x :: st) H Q) := sw_A_step (cc := cL_comers) rfl dL_comers_51 rfl ls st H Q
theorem r144_53 : sw_A 144 53 ls st H Q = (sw_A 144 55 ls (.int (Int32.ofInt 36) :: st) H Q) := sw_A_step (cc := cL_comers) rfl dL_comers_53 rfl ls st H Q
theorem r144_55 : sw_A 144 55 ls st H Q = (sw_i2 False st fun x y r => if y ≤ x then sw_A 144 301 ls r H Q else sw_A 144 58 ls r H Q) := sw_A_step (cc := cL_comers) rfl dL_comers_55 rfl ls st H Q
theorem r144_58 : sw_A 144 58 ls st H Q = (sw_A 144 59 ls (.int (Int32.ofInt (-1)) :: st) H Q) := sw_A_step (cc := cL_comers) rfl dL_comers_58 rfl ls st H Q
theorem r144_59 : sw_A 144 59 ls st H Q = (sw_has1 False ls 9 (sw_i1 False st fun x r => sw_A 144 61 (sw_set1 ls 9 (.int x)) r H Q)) := sw_A_step (cc := cL_comers) rfl dL_comers_59 rfl ls st H Q
theorem r144_61 : sw_A 144 61 ls st H Q = (sw_A 144 62 ls (.int (Int32.ofInt 0) :: st) H Q) := sw_A_step (cc := cL_comers) rfl dL_comers_61 rfl ls st H Q
theorem r144_62 : sw_A 144 62 ls st H Q = (sw_has1 False ls 10 (sw_i1 False st fun x r => sw_A 144 64 (sw_set1 ls 10 (.int x)) r H Q)) := sw_A_step (cc := cL_comers) rfl dL_comers_62 rfl ls st H Q
theorem r144_64 : sw_A 144 64 ls st H Q = (sw_ldi False ls 10 fun x => sw_A 144 66 ls (.int x :: st) H Q) := sw_A_step (cc := cL_comers) rfl dL_comers_64 rfl ls st H Q
theorem r144_66 : sw_A 144 66 ls st H Q = (sw_A 144 68 ls (.int (Int32.ofInt 60) :: st) H Q) := sw_A_step (cc := cL_comers) rfl dL_comers_66 rfl ls st H Q
theorem r144_68 : sw_A 144 68 ls st H Q = (sw_i2 False st fun x y r => if y ≤ x then sw_A 144 161 ls r H Q else sw_A 144 71 ls r H Q) := sw_A_step (cc := cL_comers) rfl dL_comers_68 rfl ls st H Q
theorem r144_71 : sw_A 144 71 ls st H Q = (sw_ldi False ls 8 fun x => sw_A 144 73 ls (.int x :: st) H Q) := sw_A_step (cc := cL_comers) rfl dL_comers_71 rfl ls st H Q
theorem r144_73 : sw_A 144 73 ls st H Q = (sw_i1 False st fun x r => if x ≤ 0 then sw_A 144 161 ls r H Q else sw_A 144 76 ls r H Q) := sw_A_step (cc := cL_comers) rfl dL_comers_73 rfl ls st H Q
theorem r144_76 : sw_A 144 76 ls st H Q = (sw_ldl False ls 5 fun x => sw_A 144 78 ls (.long x :: st) H Q) := sw_A_step (cc := cL_comers) rfl dL_comers_76 rfl ls st H Q
theorem r144_78 : sw_A 144 78 ls st H Q = (sw_ldi False ls 10 fun x => sw_A 144 80 ls (.int x :: st) H Q) := sw_A_step (cc := cL_comers) rfl dL_comers_78 rfl ls st H Q
theorem r144_80 : sw_A 144 80 ls st H Q = (sw_pop False 1 st [] fun args r => sw_ck False r (sw_M 79 args H (sw_K 144 83 none ls r Q))) := sw_A_step (cc := cL_comers) rfl dL_comers_80 rfl ls st H Q
theorem r144_83 : sw_A 144 83 ls st H Q = (sw_pop False 2 st [] fun args r => sw_ck False r (sw_M 30 args H (sw_K 144 86 none ls r Q))) := sw_A_step (cc := cL_comers) rfl dL_comers_83 rfl ls st H Q
theorem r144_86 : sw_A 144 86 ls st H Q = (sw_ldl False ls 5 fun x => sw_A 144 88 ls (.long x :: st) H Q) := sw_A_step (cc := cL_comers) rfl dL_comers_86 rfl ls st H Q
theorem r144_88 : sw_A 144 88 ls st H Q = (sw_ldi False ls 10 fun x => sw_A 144 90 ls (.int x :: st) H Q) := sw_A_step (cc := cL_comers) rfl dL_comers_88 rfl ls st H Q
theorem r144_90 : sw_A 144 90 ls st H Q = (sw_pop False 1 st [] fun args r => sw_ck False r (sw_M 80 args H (sw_K 144 93 none ls r Q))) := sw_A_step (cc := cL_comers) rfl dL_comers_90 rfl ls st H Q
theorem r144_93 : sw_A 144 93 ls st H Q = (sw_pop False 2 st [] fun args r => sw_ck False r (sw_M 30 args H (sw_K 144 96 none ls r Q))) := sw_A_step (cc := cL_comers) rfl dL_comers_93 rfl ls st H Q
theorem r144_96 : sw_A 144 96 ls st H Q = (sw_i2 False st fun x y r => if x = y then sw_A 144 127 ls r H Q else sw_A 144 99 ls r H Q) := sw_A_step (cc := cL_comers) rfl dL_comers_96 rfl ls st H Q
theorem r144_99 : sw_A 144 99 ls st H Q = (sw_ldl False ls 2 fun x => sw_A 144 100 ls (.long x :: st) H Q) := sw_A_step (cc := cL_comers) rfl dL_comers_99 rfl ls st H Q
theorem r144_100 : sw_A 144 100 ls st H Q = (sw_ldi False ls 10 fun x => sw_A 144 102 ls (.int x :: st) H Q) := sw_A_step (cc := cL_comers) rfl dL_comers_100 rfl ls st H Q
theorem r144_102 : sw_A 144 102 ls st H Q = (sw_pop False 1 st [] fun args r => sw_ck False r (sw_M 79 args H (sw_K 144 105 none ls r Q))) := sw_A_step (cc := cL_comers) rfl dL_comers_102 rfl ls st H Q
theorem r144_105 : sw_A 144 105 ls st H Q = (sw_pop False 2 st [] fun args r => sw_ck False r (sw_M 30 args H (sw_K 144 108 none ls r Q))) := sw_A_step (cc := cL_comers) rfl dL_comers_105 rfl ls st H Q
theorem r144_108 : sw_A 144 108 ls st H Q = (sw_i1 False st fun x r => if ¬ x = 0 then sw_A 144 127 ls r H Q else sw_A 144 111 ls r H Q) := sw_A_step (cc := cL_comers) rfl dL_comers_108 rfl ls st H Q
theorem r144_111 : sw_A 144 111 ls st H Q = (sw_ldl False ls 2 fun x => sw_A 144 112 ls (.long x :: st) H Q) := sw_A_step (cc := cL_comers) rfl dL_comers_111 rfl ls st H Q
theorem r144_112 : sw_A 144 112 ls st H Q = (sw_ldi False ls 10 fun x => sw_A 144 114 ls (.int x :: st) H Q) := sw_A_step (cc := cL_comers) rfl dL_comers_112 rfl ls st H Q
theorem r144_114 : sw_A 144 114 ls st H Q = (sw_pop False 1 st [] fun args r => sw_ck False r (sw_M 80 args H (sw_K 144 117 none ls r Q))) := sw_A_step (cc := cL_comers) rfl dL_comers_114 rfl ls st H Q
theorem r144_117 : sw_A 144 117 ls st H Q = (sw_pop False 2 st [] fun args r => sw_ck False r (sw_M 30 args H (sw_K 144 120 none ls r Q))) := sw_A_step (cc := cL_comers) rfl dL_comers_117 rfl ls st H Q
theorem r144_120 : sw_A 144 120 ls st H Q = (sw_i1 False st fun x r => if ¬ x = 0 then sw_A 144 127 ls r H Q else sw_A 144 123 ls r H Q) := sw_A_step (cc := cL_comers) rfl dL_comers_120 rfl ls st H Q
theorem r144_123 : sw_A 144 123 ls st H Q = (sw_A 144 124 ls (.int (Int32.ofInt 1) :: st) H Q) := sw_A_step (cc := cL_comers) rfl dL_comers_123 rfl ls st H Q
theorem r144_124 : sw_A 144 124 ls st H Q = (sw_A 144 128 ls st H Q) := sw_A_step (cc := cL_comers) rfl dL_comers_124 rfl ls st H Q
theorem r144_127 : sw_A 144 127 ls st H Q = (sw_A 144 128 ls (.int (Int32.ofInt 0) :: st) H Q) := sw_A_step (cc := cL_comers) rfl dL_comers_127 rfl ls st H Q
theorem r144_128 : sw_A 144 128 ls st H Q = (sw_has1 False ls 11 (sw_i1 False st fun x r => sw_A 144 130 (sw_set1 ls 11 (.int x)) r H Q)) := sw_A_step (cc := cL_comers) rfl dL_comers_128 rfl ls st H Q
theorem r144_130 : sw_A 144 130 ls st H Q = (sw_ldi False ls 11 fun x => sw_A 144 132 ls (.int x :: st) H Q) := sw_A_step (cc := cL_comers) rfl dL_comers_130 rfl ls st H Q
theorem r144_132 : sw_A 144 132 ls st H Q = (sw_i1 False st fun x r => if x = 0 then sw_A 144 155 ls r H Q else sw_A 144 135 ls r H Q) := sw_A_step (cc := cL_comers) rfl dL_comers_132 rfl ls st H Q
theorem r144_135 : sw_A 144 135 ls st H Q = (sw_ldi False ls 9 fun x => sw_A 144 137 ls (.int x :: st) H Q) := sw_A_step (cc := cL_comers) rfl dL_comers_135 rfl ls st H Q
theorem r144_137 : sw_A 144 137 ls st H Q = (sw_i1 False st fun x r => if x < 0 then sw_A 144 151 ls r H Q else sw_A 144 140 ls r H Q) := sw_A_step (cc := cL_comers) rfl dL_comers_137 rfl ls st H Q
theorem r144_140 : sw_A 144 140 ls st H Q = (sw_lda False ls 1 fun x => sw_A 144 141 ls (.ref x :: st) H Q) := sw_A_step (cc := cL_comers) rfl dL_comers_140 rfl ls st H Q
theorem r144_141 : sw_A 144 141 ls st H Q = (sw_ldi False ls 10 fun x => sw_A 144 143 ls (.int x :: st) H Q) := sw_A_step (cc := cL_comers) rfl dL_comers_141 rfl ls st H Q
theorem r144_143 : sw_A 144 143 ls st H Q = (sw_ri False st fun a i r => sw_ald False H 0 a i fun x => sw_A 144 144 ls (.int x :: r) H Q) := sw_A_step (cc := cL_comers) rfl dL_comers_143 rfl ls st H Q
theorem r144_144 : sw_A 144 144 ls st H Q = (sw_lda False ls 1 fun x => sw_A 144 145 ls (.ref x :: st) H Q) := sw_A_step (cc := cL_comers) rfl dL_comers_144 rfl ls st H Q
theorem r144_145 : sw_A 144 145 ls st H Q = (sw_ldi False ls 9 fun x => sw_A 144 147 ls (.int x :: st) H Q) := sw_A_step (cc := cL_comers) rfl dL_comers_145 rfl ls st H Q
theorem r144_147 : sw_A 144 147 ls st H Q = (sw_ri False st fun a i r => sw_ald False H 0 a i fun x => sw_A 144 148 ls (.int x :: r) H Q) := sw_A_step (cc := cL_comers) rfl dL_comers_147 rfl ls st H Q
theorem r144_148 : sw_A 144 148 ls st H Q = (sw_i2 False st fun x y r => if y ≤ x then sw_A 144 155 ls r H Q else sw_A 144 151 ls r H Q) := sw_A_step (cc := cL_comers) rfl dL_comers_148 rfl ls st H Q
theorem r144_151 : sw_A 144 151 ls st H Q = (sw_ldi False ls 10 fun x => sw_A 144 153 ls (.int x :: st) H Q) := sw_A_step (cc := cL_comers) rfl dL_comers_151 rfl ls st H Q
theorem r144_153 : sw_A 144 153 ls st H Q = (sw_has1 False ls 9 (sw_i1 False st fun x r => sw_A 144 155 (sw_set1 ls 9 (.int x)) r H Q)) := sw_A_step (cc := cL_comers) rfl dL_comers_153 rfl ls st H Q
theorem r144_155 : sw_A 144 155 ls st H Q = (sw_ldi False ls 10 fun x => sw_A 144 158 (sw_set1 ls 10 (.int (x + Int32.ofInt 1))) st H Q) := sw_A_step (cc := cL_comers) rfl dL_comers_155 rfl ls st H Q
theorem r144_158 : sw_A 144 158 ls st H Q = (sw_A 144 64 ls st H Q) := sw_A_step (cc := cL_comers) rfl dL_comers_158 rfl ls st H Q
theorem r144_161 : sw_A 144 161 ls st H Q = (sw_ldi False ls 8 fun x => sw_A 144 163 ls (.int x :: st) H Q) := sw_A_step (cc := cL_comers) rfl dL_comers_161 rfl ls st H Q
theorem r144_163 : sw_A 144 163 ls st H Q = (sw_i1 False st fun x r => if ¬ x = 0 then sw_A 144 171 ls r H Q else sw_A 144 166 ls r H Q) := sw_A_step (cc := cL_comers) rfl dL_comers_163 rfl ls st H Q
theorem r144_166 : sw_A 144 166 ls st H Q = (sw_ldi False ls 4 fun x => sw_A 144 168 ls (.int x :: st) H Q) := sw_A_step (cc := cL_comers) rfl dL_comers_166 rfl ls st H Q
theorem r144_168 : sw_A 144 168 ls st H Q = (sw_A 144 206 ls st H Q) := sw_A_step (cc := cL_comers) rfl dL_comers_168 rfl ls st H Q
theorem r144_171 : sw_A 144 171 ls st H Q = (sw_ldi False ls 9 fun x => sw_A 144 173 ls (.int x :: st) H Q) := sw_A_step (cc := cL_comers) rfl dL_comers_171 rfl ls st H Q
theorem r144_173 : sw_A 144 173 ls st H Q = (sw_i1 False st fun x r => if 0 ≤ x then sw_A 144 180 ls r H Q else sw_A 144 176 ls r H Q) := sw_A_step (cc := cL_comers) rfl dL_comers_173 rfl ls st H Q
theorem r144_176 : sw_A 144 176 ls st H Q = (sw_A 144 177 ls (.int (Int32.ofInt (-1)) :: st) H Q) := sw_A_step (cc := cL_comers) rfl dL_comers_176 rfl ls st H Q
theorem r144_177 : sw_A 144 177 ls st H Q = (sw_A 144 206 ls st H Q) := sw_A_step (cc := cL_comers) rfl dL_comers_177 rfl ls st H Q
theorem r144_180 : sw_A 144 180 ls st H Q = (sw_ldl False ls 5 fun x => sw_A 144 182 ls (.long x :: st) H Q) := sw_A_step (cc := cL_comers) rfl dL_comers_180 rfl ls st H Q
theorem r144_182 : sw_A 144 182 ls st H Q = (sw_ldi False ls 9 fun x => sw_A 144 184 ls (.int x :: st) H Q) := sw_A_step (cc := cL_comers) rfl dL_comers_182 rfl ls st H Q
theorem r144_184 : sw_A 144 184 ls st H Q = (sw_pop False 1 st [] fun args r => sw_ck False r (sw_M 79 args H (sw_K 144 187 none ls r Q))) := sw_A_step (cc := cL_comers) rfl dL_comers_184 rfl ls st H Q
theorem r144_187 : sw_A 144 187 ls st H Q = (sw_pop False 2 st [] fun args r => sw_ck False r (sw_M 30 args H (sw_K 144 190 none ls r Q))) := sw_A_step (cc := cL_comers) rfl dL_comers_187 rfl ls st H Q
theorem r144_190 : sw_A 144 190 ls st H Q = (sw_i1 False st fun x r => if x = 0 then sw_A 144 201 ls r H Q else sw_A 144 193 ls r H Q) := sw_A_step (cc := cL_comers) rfl dL_comers_190 rfl ls st H Q
theorem r144_193 : sw_A 144 193 ls st H Q = (sw_ldi False ls 9 fun x => sw_A 144 195 ls (.int x :: st) H Q) := sw_A_step (cc := cL_comers) rfl dL_comers_193 rfl ls st H Q
theorem r144_195 : sw_A 144 195 ls st H Q = (sw_pop False 1 st [] fun args r => sw_ck False r (sw_M 80 args H (sw_K 144 198 none ls r Q))) := sw_A_step (cc := cL_comers) rfl dL_comers_195 rfl ls st H Q
theorem r144_198 : sw_A 144 198 ls st H Q = (sw_A 144 206 ls st H Q) := sw_A_step (cc := cL_comers) rfl dL_comers_198 rfl ls st H Q
theorem r144_201 : sw_A 144 201 ls st H Q = (sw_ldi False ls 9 fun x => sw_A 144 203 ls (.int x :: st) H Q) := sw_A_step (cc := cL_comers) rfl dL_comers_201 rfl ls st H Q
theorem r144_203 : sw_A 144 203 ls st H Q = (sw_pop False 1 st [] fun args r => sw_ck False r (sw_M 79 args H (sw_K 144 206 none ls r Q))) := sw_A_step (cc := cL_comers) rfl dL_comers_203 rfl ls st H Q
theorem r144_206 : sw_A 144 206 ls st H Q = (sw_has1 False ls 10 (sw_i1 False st fun x r => sw_A 144 208 (sw_set1 ls 10 (.int x)) r H Q)) := sw_A_step (cc := cL_comers) rfl dL_comers_206 rfl ls st H Q
theorem r144_208 : sw_A 144 208 ls st H Q = (sw_ldi False ls 9 fun x => sw_A 144 210 ls (.int x :: st) H Q) := sw_A_step (cc := cL_comers) rfl dL_comers_208 rfl ls st H Q
theorem r144_210 : sw_A 144 210 ls st H Q = (sw_i1 False st fun x r => if x < 0 then sw_A 144 228 ls r H Q else sw_A 144 213 ls r H Q) := sw_A_step (cc := cL_comers) rfl dL_comers_210 rfl ls st H Q
theorem r144_213 : sw_A 144 213 ls st H Q = (sw_lda False ls 1 fun x => sw_A 144 214 ls (.ref x :: st) H Q) := sw_A_step (cc := cL_comers) rfl dL_comers_213 rfl ls st H Q
theorem r144_214 : sw_A 144 214 ls st H Q = (sw_ldi False ls 9 fun x => sw_A 144 216 ls (.int x :: st) H Q) := sw_A_step (cc := cL_comers) rfl dL_comers_214 rfl ls st H Q
theorem r144_216 : sw_A 144 216 ls st H Q = (sw_ri False st fun a i r => sw_ald False H 0 a i fun x => sw_A 144 217 ls (.int x :: r) H Q) := sw_A_step (cc := cL_comers) rfl dL_comers_216 rfl ls st H Q
theorem r144_217 : sw_A 144 217 ls st H Q = (sw_ldi False ls 7 fun x => sw_A 144 219 ls (.int x :: st) H Q) := sw_A_step (cc := cL_comers) rfl dL_comers_217 rfl ls st H Q
theorem r144_219 : sw_A 144 219 ls st H Q = (sw_i2 False st fun x y r => if x ≤ y then sw_A 144 228 ls r H Q else sw_A 144 222 ls r H Q) := sw_A_step (cc := cL_comers) rfl dL_comers_219 rfl ls st H Q
theorem r144_222 : sw_A 144 222 ls st H Q = (sw_lda False ls 1 fun x => sw_A 144 223 ls (.ref x :: st) H Q) := sw_A_step (cc := cL_comers) rfl dL_comers_222 rfl ls st H Q
theorem r144_223 : sw_A 144 223 ls st H Q = (sw_ldi False ls 9 fun x => sw_A 144 225 ls (.int x :: st) H Q) := sw_A_step (cc := cL_comers) rfl dL_comers_223 rfl ls st H Q
theorem r144_225 : sw_A 144 225 ls st H Q = (sw_ri False st fun a i r => sw_ald False H 0 a i fun x => sw_A 144 226 ls (.int x :: r) H Q) := sw_A_step (cc := cL_comers) rfl dL_comers_225 rfl ls st H Q
theorem r144_226 : sw_A 144 226 ls st H Q = (sw_has1 False ls 7 (sw_i1 False st fun x r => sw_A 144 228 (sw_set1 ls 7 (.int x)) r H Q)) := sw_A_step (cc := cL_comers) rfl dL_comers_226 rfl ls st H Q
theorem r144_228 : sw_A 144 228 ls st H Q = (sw_lda False ls 0 fun x => sw_A 144 229 ls (.ref x :: st) H Q) := sw_A_step (cc := cL_comers) rfl dL_comers_228 rfl ls st H Q
theorem r144_229 : sw_A 144 229 ls st H Q = (sw_ldi False ls 4 fun x => sw_A 144 231 ls (.int x :: st) H Q) := sw_A_step (cc := cL_comers) rfl dL_comers_229 rfl ls st H Q
theorem r144_231 : sw_A 144 231 ls st H Q = (sw_ldi False ls 8 fun x => sw_A 144 233 ls (.int x :: st) H Q) := sw_A_step (cc := cL_comers) rfl dL_comers_231 rfl ls st H Q
theorem r144_233 : sw_A 144 233 ls st H Q = (sw_pop False 3 st [] fun args r => sw_ck False r (sw_M 141 args H (sw_K 144 236 none ls r Q))) := sw_A_step (cc := cL_comers) rfl dL_comers_233 rfl ls st H Q
theorem r144_236 : sw_A 144 236 ls st H Q = (sw_ldi False ls 10 fun x => sw_A 144 238 ls (.int x :: st) H Q) := sw_A_step (cc := cL_comers) rfl dL_comers_236 rfl ls st H Q
theorem r144_238 : sw_A 144 238 ls st H Q = (sw_i2 False st fun x y r => if ¬ x = y then sw_A 144 263 ls r H Q else sw_A 144 241 ls r H Q) := sw_A_step (cc := cL_comers) rfl dL_comers_238 rfl ls st H Q
theorem r144_241 : sw_A 144 241 ls st H Q = (sw_lda False ls 0 fun x => sw_A 144 242 ls (.ref x :: st) H Q) := sw_A_step (cc := cL_comers) rfl dL_comers_241 rfl ls st H Q
theorem r144_242 : sw_A 144 242 ls st H Q = (sw_ldi False ls 4 fun x => sw_A 144 244 ls (.int x :: st) H Q) := sw_A_step (cc := cL_comers) rfl dL_comers_242 rfl ls st H Q
theorem r144_244 : sw_A 144 244 ls st H Q = (sw_ldi False ls 8 fun x => sw_A 144 246 ls (.int x :: st) H Q) := sw_A_step (cc := cL_comers) rfl dL_comers_244 rfl ls st H Q
theorem r144_246 : sw_A 144 246 ls st H Q = (sw_pop False 3 st [] fun args r => sw_ck False r (sw_M 143 args H (sw_K 144 249 none ls r Q))) := sw_A_step (cc := cL_comers) rfl dL_comers_246 rfl ls st H Q
theorem r144_249 : sw_A 144 249 ls st H Q = (sw_ldi False ls 10 fun x => sw_A 144 251 ls (.int x :: st) H Q) := sw_A_step (cc := cL_comers) rfl dL_comers_249 rfl ls st H Q
theorem r144_251 : sw_A 144 251 ls st H Q = (sw_i1 False st fun x r => if 0 ≤ x then sw_A 144 258 ls r H Q else sw_A 144 254 ls r H Q) := sw_A_step (cc := cL_comers) rfl dL_comers_251 rfl ls st H Q
theorem r144_254 : sw_A 144 254 ls st H Q = (sw_A 144 255 ls (.int (Int32.ofInt (-1)) :: st) H Q) := sw_A_step (cc := cL_comers) rfl dL_comers_254 rfl ls st H Q
theorem r144_255 : sw_A 144 255 ls st H Q = (sw_A 144 260 ls st H Q) := sw_A_step (cc := cL_comers) rfl dL_comers_255 rfl ls st H Q
theorem r144_258 : sw_A 144 258 ls st H Q = (sw_ldi False ls 7 fun x => sw_A 144 260 ls (.int x :: st) H Q) := sw_A_step (cc := cL_comers) rfl dL_comers_258 rfl ls st H Q
theorem r144_260 : sw_A 144 260 ls st H Q = (sw_i2 False st fun x y r => if x = y then sw_A 144 265 ls r H Q else sw_A 144 263 ls r H Q) := sw_A_step (cc := cL_comers) rfl dL_comers_260 rfl ls st H Q
theorem r144_263 : sw_A 144 263 ls st H Q = (sw_A 144 264 ls (.int (Int32.ofInt 0) :: st) H Q) := sw_A_step (cc := cL_comers) rfl dL_comers_263 rfl ls st H Q
theorem r144_264 : sw_A 144 264 ls st H Q = (match st with | [.int x] => (if 2 = 1 ∨ 2 = 2 ∧ (x = 0 ∨ x = 1) then Q (some (some (.int x))) H else False) | _ => False) := sw_A_step (cc := cL_comers) rfl dL_comers_264 rfl ls st H Q
theorem r144_265 : sw_A 144 265 ls st H Q = (sw_ldi False ls 10 fun x => sw_A 144 267 ls (.int x :: st) H Q) := sw_A_step (cc := cL_comers) rfl dL_comers_265 rfl ls st H Q
theorem r144_267 : sw_A 144 267 ls st H Q = (sw_i1 False st fun x r => if 0 ≤ x then sw_A 144 286 ls r H Q else sw_A 144 270 ls r H Q) := sw_A_step (cc := cL_comers) rfl dL_comers_267 rfl ls st H Q
theorem r144_270 : sw_A 144 270 ls st H Q = (sw_ldi False ls 8 fun x => sw_A 144 272 ls (.int x :: st) H Q) := sw_A_step (cc := cL_comers) rfl dL_comers_270 rfl ls st H Q
theorem r144_272 : sw_A 144 272 ls st H Q = (sw_ldl False ls 5 fun x => sw_A 144 274 ls (.long x :: st) H Q) := sw_A_step (cc := cL_comers) rfl dL_comers_272 rfl ls st H Q
theorem r144_274 : sw_A 144 274 ls st H Q = (sw_pop False 1 st [] fun args r => sw_ck False r (sw_M 37 args H (sw_K 144 277 none ls r Q))) := sw_A_step (cc := cL_comers) rfl dL_comers_274 rfl ls st H Q
theorem r144_277 : sw_A 144 277 ls st H Q = (sw_i2 False st fun x y r => if ¬ x = y then sw_A 144 284 ls r H Q else sw_A 144 280 ls r H Q) := sw_A_step (cc := cL_comers) rfl dL_comers_277 rfl ls st H Q
theorem r144_280 : sw_A 144 280 ls st H Q = (sw_A 144 281 ls (.int (Int32.ofInt 1) :: st) H Q) := sw_A_step (cc := cL_comers) rfl dL_comers_280 rfl ls st H Q
theorem r144_281 : sw_A 144 281 ls st H Q = (sw_A 144 285 ls st H Q) := sw_A_step (cc := cL_comers) rfl dL_comers_281 rfl ls st H Q
theorem r144_284 : sw_A 144 284 ls st H Q = (sw_A 144 285 ls (.int (Int32.ofInt 0) :: st) H Q) := sw_A_step (cc := cL_comers) rfl dL_comers_284 rfl ls st H Q
theorem r144_285 : sw_A 144 285 ls st H Q = (match st with | [.int x] => (if 2 = 1 ∨ 2 = 2 ∧ (x = 0 ∨ x = 1) then Q (some (some (.int x))) H else False) | _ => False) := sw_A_step (cc := cL_comers) rfl dL_comers_285 rfl ls st H Q
theorem r144_286 : sw_A 144 286 ls st H Q = (sw_ldl False ls 5 fun x => sw_A 144 288 ls (.long x :: st) H Q) := sw_A_step (cc := cL_comers) rfl dL_comers_286 rfl ls st H Q
theorem r144_288 : sw_A 144 288 ls st H Q = (sw_A 144 289 ls (.long (Int64.ofNat 1) :: st) H Q) := sw_A_step (cc := cL_comers) rfl dL_comers_288 rfl ls st H Q
theorem r144_289 : sw_A 144 289 ls st H Q = (sw_ldi False ls 10 fun x => sw_A 144 291 ls (.int x :: st) H Q) := sw_A_step (cc := cL_comers) rfl dL_comers_289 rfl ls st H Q
theorem r144_291 : sw_A 144 291 ls st H Q = (sw_li False st fun x y r => sw_A 144 292 ls (.long (x <<< (y.toInt64 &&& 63)) :: r) H Q) := sw_A_step (cc := cL_comers) rfl dL_comers_291 rfl ls st H Q
theorem r144_292 : sw_A 144 292 ls st H Q = (sw_l2 False st fun x y r => sw_A 144 293 ls (.long (x ||| y) :: r) H Q) := sw_A_step (cc := cL_comers) rfl dL_comers_292 rfl ls st H Q
theorem r144_293 : sw_A 144 293 ls st H Q = (sw_has1 False ls 6 (sw_l1 False st fun x r => sw_A 144 295 (sw_set2 ls 5 (.long x)) r H Q)) := sw_A_step (cc := cL_comers) rfl dL_comers_293 rfl ls st H Q
theorem r144_295 : sw_A 144 295 ls st H Q = (sw_ldi False ls 8 fun x => sw_A 144 298 (sw_set1 ls 8 (.int (x + Int32.ofInt 1))) st H Q) := sw_A_step (cc := cL_comers) rfl dL_comers_295 rfl ls st H Q
theorem r144_298 : sw_A 144 298 ls st H Q = (sw_A 144 51 ls st H Q) := sw_A_step (cc := cL_comers) rfl dL_comers_298 rfl ls st H Q
theorem r144_301 : sw_A 144 301 ls st H Q = (sw_A 144 302 ls (.int (Int32.ofInt 1) :: st) H Q) := sw_A_step (cc := cL_comers) rfl dL_comers_301 rfl ls st H Q
theorem r144_302 : sw_A 144 302 ls st H Q = (match st with | [.int x] => (if 2 = 1 ∨ 2 = 2 ∧ (x = 0 ∨ x = 1) then Q (some (some (.int x))) H else False) | _ => False) := sw_A_step (cc := cL_comers) rfl dL_comers_302 rfl ls st H Q
theorem r145_0 : sw_A 145 0 ls st H Q = (sw_A 145 2 ls (.int (Int32.ofInt 36) :: st) H Q) := sw_A_step (cc := cL_times) rfl dL_times_0 rfl ls st H Q
theorem r145_2 : sw_A 145 2 ls st H Q = (sw_i1 False st fun n r => sw_nw False H 0 n fun H1 => sw_A 145 4 ls (.ref H.2.1 :: r) H1 Q) := sw_A_step (cc := cL_times) rfl dL_times_2 rfl ls st H Q
theorem r145_4 : sw_A 145 4 ls st H Q = (sw_has1 False ls 6 (sw_r1 False st fun x r => sw_A 145 6 (sw_set1 ls 6 (.ref x)) r H Q)) := sw_A_step (cc := cL_times) rfl dL_times_4 rfl ls st H Q
theorem r145_6 : sw_A 145 6 ls st H Q = (sw_A 145 8 ls (.int (Int32.ofInt 36) :: st) H Q) := sw_A_step (cc := cL_times) rfl dL_times_6 rfl ls st H Q
theorem r145_8 : sw_A 145 8 ls st H Q = (sw_i1 False st fun n r => sw_nw False H 0 n fun H1 => sw_A 145 10 ls (.ref H.2.1 :: r) H1 Q) := sw_A_step (cc := cL_times) rfl dL_times_8 rfl ls st H Q
theorem r145_10 : sw_A 145 10 ls st H Q = (sw_has1 False ls 7 (sw_r1 False st fun x r => sw_A 145 12 (sw_set1 ls 7 (.ref x)) r H Q)) := sw_A_step (cc := cL_times) rfl dL_times_10 rfl ls st H Q
theorem r145_12 : sw_A 145 12 ls st H Q = (sw_ldi False ls 4 fun x => sw_A 145 14 ls (.int x :: st) H Q) := sw_A_step (cc := cL_times) rfl dL_times_12 rfl ls st H Q
theorem r145_14 : sw_A 145 14 ls st H Q = (sw_A 145 16 ls (.int (Int32.ofInt 36) :: st) H Q) := sw_A_step (cc := cL_times) rfl dL_times_14 rfl ls st H Q
theorem r145_16 : sw_A 145 16 ls st H Q = (sw_pop False 2 st [] fun args r => sw_ck False r (sw_M 16 args H (sw_K 145 19 none ls r Q))) := sw_A_step (cc := cL_times) rfl dL_times_16 rfl ls st H Q
theorem r145_19 : sw_A 145 19 ls st H Q = (sw_has1 False ls 8 (sw_i1 False st fun x r => sw_A 145 21 (sw_set1 ls 8 (.int x)) r H Q)) := sw_A_step (cc := cL_times) rfl dL_times_19 rfl ls st H Q
theorem r145_21 : sw_A 145 21 ls st H Q = (sw_ldi False ls 8 fun x => sw_A 145 23 ls (.int x :: st) H Q) := sw_A_step (cc := cL_times) rfl dL_times_21 rfl ls st H Q
theorem r145_23 : sw_A 145 23 ls st H Q = (sw_A 145 24 ls (.int (Int32.ofInt 1) :: st) H Q) := sw_A_step (cc := cL_times) rfl dL_times_23 rfl ls st H Q
theorem r145_24 : sw_A 145 24 ls st H Q = (sw_i2 False st fun x y r => sw_A 145 25 ls (.int (x + y) :: r) H Q) := sw_A_step (cc := cL_times) rfl dL_times_24 rfl ls st H Q
theorem r145_25 : sw_A 145 25 ls st H Q = (sw_ldi False ls 5 fun x => sw_A 145 27 ls (.int x :: st) H Q) := sw_A_step (cc := cL_times) rfl dL_times_25 rfl ls st H Q
theorem r145_27 : sw_A 145 27 ls st H Q = (sw_A 145 29 ls (.int (Int32.ofInt 35) :: st) H Q) := sw_A_step (cc := cL_times) rfl dL_times_27 rfl ls st H Q
theorem r145_29 : sw_A 145 29 ls st H Q = (sw_pop False 2 st [] fun args r => sw_ck False r (sw_M 16 args H (sw_K 145 32 none ls r Q))) := sw_A_step (cc := cL_times) rfl dL_times_29 rfl ls st H Q
theorem r145_32 : sw_A 145 32 ls st H Q = (sw_i2 False st fun x y r => sw_A 145 33 ls (.int (x + y) :: r) H Q) := sw_A_step (cc := cL_times) rfl dL_times_32 rfl ls st H Q
theorem r145_33 : sw_A 145 33 ls st H Q = (sw_A 145 35 ls (.int (Int32.ofInt 36) :: st) H Q) := sw_A_step (cc := cL_times) rfl dL_times_33 rfl ls st H Q
theorem r145_35 : sw_A 145 35 ls st H Q = (sw_i2 False st fun x y r => if y = 0 then False else sw_A 145 36 ls (.int (x - x / y * y) :: r) H Q) := sw_A_step (cc := cL_times) rfl dL_times_35 rfl ls st H Q
theorem r145_36 : sw_A 145 36 ls st H Q = (sw_has1 False ls 9 (sw_i1 False st fun x r => sw_A 145 38 (sw_set1 ls 9 (.int x)) r H Q)) := sw_A_step (cc := cL_times) rfl dL_times_36 rfl ls st H Q
theorem r145_38 : sw_A 145 38 ls st H Q = (sw_lda False ls 1 fun x => sw_A 145 39 ls (.ref x :: st) H Q) := sw_A_step (cc := cL_times) rfl dL_times_38 rfl ls st H Q
theorem r145_39 : sw_A 145 39 ls st H Q = (sw_ldl False ls 2 fun x => sw_A 145 40 ls (.long x :: st) H Q) := sw_A_step (cc := cL_times) rfl dL_times_39 rfl ls st H Q
theorem r145_40 : sw_A 145 40 ls st H Q = (sw_ldi False ls 8 fun x => sw_A 145 42 ls (.int x :: st) H Q) := sw_A_step (cc := cL_times) rfl dL_times_40 rfl ls st H Q
theorem r145_42 : sw_A 145 42 ls st H Q = (sw_lda False ls 6 fun x => sw_A 145 44 ls (.ref x :: st) H Q) := sw_A_step (cc := cL_times) rfl dL_times_42 rfl ls st H Q
theorem r145_44 : sw_A 145 44 ls st H Q = (sw_pop False 4 st [] fun args r => sw_ck False r (sw_M 131 args H (sw_K 145 47 none ls r Q))) := sw_A_step (cc := cL_times) rfl dL_times_44 rfl ls st H Q
theorem r145_47 : sw_A 145 47 ls st H Q = (sw_lda False ls 1 fun x => sw_A 145 48 ls (.ref x :: st) H Q) := sw_A_step (cc := cL_times) rfl dL_times_47 rfl ls st H Q
theorem r145_48 : sw_A 145 48 ls st H Q = (sw_ldl False ls 2 fun x => sw_A 145 49 ls (.long x :: st) H Q) := sw_A_step (cc := cL_times) rfl dL_times_48 rfl ls st H Q
theorem r145_49 : sw_A 145 49 ls st H Q = (sw_ldi False ls 9 fun x => sw_A 145 51 ls (.int x :: st) H Q) := sw_A_step (cc := cL_times) rfl dL_times_49 rfl ls st H Q
theorem r145_51 : sw_A 145 51 ls st H Q = (sw_lda False ls 7 fun x => sw_A 145 53 ls (.ref x :: st) H Q) := sw_A_step (cc := cL_times) rfl dL_times_51 rfl ls st H Q
theorem r145_53 : sw_A 145 53 ls st H Q = (sw_pop False 4 st [] fun args r => sw_ck False r (sw_M 131 args H (sw_K 145 56 none ls r Q))) := sw_A_step (cc := cL_times) rfl dL_times_53 rfl ls st H Q
theorem r145_56 : sw_A 145 56 ls st H Q = (sw_ldi False ls 5 fun x => sw_A 145 58 ls (.int x :: st) H Q) := sw_A_step (cc := cL_times) rfl dL_times_56 rfl ls st H Q
theorem r145_58 : sw_A 145 58 ls st H Q = (sw_A 145 59 ls (.int (Int32.ofInt 3) :: st) H Q) := sw_A_step (cc := cL_times) rfl dL_times_58 rfl ls st H Q
theorem r145_59 : sw_A 145 59 ls st H Q = (sw_i2 False st fun x y r => sw_A 145 60 ls (.int (x >>> (y &&& 31)) :: r) H Q) := sw_A_step (cc := cL_times) rfl dL_times_59 rfl ls st H Q
theorem r145_60 : sw_A 145 60 ls st H Q = (sw_A 145 63 ls (.int (Int32.ofInt 3000) :: st) H Q) := sw_A_step (cc := cL_times) rfl dL_times_60 rfl ls st H Q
theorem r145_63 : sw_A 145 63 ls st H Q = (sw_pop False 2 st [] fun args r => sw_ck False r (sw_M 16 args H (sw_K 145 66 none ls r Q))) := sw_A_step (cc := cL_times) rfl dL_times_63 rfl ls st H Q
theorem r145_66 : sw_A 145 66 ls st H Q = (sw_has1 False ls 10 (sw_i1 False st fun x r => sw_A 145 68 (sw_set1 ls 10 (.int x)) r H Q)) := sw_A_step (cc := cL_times) rfl dL_times_66 rfl ls st H Q
theorem r145_68 : sw_A 145 68 ls st H Q = (sw_A 145 69 ls (.int (Int32.ofInt 0) :: st) H Q) := sw_A_step (cc := cL_times) rfl dL_times_68 rfl ls st H Q
theorem r145_69 : sw_A 145 69 ls st H Q = (sw_has1 False ls 11 (sw_i1 False st fun x r => sw_A 145 71 (sw_set1 ls 11 (.int x)) r H Q)) := sw_A_step (cc := cL_times) rfl dL_times_69 rfl ls st H Q
theorem r145_71 : sw_A 145 71 ls st H Q = (sw_A 145 72 ls (.int (Int32.ofInt 0) :: st) H Q) := sw_A_step (cc := cL_times) rfl dL_times_71 rfl ls st H Q
theorem r145_72 : sw_A 145 72 ls st H Q = (sw_has1 False ls 12 (sw_i1 False st fun x r => sw_A 145 74 (sw_set1 ls 12 (.int x)) r H Q)) := sw_A_step (cc := cL_times) rfl dL_times_72 rfl ls st H Q
theorem r145_74 : sw_A 145 74 ls st H Q = (sw_ldi False ls 12 fun x => sw_A 145 76 ls (.int x :: st) H Q) := sw_A_step (cc := cL_times) rfl dL_times_74 rfl ls st H Q
theorem r145_76 : sw_A 145 76 ls st H Q = (sw_A 145 78 ls (.int (Int32.ofInt 36) :: st) H Q) := sw_A_step (cc := cL_times) rfl dL_times_76 rfl ls st H Q
theorem r145_78 : sw_A 145 78 ls st H Q = (sw_i2 False st fun x y r => if y ≤ x then sw_A 145 223 ls r H Q else sw_A 145 81 ls r H Q) := sw_A_step (cc := cL_times) rfl dL_times_78 rfl ls st H Q
theorem r145_81 : sw_A 145 81 ls st H Q = (sw_lda False ls 0 fun x => sw_A 145 82 ls (.ref x :: st) H Q) := sw_A_step (cc := cL_times) rfl dL_times_81 rfl ls st H Q
theorem r145_82 : sw_A 145 82 ls st H Q = (sw_ldi False ls 8 fun x => sw_A 145 84 ls (.int x :: st) H Q) := sw_A_step (cc := cL_times) rfl dL_times_82 rfl ls st H Q
theorem r145_84 : sw_A 145 84 ls st H Q = (sw_ldi False ls 12 fun x => sw_A 145 86 ls (.int x :: st) H Q) := sw_A_step (cc := cL_times) rfl dL_times_84 rfl ls st H Q
theorem r145_86 : sw_A 145 86 ls st H Q = (sw_pop False 3 st [] fun args r => sw_ck False r (sw_rc False H (some 11) args (sw_M 133 args H (sw_K 145 89 none ls r Q)))) := sw_A_step (cc := cL_times) rfl dL_times_86 rfl ls st H Q
theorem r145_89 : sw_A 145 89 ls st H Q = (sw_lda False ls 6 fun x => sw_A 145 91 ls (.ref x :: st) H Q) := sw_A_step (cc := cL_times) rfl dL_times_89 rfl ls st H Q
theorem r145_91 : sw_A 145 91 ls st H Q = (sw_ldi False ls 12 fun x => sw_A 145 93 ls (.int x :: st) H Q) := sw_A_step (cc := cL_times) rfl dL_times_91 rfl ls st H Q
theorem r145_93 : sw_A 145 93 ls st H Q = (sw_ri False st fun a i r => sw_ald False H 0 a i fun x => sw_A 145 94 ls (.int x :: r) H Q) := sw_A_step (cc := cL_times) rfl dL_times_93 rfl ls st H Q
theorem r145_94 : sw_A 145 94 ls st H Q = (sw_i2 False st fun x y r => if ¬ x = y then sw_A 145 113 ls r H Q else sw_A 145 97 ls r H Q) := sw_A_step (cc := cL_times) rfl dL_times_94 rfl ls st H Q
theorem r145_97 : sw_A 145 97 ls st H Q = (sw_lda False ls 0 fun x => sw_A 145 98 ls (.ref x :: st) H Q) := sw_A_step (cc := cL_times) rfl dL_times_97 rfl ls st H Q
theorem r145_98 : sw_A 145 98 ls st H Q = (sw_ldi False ls 12 fun x => sw_A 145 100 ls (.int x :: st) H Q) := sw_A_step (cc := cL_times) rfl dL_times_98 rfl ls st H Q
theorem r145_100 : sw_A 145 100 ls st H Q = (sw_ldi False ls 9 fun x => sw_A 145 102 ls (.int x :: st) H Q) := sw_A_step (cc := cL_times) rfl dL_times_100 rfl ls st H Q
theorem r145_102 : sw_A 145 102 ls st H Q = (sw_pop False 3 st [] fun args r => sw_ck False r (sw_rc False H (some 11) args (sw_M 133 args H (sw_K 145 105 none ls r Q)))) := sw_A_step (cc := cL_times) rfl dL_times_102 rfl ls st H Q
theorem r145_105 : sw_A 145 105 ls st H Q = (sw_lda False ls 7 fun x => sw_A 145 107 ls (.ref x :: st) H Q) := sw_A_step (cc := cL_times) rfl dL_times_105 rfl ls st H Q
theorem r145_107 : sw_A 145 107 ls st H Q = (sw_ldi False ls 12 fun x => sw_A 145 109 ls (.int x :: st) H Q) := sw_A_step (cc := cL_times) rfl dL_times_107 rfl ls st H Q
theorem r145_109 : sw_A 145 109 ls st H Q = (sw_ri False st fun a i r => sw_ald False H 0 a i fun x => sw_A 145 110 ls (.int x :: r) H Q) := sw_A_step (cc := cL_times) rfl dL_times_109 rfl ls st H Q
theorem r145_110 : sw_A 145 110 ls st H Q = (sw_i2 False st fun x y r => if x = y then sw_A 145 115 ls r H Q else sw_A 145 113 ls r H Q) := sw_A_step (cc := cL_times) rfl dL_times_110 rfl ls st H Q
theorem r145_113 : sw_A 145 113 ls st H Q = (sw_A 145 114 ls (.int (Int32.ofInt 0) :: st) H Q) := sw_A_step (cc := cL_times) rfl dL_times_113 rfl ls st H Q
theorem r145_114 : sw_A 145 114 ls st H Q = (match st with | [.int x] => (if 2 = 1 ∨ 2 = 2 ∧ (x = 0 ∨ x = 1) then Q (some (some (.int x))) H else False) | _ => False) := sw_A_step (cc := cL_times) rfl dL_times_114 rfl ls st H Q
theorem r145_115 : sw_A 145 115 ls st H Q = (sw_ldi False ls 11 fun x => sw_A 145 117 ls (.int x :: st) H Q) := sw_A_step (cc := cL_times) rfl dL_times_115 rfl ls st H Q
theorem r145_117 : sw_A 145 117 ls st H Q = (sw_lda False ls 6 fun x => sw_A 145 119 ls (.ref x :: st) H Q) := sw_A_step (cc := cL_times) rfl dL_times_117 rfl ls st H Q
theorem r145_119 : sw_A 145 119 ls st H Q = (sw_ldi False ls 12 fun x => sw_A 145 121 ls (.int x :: st) H Q) := sw_A_step (cc := cL_times) rfl dL_times_119 rfl ls st H Q
theorem r145_121 : sw_A 145 121 ls st H Q = (sw_ri False st fun a i r => sw_ald False H 0 a i fun x => sw_A 145 122 ls (.int x :: r) H Q) := sw_A_step (cc := cL_times) rfl dL_times_121 rfl ls st H Q
theorem r145_122 : sw_A 145 122 ls st H Q = (sw_i1 False st fun x r => if x < 0 then sw_A 145 139 ls r H Q else sw_A 145 125 ls r H Q) := sw_A_step (cc := cL_times) rfl dL_times_122 rfl ls st H Q
theorem r145_125 : sw_A 145 125 ls st H Q = (sw_lda False ls 6 fun x => sw_A 145 127 ls (.ref x :: st) H Q) := sw_A_step (cc := cL_times) rfl dL_times_125 rfl ls st H Q
theorem r145_127 : sw_A 145 127 ls st H Q = (sw_ldi False ls 12 fun x => sw_A 145 129 ls (.int x :: st) H Q) := sw_A_step (cc := cL_times) rfl dL_times_127 rfl ls st H Q
theorem r145_129 : sw_A 145 129 ls st H Q = (sw_ri False st fun a i r => sw_ald False H 0 a i fun x => sw_A 145 130 ls (.int x :: r) H Q) := sw_A_step (cc := cL_times) rfl dL_times_129 rfl ls st H Q
theorem r145_130 : sw_A 145 130 ls st H Q = (sw_ldi False ls 10 fun x => sw_A 145 132 ls (.int x :: st) H Q) := sw_A_step (cc := cL_times) rfl dL_times_130 rfl ls st H Q
theorem r145_132 : sw_A 145 132 ls st H Q = (sw_i2 False st fun x y r => if y < x then sw_A 145 139 ls r H Q else sw_A 145 135 ls r H Q) := sw_A_step (cc := cL_times) rfl dL_times_132 rfl ls st H Q
theorem r145_135 : sw_A 145 135 ls st H Q = (sw_A 145 136 ls (.int (Int32.ofInt 1) :: st) H Q) := sw_A_step (cc := cL_times) rfl dL_times_135 rfl ls st H Q
theorem r145_136 : sw_A 145 136 ls st H Q = (sw_A 145 140 ls st H Q) := sw_A_step (cc := cL_times) rfl dL_times_136 rfl ls st H Q
theorem r145_139 : sw_A 145 139 ls st H Q = (sw_A 145 140 ls (.int (Int32.ofInt 0) :: st) H Q) := sw_A_step (cc := cL_times) rfl dL_times_139 rfl ls st H Q
theorem r145_140 : sw_A 145 140 ls st H Q = (sw_i2 False st fun x y r => sw_A 145 141 ls (.int (x + y) :: r) H Q) := sw_A_step (cc := cL_times) rfl dL_times_140 rfl ls st H Q
theorem r145_141 : sw_A 145 141 ls st H Q = (sw_has1 False ls 11 (sw_i1 False st fun x r => sw_A 145 143 (sw_set1 ls 11 (.int x)) r H Q)) := sw_A_step (cc := cL_times) rfl dL_times_141 rfl ls st H Q
theorem r145_143 : sw_A 145 143 ls st H Q = (sw_lda False ls 6 fun x => sw_A 145 145 ls (.ref x :: st) H Q) := sw_A_step (cc := cL_times) rfl dL_times_143 rfl ls st H Q
theorem r145_145 : sw_A 145 145 ls st H Q = (sw_ldi False ls 12 fun x => sw_A 145 147 ls (.int x :: st) H Q) := sw_A_step (cc := cL_times) rfl dL_times_145 rfl ls st H Q
theorem r145_147 : sw_A 145 147 ls st H Q = (sw_ri False st fun a i r => sw_ald False H 0 a i fun x => sw_A 145 148 ls (.int x :: r) H Q) := sw_A_step (cc := cL_times) rfl dL_times_147 rfl ls st H Q
theorem r145_148 : sw_A 145 148 ls st H Q = (sw_lda False ls 7 fun x => sw_A 145 150 ls (.ref x :: st) H Q) := sw_A_step (cc := cL_times) rfl dL_times_148 rfl ls st H Q
theorem r145_150 : sw_A 145 150 ls st H Q = (sw_ldi False ls 12 fun x => sw_A 145 152 ls (.int x :: st) H Q) := sw_A_step (cc := cL_times) rfl dL_times_150 rfl ls st H Q
theorem r145_152 : sw_A 145 152 ls st H Q = (sw_ri False st fun a i r => sw_ald False H 0 a i fun x => sw_A 145 153 ls (.int x :: r) H Q) := sw_A_step (cc := cL_times) rfl dL_times_152 rfl ls st H Q
theorem r145_153 : sw_A 145 153 ls st H Q = (sw_i2 False st fun x y r => if ¬ x = y then sw_A 145 160 ls r H Q else sw_A 145 156 ls r H Q) := sw_A_step (cc := cL_times) rfl dL_times_153 rfl ls st H Q
theorem r145_156 : sw_A 145 156 ls st H Q = (sw_A 145 157 ls (.int (Int32.ofInt (-1)) :: st) H Q) := sw_A_step (cc := cL_times) rfl dL_times_156 rfl ls st H Q
theorem r145_157 : sw_A 145 157 ls st H Q = (sw_A 145 198 ls st H Q) := sw_A_step (cc := cL_times) rfl dL_times_157 rfl ls st H Q
theorem r145_160 : sw_A 145 160 ls st H Q = (sw_lda False ls 6 fun x => sw_A 145 162 ls (.ref x :: st) H Q) := sw_A_step (cc := cL_times) rfl dL_times_160 rfl ls st H Q
theorem r145_162 : sw_A 145 162 ls st H Q = (sw_ldi False ls 12 fun x => sw_A 145 164 ls (.int x :: st) H Q) := sw_A_step (cc := cL_times) rfl dL_times_162 rfl ls st H Q
theorem r145_164 : sw_A 145 164 ls st H Q = (sw_ri False st fun a i r => sw_ald False H 0 a i fun x => sw_A 145 165 ls (.int x :: r) H Q) := sw_A_step (cc := cL_times) rfl dL_times_164 rfl ls st H Q
theorem r145_165 : sw_A 145 165 ls st H Q = (sw_i1 False st fun x r => if 0 ≤ x then sw_A 145 172 ls r H Q else sw_A 145 168 ls r H Q) := sw_A_step (cc := cL_times) rfl dL_times_165 rfl ls st H Q
theorem r145_168 : sw_A 145 168 ls st H Q = (sw_A 145 169 ls (.int (Int32.ofInt 1) :: st) H Q) := sw_A_step (cc := cL_times) rfl dL_times_168 rfl ls st H Q
theorem r145_169 : sw_A 145 169 ls st H Q = (sw_A 145 198 ls st H Q) := sw_A_step (cc := cL_times) rfl dL_times_169 rfl ls st H Q
theorem r145_172 : sw_A 145 172 ls st H Q = (sw_lda False ls 7 fun x => sw_A 145 174 ls (.ref x :: st) H Q) := sw_A_step (cc := cL_times) rfl dL_times_172 rfl ls st H Q
theorem r145_174 : sw_A 145 174 ls st H Q = (sw_ldi False ls 12 fun x => sw_A 145 176 ls (.int x :: st) H Q) := sw_A_step (cc := cL_times) rfl dL_times_174 rfl ls st H Q
theorem r145_176 : sw_A 145 176 ls st H Q = (sw_ri False st fun a i r => sw_ald False H 0 a i fun x => sw_A 145 177 ls (.int x :: r) H Q) := sw_A_step (cc := cL_times) rfl dL_times_176 rfl ls st H Q
theorem r145_177 : sw_A 145 177 ls st H Q = (sw_i1 False st fun x r => if x < 0 then sw_A 145 193 ls r H Q else sw_A 145 180 ls r H Q) := sw_A_step (cc := cL_times) rfl dL_times_177 rfl ls st H Q
theorem r145_180 : sw_A 145 180 ls st H Q = (sw_lda False ls 6 fun x => sw_A 145 182 ls (.ref x :: st) H Q) := sw_A_step (cc := cL_times) rfl dL_times_180 rfl ls st H Q
theorem r145_182 : sw_A 145 182 ls st H Q = (sw_ldi False ls 12 fun x => sw_A 145 184 ls (.int x :: st) H Q) := sw_A_step (cc := cL_times) rfl dL_times_182 rfl ls st H Q
theorem r145_184 : sw_A 145 184 ls st H Q = (sw_ri False st fun a i r => sw_ald False H 0 a i fun x => sw_A 145 185 ls (.int x :: r) H Q) := sw_A_step (cc := cL_times) rfl dL_times_184 rfl ls st H Q
theorem r145_185 : sw_A 145 185 ls st H Q = (sw_lda False ls 7 fun x => sw_A 145 187 ls (.ref x :: st) H Q) := sw_A_step (cc := cL_times) rfl dL_times_185 rfl ls st H Q
theorem r145_187 : sw_A 145 187 ls st H Q = (sw_ldi False ls 12 fun x => sw_A 145 189 ls (.int x :: st) H Q) := sw_A_step (cc := cL_times) rfl dL_times_187 rfl ls st H Q
theorem r145_189 : sw_A 145 189 ls st H Q = (sw_ri False st fun a i r => sw_ald False H 0 a i fun x => sw_A 145 190 ls (.int x :: r) H Q) := sw_A_step (cc := cL_times) rfl dL_times_189 rfl ls st H Q
theorem r145_190 : sw_A 145 190 ls st H Q = (sw_i2 False st fun x y r => if y ≤ x then sw_A 145 197 ls r H Q else sw_A 145 193 ls r H Q) := sw_A_step (cc := cL_times) rfl dL_times_190 rfl ls st H Q
theorem r145_193 : sw_A 145 193 ls st H Q = (sw_A 145 194 ls (.int (Int32.ofInt 0) :: st) H Q) := sw_A_step (cc := cL_times) rfl dL_times_193 rfl ls st H Q
theorem r145_194 : sw_A 145 194 ls st H Q = (sw_A 145 198 ls st H Q) := sw_A_step (cc := cL_times) rfl dL_times_194 rfl ls st H Q
theorem r145_197 : sw_A 145 197 ls st H Q = (sw_A 145 198 ls (.int (Int32.ofInt 1) :: st) H Q) := sw_A_step (cc := cL_times) rfl dL_times_197 rfl ls st H Q
theorem r145_198 : sw_A 145 198 ls st H Q = (sw_has1 False ls 13 (sw_i1 False st fun x r => sw_A 145 200 (sw_set1 ls 13 (.int x)) r H Q)) := sw_A_step (cc := cL_times) rfl dL_times_198 rfl ls st H Q
theorem r145_200 : sw_A 145 200 ls st H Q = (sw_lda False ls 0 fun x => sw_A 145 201 ls (.ref x :: st) H Q) := sw_A_step (cc := cL_times) rfl dL_times_200 rfl ls st H Q
theorem r145_201 : sw_A 145 201 ls st H Q = (sw_ldi False ls 8 fun x => sw_A 145 203 ls (.int x :: st) H Q) := sw_A_step (cc := cL_times) rfl dL_times_201 rfl ls st H Q
theorem r145_203 : sw_A 145 203 ls st H Q = (sw_ldi False ls 9 fun x => sw_A 145 205 ls (.int x :: st) H Q) := sw_A_step (cc := cL_times) rfl dL_times_203 rfl ls st H Q
theorem r145_205 : sw_A 145 205 ls st H Q = (sw_ldi False ls 12 fun x => sw_A 145 207 ls (.int x :: st) H Q) := sw_A_step (cc := cL_times) rfl dL_times_205 rfl ls st H Q
theorem r145_207 : sw_A 145 207 ls st H Q = (sw_pop False 4 st [] fun args r => sw_ck False r (sw_rc False H (some 11) args (sw_M 134 args H (sw_K 145 210 none ls r Q)))) := sw_A_step (cc := cL_times) rfl dL_times_207 rfl ls st H Q
theorem r145_210 : sw_A 145 210 ls st H Q = (sw_ldi False ls 13 fun x => sw_A 145 212 ls (.int x :: st) H Q) := sw_A_step (cc := cL_times) rfl dL_times_210 rfl ls st H Q
theorem r145_212 : sw_A 145 212 ls st H Q = (sw_i2 False st fun x y r => if x = y then sw_A 145 217 ls r H Q else sw_A 145 215 ls r H Q) := sw_A_step (cc := cL_times) rfl dL_times_212 rfl ls st H Q
theorem r145_215 : sw_A 145 215 ls st H Q = (sw_A 145 216 ls (.int (Int32.ofInt 0) :: st) H Q) := sw_A_step (cc := cL_times) rfl dL_times_215 rfl ls st H Q
theorem r145_216 : sw_A 145 216 ls st H Q = (match st with | [.int x] => (if 2 = 1 ∨ 2 = 2 ∧ (x = 0 ∨ x = 1) then Q (some (some (.int x))) H else False) | _ => False) := sw_A_step (cc := cL_times) rfl dL_times_216 rfl ls st H Q
theorem r145_217 : sw_A 145 217 ls st H Q = (sw_ldi False ls 12 fun x => sw_A 145 220 (sw_set1 ls 12 (.int (x + Int32.ofInt 1))) st H Q) := sw_A_step (cc := cL_times) rfl dL_times_217 rfl ls st H Q
theorem r145_220 : sw_A 145 220 ls st H Q = (sw_A 145 74 ls st H Q) := sw_A_step (cc := cL_times) rfl dL_times_220 rfl ls st H Q
theorem r145_223 : sw_A 145 223 ls st H Q = (sw_lda False ls 0 fun x => sw_A 145 224 ls (.ref x :: st) H Q) := sw_A_step (cc := cL_times) rfl dL_times_223 rfl ls st H Q
theorem r145_224 : sw_A 145 224 ls st H Q = (sw_ldi False ls 8 fun x => sw_A 145 226 ls (.int x :: st) H Q) := sw_A_step (cc := cL_times) rfl dL_times_224 rfl ls st H Q
theorem r145_226 : sw_A 145 226 ls st H Q = (sw_ldi False ls 10 fun x => sw_A 145 228 ls (.int x :: st) H Q) := sw_A_step (cc := cL_times) rfl dL_times_226 rfl ls st H Q
theorem r145_228 : sw_A 145 228 ls st H Q = (sw_pop False 3 st [] fun args r => sw_ck False r (sw_rc False H (some 11) args (sw_M 136 args H (sw_K 145 231 none ls r Q)))) := sw_A_step (cc := cL_times) rfl dL_times_228 rfl ls st H Q
theorem r145_231 : sw_A 145 231 ls st H Q = (sw_ldi False ls 11 fun x => sw_A 145 233 ls (.int x :: st) H Q) := sw_A_step (cc := cL_times) rfl dL_times_231 rfl ls st H Q
theorem r145_233 : sw_A 145 233 ls st H Q = (sw_i2 False st fun x y r => if ¬ x = y then sw_A 145 251 ls r H Q else sw_A 145 236 ls r H Q) := sw_A_step (cc := cL_times) rfl dL_times_233 rfl ls st H Q
theorem r145_236 : sw_A 145 236 ls st H Q = (sw_lda False ls 0 fun x => sw_A 145 237 ls (.ref x :: st) H Q) := sw_A_step (cc := cL_times) rfl dL_times_236 rfl ls st H Q
theorem r145_237 : sw_A 145 237 ls st H Q = (sw_lda False ls 1 fun x => sw_A 145 238 ls (.ref x :: st) H Q) := sw_A_step (cc := cL_times) rfl dL_times_237 rfl ls st H Q
theorem r145_238 : sw_A 145 238 ls st H Q = (sw_ldl False ls 2 fun x => sw_A 145 239 ls (.long x :: st) H Q) := sw_A_step (cc := cL_times) rfl dL_times_238 rfl ls st H Q
theorem r145_239 : sw_A 145 239 ls st H Q = (sw_ldi False ls 8 fun x => sw_A 145 241 ls (.int x :: st) H Q) := sw_A_step (cc := cL_times) rfl dL_times_239 rfl ls st H Q
theorem r145_241 : sw_A 145 241 ls st H Q = (sw_pop False 4 st [] fun args r => sw_ck False r (sw_M 144 args H (sw_K 145 244 none ls r Q))) := sw_A_step (cc := cL_times) rfl dL_times_241 rfl ls st H Q
theorem r145_244 : sw_A 145 244 ls st H Q = (sw_i1 False st fun x r => if x = 0 then sw_A 145 251 ls r H Q else sw_A 145 247 ls r H Q) := sw_A_step (cc := cL_times) rfl dL_times_244 rfl ls st H Q
theorem r145_247 : sw_A 145 247 ls st H Q = (sw_A 145 248 ls (.int (Int32.ofInt 1) :: st) H Q) := sw_A_step (cc := cL_times) rfl dL_times_247 rfl ls st H Q
theorem r145_248 : sw_A 145 248 ls st H Q = (sw_A 145 252 ls st H Q) := sw_A_step (cc := cL_times) rfl dL_times_248 rfl ls st H Q
theorem r145_251 : sw_A 145 251 ls st H Q = (sw_A 145 252 ls (.int (Int32.ofInt 0) :: st) H Q) := sw_A_step (cc := cL_times) rfl dL_times_251 rfl ls st H Q
theorem r145_252 : sw_A 145 252 ls st H Q = (match st with | [.int x] => (if 2 = 1 ∨ 2 = 2 ∧ (x = 0 ∨ x = 1) then Q (some (some (.int x))) H else False) | _ => False) := sw_A_step (cc := cL_times) rfl dL_times_252 rfl ls st H Q
theorem r146_0 : sw_A 146 0 ls st H Q = (sw_lda False ls 0 fun x => sw_A 146 1 ls (.ref x :: st) H Q) := sw_A_step (cc := cX5_countTrapped) rfl dX5_countTrapped_0 rfl ls st H Q
theorem r146_1 : sw_A 146 1 ls st H Q = (sw_lda False ls 1 fun x => sw_A 146 2 ls (.ref x :: st) H Q) := sw_A_step (cc := cX5_countTrapped) rfl dX5_countTrapped_1 rfl ls st H Q
theorem r146_2 : sw_A 146 2 ls st H Q = (sw_pop False 2 st [] fun args r => sw_ck False r (sw_rc False H (some 5) args (sw_M 73 args H (sw_K 146 5 none ls r Q)))) := sw_A_step (cc := cX5_countTrapped) rfl dX5_countTrapped_2 rfl ls st H Q
theorem r146_5 : sw_A 146 5 ls st H Q = (sw_A 146 6 ls (.int (Int32.ofInt 0) :: st) H Q) := sw_A_step (cc := cX5_countTrapped) rfl dX5_countTrapped_5 rfl ls st H Q
theorem r146_6 : sw_A 146 6 ls st H Q = (sw_has1 False ls 3 (sw_i1 False st fun x r => sw_A 146 7 (sw_set1 ls 3 (.int x)) r H Q)) := sw_A_step (cc := cX5_countTrapped) rfl dX5_countTrapped_6 rfl ls st H Q
theorem r146_7 : sw_A 146 7 ls st H Q = (sw_A 146 8 ls (.int (Int32.ofInt 0) :: st) H Q) := sw_A_step (cc := cX5_countTrapped) rfl dX5_countTrapped_7 rfl ls st H Q
theorem r146_8 : sw_A 146 8 ls st H Q = (sw_has1 False ls 4 (sw_i1 False st fun x r => sw_A 146 10 (sw_set1 ls 4 (.int x)) r H Q)) := sw_A_step (cc := cX5_countTrapped) rfl dX5_countTrapped_8 rfl ls st H Q
theorem r146_10 : sw_A 146 10 ls st H Q = (sw_ldi False ls 4 fun x => sw_A 146 12 ls (.int x :: st) H Q) := sw_A_step (cc := cX5_countTrapped) rfl dX5_countTrapped_10 rfl ls st H Q
theorem r146_12 : sw_A 146 12 ls st H Q = (sw_A 146 14 ls (.int (Int32.ofInt 36) :: st) H Q) := sw_A_step (cc := cX5_countTrapped) rfl dX5_countTrapped_12 rfl ls st H Q
theorem r146_14 : sw_A 146 14 ls st H Q = (sw_i2 False st fun x y r => if y ≤ x then sw_A 146 54 ls r H Q else sw_A 146 17 ls r H Q) := sw_A_step (cc := cX5_countTrapped) rfl dX5_countTrapped_14 rfl ls st H Q
theorem r146_17 : sw_A 146 17 ls st H Q = (sw_lda False ls 1 fun x => sw_A 146 18 ls (.ref x :: st) H Q) := sw_A_step (cc := cX5_countTrapped) rfl dX5_countTrapped_17 rfl ls st H Q
theorem r146_18 : sw_A 146 18 ls st H Q = (sw_ldi False ls 4 fun x => sw_A 146 20 ls (.int x :: st) H Q) := sw_A_step (cc := cX5_countTrapped) rfl dX5_countTrapped_18 rfl ls st H Q
theorem r146_20 : sw_A 146 20 ls st H Q = (sw_ri False st fun a i r => sw_ald False H 1 a i fun x => sw_A 146 21 ls (.int x :: r) H Q) := sw_A_step (cc := cX5_countTrapped) rfl dX5_countTrapped_20 rfl ls st H Q
theorem r146_21 : sw_A 146 21 ls st H Q = (sw_i1 False st fun x r => if ¬ x = 0 then sw_A 146 48 ls r H Q else sw_A 146 24 ls r H Q) := sw_A_step (cc := cX5_countTrapped) rfl dX5_countTrapped_21 rfl ls st H Q
theorem r146_24 : sw_A 146 24 ls st H Q = (sw_lda False ls 0 fun x => sw_A 146 25 ls (.ref x :: st) H Q) := sw_A_step (cc := cX5_countTrapped) rfl dX5_countTrapped_24 rfl ls st H Q
theorem r146_25 : sw_A 146 25 ls st H Q = (sw_r1 False st fun a r => sw_gf False H (some (5, 0, 1)) a fun v => sw_A 146 28 ls (v :: r) H Q) := sw_A_step (cc := cX5_countTrapped) rfl dX5_countTrapped_25 rfl ls st H Q
theorem r146_28 : sw_A 146 28 ls st H Q = (sw_ldi False ls 4 fun x => sw_A 146 30 ls (.int x :: st) H Q) := sw_A_step (cc := cX5_countTrapped) rfl dX5_countTrapped_28 rfl ls st H Q
theorem r146_30 : sw_A 146 30 ls st H Q = (sw_ri False st fun a i r => sw_ald False H 1 a i fun x => sw_A 146 31 ls (.int x :: r) H Q) := sw_A_step (cc := cX5_countTrapped) rfl dX5_countTrapped_30 rfl ls st H Q
theorem r146_31 : sw_A 146 31 ls st H Q = (sw_ldi False ls 2 fun x => sw_A 146 32 ls (.int x :: st) H Q) := sw_A_step (cc := cX5_countTrapped) rfl dX5_countTrapped_31 rfl ls st H Q
theorem r146_32 : sw_A 146 32 ls st H Q = (sw_i2 False st fun x y r => if ¬ x = y then sw_A 146 48 ls r H Q else sw_A 146 35 ls r H Q) := sw_A_step (cc := cX5_countTrapped) rfl dX5_countTrapped_32 rfl ls st H Q
theorem r146_35 : sw_A 146 35 ls st H Q = (sw_lda False ls 0 fun x => sw_A 146 36 ls (.ref x :: st) H Q) := sw_A_step (cc := cX5_countTrapped) rfl dX5_countTrapped_35 rfl ls st H Q
theorem r146_36 : sw_A 146 36 ls st H Q = (sw_r1 False st fun a r => sw_gf False H (some (5, 1, 1)) a fun v => sw_A 146 39 ls (v :: r) H Q) := sw_A_step (cc := cX5_countTrapped) rfl dX5_countTrapped_36 rfl ls st H Q
theorem r146_39 : sw_A 146 39 ls st H Q = (sw_ldi False ls 4 fun x => sw_A 146 41 ls (.int x :: st) H Q) := sw_A_step (cc := cX5_countTrapped) rfl dX5_countTrapped_39 rfl ls st H Q
theorem r146_41 : sw_A 146 41 ls st H Q = (sw_ri False st fun a i r => sw_ald False H 1 a i fun x => sw_A 146 42 ls (.int x :: r) H Q) := sw_A_step (cc := cX5_countTrapped) rfl dX5_countTrapped_41 rfl ls st H Q
theorem r146_42 : sw_A 146 42 ls st H Q = (sw_i1 False st fun x r => if ¬ x = 0 then sw_A 146 48 ls r H Q else sw_A 146 45 ls r H Q) := sw_A_step (cc := cX5_countTrapped) rfl dX5_countTrapped_42 rfl ls st H Q
theorem r146_45 : sw_A 146 45 ls st H Q = (sw_ldi False ls 3 fun x => sw_A 146 48 (sw_set1 ls 3 (.int (x + Int32.ofInt 1))) st H Q) := sw_A_step (cc := cX5_countTrapped) rfl dX5_countTrapped_45 rfl ls st H Q
theorem r146_48 : sw_A 146 48 ls st H Q = (sw_ldi False ls 4 fun x => sw_A 146 51 (sw_set1 ls 4 (.int (x + Int32.ofInt 1))) st H Q) := sw_A_step (cc := cX5_countTrapped) rfl dX5_countTrapped_48 rfl ls st H Q
theorem r146_51 : sw_A 146 51 ls st H Q = (sw_A 146 10 ls st H Q) := sw_A_step (cc := cX5_countTrapped) rfl dX5_countTrapped_51 rfl ls st H Q
theorem r146_54 : sw_A 146 54 ls st H Q = (sw_ldi False ls 3 fun x => sw_A 146 55 ls (.int x :: st) H Q) := sw_A_step (cc := cX5_countTrapped) rfl dX5_countTrapped_54 rfl ls st H Q
theorem r146_55 : sw_A 146 55 ls st H Q = (match st with | [.int x] => Q (some (some (.int x))) H | _ => False) := sw_A_step (cc := cX5_countTrapped) rfl dX5_countTrapped_55 rfl ls st H Q
theorem r147_0 : sw_A 147 0 ls st H Q = (sw_lda False ls 0 fun x => sw_A 147 1 ls (.ref x :: st) H Q) := sw_A_step (cc := cX11_trapped) rfl dX11_trapped_0 rfl ls st H Q
theorem r147_1 : sw_A 147 1 ls st H Q = (sw_r1 False st fun a r => sw_gf False H (some (11, 10, 1)) a fun v => sw_A 147 4 ls (v :: r) H Q) := sw_A_step (cc := cX11_trapped) rfl dX11_trapped_1 rfl ls st H Q
theorem r147_4 : sw_A 147 4 ls st H Q = (sw_lda False ls 0 fun x => sw_A 147 5 ls (.ref x :: st) H Q) := sw_A_step (cc := cX11_trapped) rfl dX11_trapped_4 rfl ls st H Q
theorem r147_5 : sw_A 147 5 ls st H Q = (sw_r1 False st fun a r => sw_gf False H (some (11, 2, 1)) a fun v => sw_A 147 8 ls (v :: r) H Q) := sw_A_step (cc := cX11_trapped) rfl dX11_trapped_5 rfl ls st H Q
theorem r147_8 : sw_A 147 8 ls st H Q = (sw_r1 False st fun a r => sw_gf False H (some (7, 0, 3)) a fun v => sw_A 147 11 ls (v :: r) H Q) := sw_A_step (cc := cX11_trapped) rfl dX11_trapped_8 rfl ls st H Q
theorem r147_11 : sw_A 147 11 ls st H Q = (sw_ldi False ls 1 fun x => sw_A 147 12 ls (.int x :: st) H Q) := sw_A_step (cc := cX11_trapped) rfl dX11_trapped_11 rfl ls st H Q
theorem r147_12 : sw_A 147 12 ls st H Q = (sw_pop False 3 st [] fun args r => sw_ck False r (sw_rc False H (some 5) args (sw_M 146 args H (sw_K 147 15 none ls r Q)))) := sw_A_step (cc := cX11_trapped) rfl dX11_trapped_12 rfl ls st H Q
theorem r147_15 : sw_A 147 15 ls st H Q = (match st with | [.int x] => Q (some (some (.int x))) H | _ => False) := sw_A_step (cc := cX11_trapped) rfl dX11_trapped_15 rfl ls st H Q
theorem r148_0 : sw_A 148 0 ls st H Q = (sw_ldi False ls 1 fun x => sw_A 148 1 ls (.int x :: st) H Q) := sw_A_step (cc := cX11_count) rfl dX11_count_0 rfl ls st H Q
theorem r148_1 : sw_A 148 1 ls st H Q = (sw_i1 False st fun x r => sw_ts False 1 x 87 0 4 #[35, 46, 57, 68, 79] fun t => sw_A 148 t ls r H Q) := sw_A_step (cc := cX11_count) rfl dX11_count_1 rfl ls st H Q
theorem r148_36 : sw_A 148 36 ls st H Q = (sw_lda False ls 0 fun x => sw_A 148 37 ls (.ref x :: st) H Q) := sw_A_step (cc := cX11_count) rfl dX11_count_36 rfl ls st H Q
theorem r148_37 : sw_A 148 37 ls st H Q = (sw_r1 False st fun a r => sw_gf False H (some (11, 2, 1)) a fun v => sw_A 148 40 ls (v :: r) H Q) := sw_A_step (cc := cX11_count) rfl dX11_count_37 rfl ls st H Q
theorem r148_40 : sw_A 148 40 ls st H Q = (sw_r1 False st fun a r => sw_gf False H (some (7, 0, 3)) a fun v => sw_A 148 43 ls (v :: r) H Q) := sw_A_step (cc := cX11_count) rfl dX11_count_40 rfl ls st H Q
theorem r148_43 : sw_A 148 43 ls st H Q = (sw_pop False 1 st [] fun args r => sw_ck False r (sw_M 35 args H (sw_K 148 46 none ls r Q))) := sw_A_step (cc := cX11_count) rfl dX11_count_43 rfl ls st H Q
theorem r148_46 : sw_A 148 46 ls st H Q = (match st with | [.int x] => Q (some (some (.int x))) H | _ => False) := sw_A_step (cc := cX11_count) rfl dX11_count_46 rfl ls st H Q
theorem r148_47 : sw_A 148 47 ls st H Q = (sw_lda False ls 0 fun x => sw_A 148 48 ls (.ref x :: st) H Q) := sw_A_step (cc := cX11_count) rfl dX11_count_47 rfl ls st H Q
theorem r148_48 : sw_A 148 48 ls st H Q = (sw_r1 False st fun a r => sw_gf False H (some (11, 2, 1)) a fun v => sw_A 148 51 ls (v :: r) H Q) := sw_A_step (cc := cX11_count) rfl dX11_count_48 rfl ls st H Q
theorem r148_51 : sw_A 148 51 ls st H Q = (sw_r1 False st fun a r => sw_gf False H (some (7, 2, 3)) a fun v => sw_A 148 54 ls (v :: r) H Q) := sw_A_step (cc := cX11_count) rfl dX11_count_51 rfl ls st H Q
theorem r148_54 : sw_A 148 54 ls st H Q = (sw_pop False 1 st [] fun args r => sw_ck False r (sw_M 35 args H (sw_K 148 57 none ls r Q))) := sw_A_step (cc := cX11_count) rfl dX11_count_54 rfl ls st H Q
theorem r148_57 : sw_A 148 57 ls st H Q = (match st with | [.int x] => Q (some (some (.int x))) H | _ => False) := sw_A_step (cc := cX11_count) rfl dX11_count_57 rfl ls st H Q
theorem r148_58 : sw_A 148 58 ls st H Q = (sw_lda False ls 0 fun x => sw_A 148 59 ls (.ref x :: st) H Q) := sw_A_step (cc := cX11_count) rfl dX11_count_58 rfl ls st H Q
theorem r148_59 : sw_A 148 59 ls st H Q = (sw_r1 False st fun a r => sw_gf False H (some (11, 2, 1)) a fun v => sw_A 148 62 ls (v :: r) H Q) := sw_A_step (cc := cX11_count) rfl dX11_count_59 rfl ls st H Q
theorem r148_62 : sw_A 148 62 ls st H Q = (sw_r1 False st fun a r => sw_gf False H (some (7, 1, 3)) a fun v => sw_A 148 65 ls (v :: r) H Q) := sw_A_step (cc := cX11_count) rfl dX11_count_62 rfl ls st H Q
theorem r148_65 : sw_A 148 65 ls st H Q = (sw_pop False 1 st [] fun args r => sw_ck False r (sw_M 35 args H (sw_K 148 68 none ls r Q))) := sw_A_step (cc := cX11_count) rfl dX11_count_65 rfl ls st H Q
theorem r148_68 : sw_A 148 68 ls st H Q = (match st with | [.int x] => Q (some (some (.int x))) H | _ => False) := sw_A_step (cc := cX11_count) rfl dX11_count_68 rfl ls st H Q
theorem r148_69 : sw_A 148 69 ls st H Q = (sw_lda False ls 0 fun x => sw_A 148 70 ls (.ref x :: st) H Q) := sw_A_step (cc := cX11_count) rfl dX11_count_69 rfl ls st H Q
theorem r148_70 : sw_A 148 70 ls st H Q = (sw_r1 False st fun a r => sw_gf False H (some (11, 10, 1)) a fun v => sw_A 148 73 ls (v :: r) H Q) := sw_A_step (cc := cX11_count) rfl dX11_count_70 rfl ls st H Q
theorem r148_73 : sw_A 148 73 ls st H Q = (sw_r1 False st fun a r => sw_gf False H (some (5, 0, 3)) a fun v => sw_A 148 76 ls (v :: r) H Q) := sw_A_step (cc := cX11_count) rfl dX11_count_73 rfl ls st H Q
theorem r148_76 : sw_A 148 76 ls st H Q = (sw_pop False 1 st [] fun args r => sw_ck False r (sw_M 35 args H (sw_K 148 79 none ls r Q))) := sw_A_step (cc := cX11_count) rfl dX11_count_76 rfl ls st H Q
theorem r148_79 : sw_A 148 79 ls st H Q = (match st with | [.int x] => Q (some (some (.int x))) H | _ => False) := sw_A_step (cc := cX11_count) rfl dX11_count_79 rfl ls st H Q
theorem r148_80 : sw_A 148 80 ls st H Q = (sw_lda False ls 0 fun x => sw_A 148 81 ls (.ref x :: st) H Q) := sw_A_step (cc := cX11_count) rfl dX11_count_80 rfl ls st H Q
theorem r148_81 : sw_A 148 81 ls st H Q = (sw_r1 False st fun a r => sw_gf False H (some (11, 11, 1)) a fun v => sw_A 148 84 ls (v :: r) H Q) := sw_A_step (cc := cX11_count) rfl dX11_count_81 rfl ls st H Q
theorem r148_84 : sw_A 148 84 ls st H Q = (False) := sw_A_step (cc := cX11_count) rfl dX11_count_84 rfl ls st H Q
theorem r148_87 : sw_A 148 87 ls st H Q = (match st with | [.int x] => Q (some (some (.int x))) H | _ => False) := sw_A_step (cc := cX11_count) rfl dX11_count_87 rfl ls st H Q
theorem r148_88 : sw_A 148 88 ls st H Q = (False) := sw_A_step (cc := cX11_count) rfl dX11_count_88 rfl ls st H Q
theorem r148_91 : sw_A 148 91 ls st H Q = (sw_r1 False st fun a r => sw_A 148 92 ls (.ref a :: .ref a :: r) H Q) := sw_A_step (cc := cX11_count) rfl dX11_count_91 rfl ls st H Q
theorem r148_92 : sw_A 148 92 ls st H Q = (False) := sw_A_step (cc := cX11_count) rfl dX11_count_92 rfl ls st H Q
theorem r148_95 : sw_A 148 95 ls st H Q = (False) := sw_A_step (cc := cX11_count) rfl dX11_count_95 rfl ls st H Q
theorem r148_98 : sw_A 148 98 ls st H Q = (False) := sw_A_step (cc := cX11_count) rfl dX11_count_98 rfl ls st H Q
theorem r149_0 : sw_A 149 0 ls st H Q = (sw_ldi False ls 2 fun x => sw_A 149 1 ls (.int x :: st) H Q) := sw_A_step (cc := cX11_numberOf) rfl dX11_numberOf_0 rfl ls st H Q
theorem r149_1 : sw_A 149 1 ls st H Q = (sw_pop False 1 st [] fun args r => sw_ck False r (sw_M 23 args H (sw_K 149 4 none ls r Q))) := sw_A_step (cc := cX11_numberOf) rfl dX11_numberOf_1 rfl ls st H Q
theorem r149_4 : sw_A 149 4 ls st H Q = (sw_ldi False ls 1 fun x => sw_A 149 5 ls (.int x :: st) H Q) := sw_A_step (cc := cX11_numberOf) rfl dX11_numberOf_4 rfl ls st H Q
theorem r149_5 : sw_A 149 5 ls st H Q = (sw_pop False 1 st [] fun args r => sw_ck False r (sw_M 84 args H (sw_K 149 8 none ls r Q))) := sw_A_step (cc := cX11_numberOf) rfl dX11_numberOf_5 rfl ls st H Q
theorem r149_8 : sw_A 149 8 ls st H Q = (sw_lda False ls 0 fun x => sw_A 149 9 ls (.ref x :: st) H Q) := sw_A_step (cc := cX11_numberOf) rfl dX11_numberOf_8 rfl ls st H Q
theorem r149_9 : sw_A 149 9 ls st H Q = (sw_r1 False st fun a r => sw_gf False H (some (11, 0, 1)) a fun v => sw_A 149 12 ls (v :: r) H Q) := sw_A_step (cc := cX11_numberOf) rfl dX11_numberOf_9 rfl ls st H Q
theorem r149_12 : sw_A 149 12 ls st H Q = (sw_ldi False ls 1 fun x => sw_A 149 13 ls (.int x :: st) H Q) := sw_A_step (cc := cX11_numberOf) rfl dX11_numberOf_12 rfl ls st H Q
theorem r149_13 : sw_A 149 13 ls st H Q = (sw_ldi False ls 2 fun x => sw_A 149 14 ls (.int x :: st) H Q) := sw_A_step (cc := cX11_numberOf) rfl dX11_numberOf_13 rfl ls st H Q
theorem r149_14 : sw_A 149 14 ls st H Q = (sw_pop False 3 st [] fun args r => sw_ck False r (sw_rc False H (some 8) args (sw_M 105 args H (sw_K 149 17 none ls r Q)))) := sw_A_step (cc := cX11_numberOf) rfl dX11_numberOf_14 rfl ls st H Q
theorem r149_17 : sw_A 149 17 ls st H Q = (match st with | [.int x] => Q (some (some (.int x))) H | _ => False) := sw_A_step (cc := cX11_numberOf) rfl dX11_numberOf_17 rfl ls st H Q
end sw_R
