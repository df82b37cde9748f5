section sw_R
variable (ls : sw_LS) (st : List Value) (H : sw_HS) (Q : sw_Ot → sw_HS → Prop)
theorem r133_0 : sw_A 133 0 ls st H Q = (sw_lda False ls 0 fun x => sw_A 133 1 ls (.ref x :: st) H Q) := sw_A_step (cc := cX3_rise) rfl dX3_rise_0 rfl ls st H Q
theorem r133_1 : sw_A 133 1 ls st H Q = (sw_pop False 1 st [] fun args r => sw_ck False r (sw_rc False H (some 3) args (sw_M 111 args H (sw_K 133 4 none ls r Q)))) := sw_A_step (cc := cX3_rise) rfl dX3_rise_1 rfl ls st H Q
theorem r133_4 : sw_A 133 4 ls st H Q = (sw_lda False ls 2 fun x => sw_A 133 5 ls (.ref x :: st) H Q) := sw_A_step (cc := cX3_rise) rfl dX3_rise_4 rfl ls st H Q
theorem r133_5 : sw_A 133 5 ls st H Q = (sw_ldi False ls 3 fun x => sw_A 133 6 ls (.int x :: st) H Q) := sw_A_step (cc := cX3_rise) rfl dX3_rise_5 rfl ls st H Q
theorem r133_6 : sw_A 133 6 ls st H Q = (sw_ri False st fun a i r => sw_ald False H 1 a i fun x => sw_A 133 7 ls (.int x :: r) H Q) := sw_A_step (cc := cX3_rise) rfl dX3_rise_6 rfl ls st H Q
theorem r133_7 : sw_A 133 7 ls st H Q = (sw_i1 False st fun x r => if ¬ x = 0 then sw_A 133 16 ls r H Q else sw_A 133 10 ls r H Q) := sw_A_step (cc := cX3_rise) rfl dX3_rise_7 rfl ls st H Q
theorem r133_10 : sw_A 133 10 ls st H Q = (sw_lda False ls 0 fun x => sw_A 133 11 ls (.ref x :: st) H Q) := sw_A_step (cc := cX3_rise) rfl dX3_rise_10 rfl ls st H Q
theorem r133_11 : sw_A 133 11 ls st H Q = (sw_ldi False ls 3 fun x => sw_A 133 12 ls (.int x :: st) H Q) := sw_A_step (cc := cX3_rise) rfl dX3_rise_11 rfl ls st H Q
theorem r133_12 : sw_A 133 12 ls st H Q = (sw_A 133 13 ls (.int (Int32.ofInt 0) :: st) H Q) := sw_A_step (cc := cX3_rise) rfl dX3_rise_12 rfl ls st H Q
theorem r133_13 : sw_A 133 13 ls st H Q = (sw_pop False 3 st [] fun args r => sw_ck False r (sw_rc False H (some 3) args (sw_M 112 args H (sw_K 133 16 none ls r Q)))) := sw_A_step (cc := cX3_rise) rfl dX3_rise_13 rfl ls st H Q
theorem r133_16 : sw_A 133 16 ls st H Q = (sw_A 133 17 ls (.int (Int32.ofInt 0) :: st) H Q) := sw_A_step (cc := cX3_rise) rfl dX3_rise_16 rfl ls st H Q
theorem r133_17 : sw_A 133 17 ls st H Q = (sw_has1 False ls 4 (sw_i1 False st fun x r => sw_A 133 19 (sw_set1 ls 4 (.int x)) r H Q)) := sw_A_step (cc := cX3_rise) rfl dX3_rise_17 rfl ls st H Q
theorem r133_19 : sw_A 133 19 ls st H Q = (sw_ldi False ls 4 fun x => sw_A 133 21 ls (.int x :: st) H Q) := sw_A_step (cc := cX3_rise) rfl dX3_rise_19 rfl ls st H Q
theorem r133_21 : sw_A 133 21 ls st H Q = (sw_A 133 23 ls (.int (Int32.ofInt 36) :: st) H Q) := sw_A_step (cc := cX3_rise) rfl dX3_rise_21 rfl ls st H Q
theorem r133_23 : sw_A 133 23 ls st H Q = (sw_i2 False st fun x y r => if y ≤ x then sw_A 133 112 ls r H Q else sw_A 133 26 ls r H Q) := sw_A_step (cc := cX3_rise) rfl dX3_rise_23 rfl ls st H Q
theorem r133_26 : sw_A 133 26 ls st H Q = (sw_lda False ls 0 fun x => sw_A 133 27 ls (.ref x :: st) H Q) := sw_A_step (cc := cX3_rise) rfl dX3_rise_26 rfl ls st H Q
theorem r133_27 : sw_A 133 27 ls st H Q = (sw_pop False 1 st [] fun args r => sw_ck False r (sw_rc False H (some 3) args (sw_M 114 args H (sw_K 133 30 none ls r Q)))) := sw_A_step (cc := cX3_rise) rfl dX3_rise_27 rfl ls st H Q
theorem r133_30 : sw_A 133 30 ls st H Q = (sw_has1 False ls 5 (sw_i1 False st fun x r => sw_A 133 32 (sw_set1 ls 5 (.int x)) r H Q)) := sw_A_step (cc := cX3_rise) rfl dX3_rise_30 rfl ls st H Q
theorem r133_32 : sw_A 133 32 ls st H Q = (sw_ldi False ls 5 fun x => sw_A 133 34 ls (.int x :: st) H Q) := sw_A_step (cc := cX3_rise) rfl dX3_rise_32 rfl ls st H Q
theorem r133_34 : sw_A 133 34 ls st H Q = (sw_A 133 35 ls (.int (Int32.ofInt (-1)) :: st) H Q) := sw_A_step (cc := cX3_rise) rfl dX3_rise_34 rfl ls st H Q
theorem r133_35 : sw_A 133 35 ls st H Q = (sw_i2 False st fun x y r => if ¬ x = y then sw_A 133 41 ls r H Q else sw_A 133 38 ls r H Q) := sw_A_step (cc := cX3_rise) rfl dX3_rise_35 rfl ls st H Q
theorem r133_38 : sw_A 133 38 ls st H Q = (sw_A 133 112 ls st H Q) := sw_A_step (cc := cX3_rise) rfl dX3_rise_38 rfl ls st H Q
theorem r133_41 : sw_A 133 41 ls st H Q = (sw_A 133 42 ls (.int (Int32.ofInt 0) :: st) H Q) := sw_A_step (cc := cX3_rise) rfl dX3_rise_41 rfl ls st H Q
theorem r133_42 : sw_A 133 42 ls st H Q = (sw_has1 False ls 6 (sw_i1 False st fun x r => sw_A 133 44 (sw_set1 ls 6 (.int x)) r H Q)) := sw_A_step (cc := cX3_rise) rfl dX3_rise_42 rfl ls st H Q
theorem r133_44 : sw_A 133 44 ls st H Q = (sw_ldi False ls 6 fun x => sw_A 133 46 ls (.int x :: st) H Q) := sw_A_step (cc := cX3_rise) rfl dX3_rise_44 rfl ls st H Q
theorem r133_46 : sw_A 133 46 ls st H Q = (sw_A 133 47 ls (.int (Int32.ofInt 4) :: st) H Q) := sw_A_step (cc := cX3_rise) rfl dX3_rise_46 rfl ls st H Q
theorem r133_47 : sw_A 133 47 ls st H Q = (sw_i2 False st fun x y r => if y ≤ x then sw_A 133 106 ls r H Q else sw_A 133 50 ls r H Q) := sw_A_step (cc := cX3_rise) rfl dX3_rise_47 rfl ls st H Q
theorem r133_50 : sw_A 133 50 ls st H Q = (sw_ldi False ls 5 fun x => sw_A 133 52 ls (.int x :: st) H Q) := sw_A_step (cc := cX3_rise) rfl dX3_rise_50 rfl ls st H Q
theorem r133_52 : sw_A 133 52 ls st H Q = (sw_ldi False ls 6 fun x => sw_A 133 54 ls (.int x :: st) H Q) := sw_A_step (cc := cX3_rise) rfl dX3_rise_52 rfl ls st H Q
theorem r133_54 : sw_A 133 54 ls st H Q = (sw_pop False 2 st [] fun args r => sw_ck False r (sw_M 32 args H (sw_K 133 57 none ls r Q))) := sw_A_step (cc := cX3_rise) rfl dX3_rise_54 rfl ls st H Q
theorem r133_57 : sw_A 133 57 ls st H Q = (sw_has1 False ls 7 (sw_i1 False st fun x r => sw_A 133 59 (sw_set1 ls 7 (.int x)) r H Q)) := sw_A_step (cc := cX3_rise) rfl dX3_rise_57 rfl ls st H Q
theorem r133_59 : sw_A 133 59 ls st H Q = (sw_ldi False ls 7 fun x => sw_A 133 61 ls (.int x :: st) H Q) := sw_A_step (cc := cX3_rise) rfl dX3_rise_59 rfl ls st H Q
theorem r133_61 : sw_A 133 61 ls st H Q = (sw_A 133 62 ls (.int (Int32.ofInt (-1)) :: st) H Q) := sw_A_step (cc := cX3_rise) rfl dX3_rise_61 rfl ls st H Q
theorem r133_62 : sw_A 133 62 ls st H Q = (sw_i2 False st fun x y r => if x = y then sw_A 133 100 ls r H Q else sw_A 133 65 ls r H Q) := sw_A_step (cc := cX3_rise) rfl dX3_rise_62 rfl ls st H Q
theorem r133_65 : sw_A 133 65 ls st H Q = (sw_lda False ls 2 fun x => sw_A 133 66 ls (.ref x :: st) H Q) := sw_A_step (cc := cX3_rise) rfl dX3_rise_65 rfl ls st H Q
theorem r133_66 : sw_A 133 66 ls st H Q = (sw_ldi False ls 7 fun x => sw_A 133 68 ls (.int x :: st) H Q) := sw_A_step (cc := cX3_rise) rfl dX3_rise_66 rfl ls st H Q
theorem r133_68 : sw_A 133 68 ls st H Q = (sw_ri False st fun a i r => sw_ald False H 1 a i fun x => sw_A 133 69 ls (.int x :: r) H Q) := sw_A_step (cc := cX3_rise) rfl dX3_rise_68 rfl ls st H Q
theorem r133_69 : sw_A 133 69 ls st H Q = (sw_i1 False st fun x r => if ¬ x = 0 then sw_A 133 100 ls r H Q else sw_A 133 72 ls r H Q) := sw_A_step (cc := cX3_rise) rfl dX3_rise_69 rfl ls st H Q
theorem r133_72 : sw_A 133 72 ls st H Q = (sw_lda False ls 0 fun x => sw_A 133 73 ls (.ref x :: st) H Q) := sw_A_step (cc := cX3_rise) rfl dX3_rise_72 rfl ls st H Q
theorem r133_73 : sw_A 133 73 ls st H Q = (sw_ldi False ls 7 fun x => sw_A 133 75 ls (.int x :: st) H Q) := sw_A_step (cc := cX3_rise) rfl dX3_rise_73 rfl ls st H Q
theorem r133_75 : sw_A 133 75 ls st H Q = (sw_lda False ls 0 fun x => sw_A 133 76 ls (.ref x :: st) H Q) := sw_A_step (cc := cX3_rise) rfl dX3_rise_75 rfl ls st H Q
theorem r133_76 : sw_A 133 76 ls st H Q = (sw_r1 False st fun a r => sw_gf False H (some (3, 0, 1)) a fun v => sw_A 133 79 ls (v :: r) H Q) := sw_A_step (cc := cX3_rise) rfl dX3_rise_76 rfl ls st H Q
theorem r133_79 : sw_A 133 79 ls st H Q = (sw_ldi False ls 5 fun x => sw_A 133 81 ls (.int x :: st) H Q) := sw_A_step (cc := cX3_rise) rfl dX3_rise_79 rfl ls st H Q
theorem r133_81 : sw_A 133 81 ls st H Q = (sw_ri False st fun a i r => sw_ald False H 0 a i fun x => sw_A 133 82 ls (.int x :: r) H Q) := sw_A_step (cc := cX3_rise) rfl dX3_rise_81 rfl ls st H Q
theorem r133_82 : sw_A 133 82 ls st H Q = (sw_lda False ls 1 fun x => sw_A 133 83 ls (.ref x :: st) H Q) := sw_A_step (cc := cX3_rise) rfl dX3_rise_82 rfl ls st H Q
theorem r133_83 : sw_A 133 83 ls st H Q = (sw_r1 False st fun a r => sw_gf False H (some (8, 0, 1)) a fun v => sw_A 133 86 ls (v :: r) H Q) := sw_A_step (cc := cX3_rise) rfl dX3_rise_83 rfl ls st H Q
theorem r133_86 : sw_A 133 86 ls st H Q = (sw_ldi False ls 5 fun x => sw_A 133 88 ls (.int x :: st) H Q) := sw_A_step (cc := cX3_rise) rfl dX3_rise_86 rfl ls st H Q
theorem r133_88 : sw_A 133 88 ls st H Q = (sw_ldi False ls 7 fun x => sw_A 133 90 ls (.int x :: st) H Q) := sw_A_step (cc := cX3_rise) rfl dX3_rise_88 rfl ls st H Q
theorem r133_90 : sw_A 133 90 ls st H Q = (sw_pop False 2 st [] fun args r => sw_ck False r (sw_M 90 args H (sw_K 133 93 none ls r Q))) := sw_A_step (cc := cX3_rise) rfl dX3_rise_90 rfl ls st H Q
theorem r133_93 : sw_A 133 93 ls st H Q = (sw_ri False st fun a i r => sw_ald False H 0 a i fun x => sw_A 133 94 ls (.int x :: r) H Q) := sw_A_step (cc := cX3_rise) rfl dX3_rise_93 rfl ls st H Q
theorem r133_94 : sw_A 133 94 ls st H Q = (sw_i2 False st fun x y r => sw_A 133 95 ls (.int (x + y) :: r) H Q) := sw_A_step (cc := cX3_rise) rfl dX3_rise_94 rfl ls st H Q
theorem r133_95 : sw_A 133 95 ls st H Q = (sw_A 133 96 ls (.int (Int32.ofInt 1) :: st) H Q) := sw_A_step (cc := cX3_rise) rfl dX3_rise_95 rfl ls st H Q
theorem r133_96 : sw_A 133 96 ls st H Q = (sw_i2 False st fun x y r => sw_A 133 97 ls (.int (x + y) :: r) H Q) := sw_A_step (cc := cX3_rise) rfl dX3_rise_96 rfl ls st H Q
theorem r133_97 : sw_A 133 97 ls st H Q = (sw_pop False 3 st [] fun args r => sw_ck False r (sw_rc False H (some 3) args (sw_M 112 args H (sw_K 133 100 none ls r Q)))) := sw_A_step (cc := cX3_rise) rfl dX3_rise_97 rfl ls st H Q
theorem r133_100 : sw_A 133 100 ls st H Q = (sw_ldi False ls 6 fun x => sw_A 133 103 (sw_set1 ls 6 (.int (x + Int32.ofInt 1))) st H Q) := sw_A_step (cc := cX3_rise) rfl dX3_rise_100 rfl ls st H Q
theorem r133_103 : sw_A 133 103 ls st H Q = (sw_A 133 44 ls st H Q) := sw_A_step (cc := cX3_rise) rfl dX3_rise_103 rfl ls st H Q
theorem r133_106 : sw_A 133 106 ls st H Q = (sw_ldi False ls 4 fun x => sw_A 133 109 (sw_set1 ls 4 (.int (x + Int32.ofInt 1))) st H Q) := sw_A_step (cc := cX3_rise) rfl dX3_rise_106 rfl ls st H Q
theorem r133_109 : sw_A 133 109 ls st H Q = (sw_A 133 19 ls st H Q) := sw_A_step (cc := cX3_rise) rfl dX3_rise_109 rfl ls st H Q
theorem r133_112 : sw_A 133 112 ls st H Q = (match st with | [] => Q (some none) H | _ => False) := sw_A_step (cc := cX3_rise) rfl dX3_rise_112 rfl ls st H Q
theorem r134_0 : sw_A 134 0 ls st H Q = (sw_ldi False ls 1 fun x => sw_A 134 1 ls (.int x :: st) H Q) := sw_A_step (cc := cX11_time) rfl dX11_time_0 rfl ls st H Q
theorem r134_1 : sw_A 134 1 ls st H Q = (sw_pop False 1 st [] fun args r => sw_ck False r (sw_M 25 args H (sw_K 134 4 none ls r Q))) := sw_A_step (cc := cX11_time) rfl dX11_time_1 rfl ls st H Q
theorem r134_4 : sw_A 134 4 ls st H Q = (sw_ldi False ls 2 fun x => sw_A 134 5 ls (.int x :: st) H Q) := sw_A_step (cc := cX11_time) rfl dX11_time_4 rfl ls st H Q
theorem r134_5 : sw_A 134 5 ls st H Q = (sw_pop False 1 st [] fun args r => sw_ck False r (sw_M 25 args H (sw_K 134 8 none ls r Q))) := sw_A_step (cc := cX11_time) rfl dX11_time_5 rfl ls st H Q
theorem r134_8 : sw_A 134 8 ls st H Q = (sw_lda False ls 0 fun x => sw_A 134 9 ls (.ref x :: st) H Q) := sw_A_step (cc := cX11_time) rfl dX11_time_8 rfl ls st H Q
theorem r134_9 : sw_A 134 9 ls st H Q = (sw_r1 False st fun a r => sw_gf False H (some (11, 7, 1)) a fun v => sw_A 134 12 ls (v :: r) H Q) := sw_A_step (cc := cX11_time) rfl dX11_time_9 rfl ls st H Q
theorem r134_12 : sw_A 134 12 ls st H Q = (sw_lda False ls 0 fun x => sw_A 134 13 ls (.ref x :: st) H Q) := sw_A_step (cc := cX11_time) rfl dX11_time_12 rfl ls st H Q
theorem r134_13 : sw_A 134 13 ls st H Q = (sw_r1 False st fun a r => sw_gf False H (some (11, 0, 1)) a fun v => sw_A 134 16 ls (v :: r) H Q) := sw_A_step (cc := cX11_time) rfl dX11_time_13 rfl ls st H Q
theorem r134_16 : sw_A 134 16 ls st H Q = (sw_lda False ls 0 fun x => sw_A 134 17 ls (.ref x :: st) H Q) := sw_A_step (cc := cX11_time) rfl dX11_time_16 rfl ls st H Q
theorem r134_17 : sw_A 134 17 ls st H Q = (sw_r1 False st fun a r => sw_gf False H (some (11, 2, 1)) a fun v => sw_A 134 20 ls (v :: r) H Q) := sw_A_step (cc := cX11_time) rfl dX11_time_17 rfl ls st H Q
theorem r134_20 : sw_A 134 20 ls st H Q = (sw_r1 False st fun a r => sw_gf False H (some (7, 0, 1)) a fun v => sw_A 134 23 ls (v :: r) H Q) := sw_A_step (cc := cX11_time) rfl dX11_time_20 rfl ls st H Q
theorem r134_23 : sw_A 134 23 ls st H Q = (sw_ldi False ls 1 fun x => sw_A 134 24 ls (.int x :: st) H Q) := sw_A_step (cc := cX11_time) rfl dX11_time_23 rfl ls st H Q
theorem r134_24 : sw_A 134 24 ls st H Q = (sw_pop False 4 st [] fun args r => sw_ck False r (sw_rc False H (some 3) args (sw_M 133 args H (sw_K 134 27 none ls r Q)))) := sw_A_step (cc := cX11_time) rfl dX11_time_24 rfl ls st H Q
theorem r134_27 : sw_A 134 27 ls st H Q = (sw_lda False ls 0 fun x => sw_A 134 28 ls (.ref x :: st) H Q) := sw_A_step (cc := cX11_time) rfl dX11_time_27 rfl ls st H Q
theorem r134_28 : sw_A 134 28 ls st H Q = (sw_r1 False st fun a r => sw_gf False H (some (11, 7, 1)) a fun v => sw_A 134 31 ls (v :: r) H Q) := sw_A_step (cc := cX11_time) rfl dX11_time_28 rfl ls st H Q
theorem r134_31 : sw_A 134 31 ls st H Q = (sw_r1 False st fun a r => sw_gf False H (some (3, 0, 1)) a fun v => sw_A 134 34 ls (v :: r) H Q) := sw_A_step (cc := cX11_time) rfl dX11_time_31 rfl ls st H Q
theorem r134_34 : sw_A 134 34 ls st H Q = (sw_ldi False ls 2 fun x => sw_A 134 35 ls (.int x :: st) H Q) := sw_A_step (cc := cX11_time) rfl dX11_time_34 rfl ls st H Q
theorem r134_35 : sw_A 134 35 ls st H Q = (sw_ri False st fun a i r => sw_ald False H 0 a i fun x => sw_A 134 36 ls (.int x :: r) H Q) := sw_A_step (cc := cX11_time) rfl dX11_time_35 rfl ls st H Q
theorem r134_36 : sw_A 134 36 ls st H Q = (match st with | [.int x] => Q (some (some (.int x))) H | _ => False) := sw_A_step (cc := cX11_time) rfl dX11_time_36 rfl ls st H Q
theorem r135_0 : sw_A 135 0 ls st H Q = (sw_ldi False ls 1 fun x => sw_A 135 1 ls (.int x :: st) H Q) := sw_A_step (cc := cX11_rival) rfl dX11_rival_0 rfl ls st H Q
theorem r135_1 : sw_A 135 1 ls st H Q = (sw_pop False 1 st [] fun args r => sw_ck False r (sw_M 25 args H (sw_K 135 4 none ls r Q))) := sw_A_step (cc := cX11_rival) rfl dX11_rival_1 rfl ls st H Q
theorem r135_4 : sw_A 135 4 ls st H Q = (sw_ldi False ls 2 fun x => sw_A 135 5 ls (.int x :: st) H Q) := sw_A_step (cc := cX11_rival) rfl dX11_rival_4 rfl ls st H Q
theorem r135_5 : sw_A 135 5 ls st H Q = (sw_pop False 1 st [] fun args r => sw_ck False r (sw_M 25 args H (sw_K 135 8 none ls r Q))) := sw_A_step (cc := cX11_rival) rfl dX11_rival_5 rfl ls st H Q
theorem r135_8 : sw_A 135 8 ls st H Q = (sw_ldi False ls 3 fun x => sw_A 135 9 ls (.int x :: st) H Q) := sw_A_step (cc := cX11_rival) rfl dX11_rival_8 rfl ls st H Q
theorem r135_9 : sw_A 135 9 ls st H Q = (sw_pop False 1 st [] fun args r => sw_ck False r (sw_M 25 args H (sw_K 135 12 none ls r Q))) := sw_A_step (cc := cX11_rival) rfl dX11_rival_9 rfl ls st H Q
theorem r135_12 : sw_A 135 12 ls st H Q = (sw_ldi False ls 1 fun x => sw_A 135 13 ls (.int x :: st) H Q) := sw_A_step (cc := cX11_rival) rfl dX11_rival_12 rfl ls st H Q
theorem r135_13 : sw_A 135 13 ls st H Q = (sw_ldi False ls 2 fun x => sw_A 135 14 ls (.int x :: st) H Q) := sw_A_step (cc := cX11_rival) rfl dX11_rival_13 rfl ls st H Q
theorem r135_14 : sw_A 135 14 ls st H Q = (sw_i2 False st fun x y r => if ¬ x = y then sw_A 135 27 ls r H Q else sw_A 135 17 ls r H Q) := sw_A_step (cc := cX11_rival) rfl dX11_rival_14 rfl ls st H Q
theorem r135_17 : sw_A 135 17 ls st H Q = (False) := sw_A_step (cc := cX11_rival) rfl dX11_rival_17 rfl ls st H Q
theorem r135_20 : sw_A 135 20 ls st H Q = (sw_r1 False st fun a r => sw_A 135 21 ls (.ref a :: .ref a :: r) H Q) := sw_A_step (cc := cX11_rival) rfl dX11_rival_20 rfl ls st H Q
theorem r135_21 : sw_A 135 21 ls st H Q = (False) := sw_A_step (cc := cX11_rival) rfl dX11_rival_21 rfl ls st H Q
theorem r135_23 : sw_A 135 23 ls st H Q = (False) := sw_A_step (cc := cX11_rival) rfl dX11_rival_23 rfl ls st H Q
theorem r135_26 : sw_A 135 26 ls st H Q = (False) := sw_A_step (cc := cX11_rival) rfl dX11_rival_26 rfl ls st H Q
theorem r135_27 : sw_A 135 27 ls st H Q = (sw_lda False ls 0 fun x => sw_A 135 28 ls (.ref x :: st) H Q) := sw_A_step (cc := cX11_rival) rfl dX11_rival_27 rfl ls st H Q
theorem r135_28 : sw_A 135 28 ls st H Q = (sw_ldi False ls 1 fun x => sw_A 135 29 ls (.int x :: st) H Q) := sw_A_step (cc := cX11_rival) rfl dX11_rival_28 rfl ls st H Q
theorem r135_29 : sw_A 135 29 ls st H Q = (sw_ldi False ls 3 fun x => sw_A 135 30 ls (.int x :: st) H Q) := sw_A_step (cc := cX11_rival) rfl dX11_rival_29 rfl ls st H Q
theorem r135_30 : sw_A 135 30 ls st H Q = (sw_pop False 3 st [] fun args r => sw_ck False r (sw_rc False H (some 11) args (sw_M 134 args H (sw_K 135 33 none ls r Q)))) := sw_A_step (cc := cX11_rival) rfl dX11_rival_30 rfl ls st H Q
theorem r135_33 : sw_A 135 33 ls st H Q = (sw_has1 False ls 4 (sw_i1 False st fun x r => sw_A 135 35 (sw_set1 ls 4 (.int x)) r H Q)) := sw_A_step (cc := cX11_rival) rfl dX11_rival_33 rfl ls st H Q
theorem r135_35 : sw_A 135 35 ls st H Q = (sw_lda False ls 0 fun x => sw_A 135 36 ls (.ref x :: st) H Q) := sw_A_step (cc := cX11_rival) rfl dX11_rival_35 rfl ls st H Q
theorem r135_36 : sw_A 135 36 ls st H Q = (sw_ldi False ls 2 fun x => sw_A 135 37 ls (.int x :: st) H Q) := sw_A_step (cc := cX11_rival) rfl dX11_rival_36 rfl ls st H Q
theorem r135_37 : sw_A 135 37 ls st H Q = (sw_ldi False ls 3 fun x => sw_A 135 38 ls (.int x :: st) H Q) := sw_A_step (cc := cX11_rival) rfl dX11_rival_37 rfl ls st H Q
theorem r135_38 : sw_A 135 38 ls st H Q = (sw_pop False 3 st [] fun args r => sw_ck False r (sw_rc False H (some 11) args (sw_M 134 args H (sw_K 135 41 none ls r Q)))) := sw_A_step (cc := cX11_rival) rfl dX11_rival_38 rfl ls st H Q
theorem r135_41 : sw_A 135 41 ls st H Q = (sw_has1 False ls 5 (sw_i1 False st fun x r => sw_A 135 43 (sw_set1 ls 5 (.int x)) r H Q)) := sw_A_step (cc := cX11_rival) rfl dX11_rival_41 rfl ls st H Q
theorem r135_43 : sw_A 135 43 ls st H Q = (sw_ldi False ls 4 fun x => sw_A 135 45 ls (.int x :: st) H Q) := sw_A_step (cc := cX11_rival) rfl dX11_rival_43 rfl ls st H Q
theorem r135_45 : sw_A 135 45 ls st H Q = (sw_ldi False ls 5 fun x => sw_A 135 47 ls (.int x :: st) H Q) := sw_A_step (cc := cX11_rival) rfl dX11_rival_45 rfl ls st H Q
theorem r135_47 : sw_A 135 47 ls st H Q = (sw_i2 False st fun x y r => if ¬ x = y then sw_A 135 52 ls r H Q else sw_A 135 50 ls r H Q) := sw_A_step (cc := cX11_rival) rfl dX11_rival_47 rfl ls st H Q
theorem r135_50 : sw_A 135 50 ls st H Q = (sw_A 135 51 ls (.int (Int32.ofInt (-1)) :: st) H Q) := sw_A_step (cc := cX11_rival) rfl dX11_rival_50 rfl ls st H Q
theorem r135_51 : sw_A 135 51 ls st H Q = (match st with | [.int x] => Q (some (some (.int x))) H | _ => False) := sw_A_step (cc := cX11_rival) rfl dX11_rival_51 rfl ls st H Q
theorem r135_52 : sw_A 135 52 ls st H Q = (sw_ldi False ls 4 fun x => sw_A 135 54 ls (.int x :: st) H Q) := sw_A_step (cc := cX11_rival) rfl dX11_rival_52 rfl ls st H Q
theorem r135_54 : sw_A 135 54 ls st H Q = (sw_A 135 55 ls (.int (Int32.ofInt (-1)) :: st) H Q) := sw_A_step (cc := cX11_rival) rfl dX11_rival_54 rfl ls st H Q
theorem r135_55 : sw_A 135 55 ls st H Q = (sw_i2 False st fun x y r => if ¬ x = y then sw_A 135 60 ls r H Q else sw_A 135 58 ls r H Q) := sw_A_step (cc := cX11_rival) rfl dX11_rival_55 rfl ls st H Q
theorem r135_58 : sw_A 135 58 ls st H Q = (sw_A 135 59 ls (.int (Int32.ofInt 1) :: st) H Q) := sw_A_step (cc := cX11_rival) rfl dX11_rival_58 rfl ls st H Q
theorem r135_59 : sw_A 135 59 ls st H Q = (match st with | [.int x] => Q (some (some (.int x))) H | _ => False) := sw_A_step (cc := cX11_rival) rfl dX11_rival_59 rfl ls st H Q
theorem r135_60 : sw_A 135 60 ls st H Q = (sw_ldi False ls 5 fun x => sw_A 135 62 ls (.int x :: st) H Q) := sw_A_step (cc := cX11_rival) rfl dX11_rival_60 rfl ls st H Q
theorem r135_62 : sw_A 135 62 ls st H Q = (sw_A 135 63 ls (.int (Int32.ofInt (-1)) :: st) H Q) := sw_A_step (cc := cX11_rival) rfl dX11_rival_62 rfl ls st H Q
theorem r135_63 : sw_A 135 63 ls st H Q = (sw_i2 False st fun x y r => if x = y then sw_A 135 73 ls r H Q else sw_A 135 66 ls r H Q) := sw_A_step (cc := cX11_rival) rfl dX11_rival_63 rfl ls st H Q
theorem r135_66 : sw_A 135 66 ls st H Q = (sw_ldi False ls 4 fun x => sw_A 135 68 ls (.int x :: st) H Q) := sw_A_step (cc := cX11_rival) rfl dX11_rival_66 rfl ls st H Q
theorem r135_68 : sw_A 135 68 ls st H Q = (sw_ldi False ls 5 fun x => sw_A 135 70 ls (.int x :: st) H Q) := sw_A_step (cc := cX11_rival) rfl dX11_rival_68 rfl ls st H Q
theorem r135_70 : sw_A 135 70 ls st H Q = (sw_i2 False st fun x y r => if y ≤ x then sw_A 135 77 ls r H Q else sw_A 135 73 ls r H Q) := sw_A_step (cc := cX11_rival) rfl dX11_rival_70 rfl ls st H Q
theorem r135_73 : sw_A 135 73 ls st H Q = (sw_A 135 74 ls (.int (Int32.ofInt 0) :: st) H Q) := sw_A_step (cc := cX11_rival) rfl dX11_rival_73 rfl ls st H Q
theorem r135_74 : sw_A 135 74 ls st H Q = (sw_A 135 78 ls st H Q) := sw_A_step (cc := cX11_rival) rfl dX11_rival_74 rfl ls st H Q
theorem r135_77 : sw_A 135 77 ls st H Q = (sw_A 135 78 ls (.int (Int32.ofInt 1) :: st) H Q) := sw_A_step (cc := cX11_rival) rfl dX11_rival_77 rfl ls st H Q
theorem r135_78 : sw_A 135 78 ls st H Q = (match st with | [.int x] => Q (some (some (.int x))) H | _ => False) := sw_A_step (cc := cX11_rival) rfl dX11_rival_78 rfl ls st H Q
theorem r136_0 : sw_A 136 0 ls st H Q = (sw_A 136 1 ls (.int (Int32.ofInt 0) :: st) H Q) := sw_A_step (cc := cX3_countWithin) rfl dX3_countWithin_0 rfl ls st H Q
theorem r136_1 : sw_A 136 1 ls st H Q = (sw_has1 False ls 2 (sw_i1 False st fun x r => sw_A 136 2 (sw_set1 ls 2 (.int x)) r H Q)) := sw_A_step (cc := cX3_countWithin) rfl dX3_countWithin_1 rfl ls st H Q
theorem r136_2 : sw_A 136 2 ls st H Q = (sw_A 136 3 ls (.int (Int32.ofInt 0) :: st) H Q) := sw_A_step (cc := cX3_countWithin) rfl dX3_countWithin_2 rfl ls st H Q
theorem r136_3 : sw_A 136 3 ls st H Q = (sw_has1 False ls 3 (sw_i1 False st fun x r => sw_A 136 4 (sw_set1 ls 3 (.int x)) r H Q)) := sw_A_step (cc := cX3_countWithin) rfl dX3_countWithin_3 rfl ls st H Q
theorem r136_4 : sw_A 136 4 ls st H Q = (sw_ldi False ls 3 fun x => sw_A 136 5 ls (.int x :: st) H Q) := sw_A_step (cc := cX3_countWithin) rfl dX3_countWithin_4 rfl ls st H Q
theorem r136_5 : sw_A 136 5 ls st H Q = (sw_A 136 7 ls (.int (Int32.ofInt 36) :: st) H Q) := sw_A_step (cc := cX3_countWithin) rfl dX3_countWithin_5 rfl ls st H Q
theorem r136_7 : sw_A 136 7 ls st H Q = (sw_i2 False st fun x y r => if y ≤ x then sw_A 136 39 ls r H Q else sw_A 136 10 ls r H Q) := sw_A_step (cc := cX3_countWithin) rfl dX3_countWithin_7 rfl ls st H Q
theorem r136_10 : sw_A 136 10 ls st H Q = (sw_lda False ls 0 fun x => sw_A 136 11 ls (.ref x :: st) H Q) := sw_A_step (cc := cX3_countWithin) rfl dX3_countWithin_10 rfl ls st H Q
theorem r136_11 : sw_A 136 11 ls st H Q = (sw_r1 False st fun a r => sw_gf False H (some (3, 0, 1)) a fun v => sw_A 136 14 ls (v :: r) H Q) := sw_A_step (cc := cX3_countWithin) rfl dX3_countWithin_11 rfl ls st H Q
theorem r136_14 : sw_A 136 14 ls st H Q = (sw_ldi False ls 3 fun x => sw_A 136 15 ls (.int x :: st) H Q) := sw_A_step (cc := cX3_countWithin) rfl dX3_countWithin_14 rfl ls st H Q
theorem r136_15 : sw_A 136 15 ls st H Q = (sw_ri False st fun a i r => sw_ald False H 0 a i fun x => sw_A 136 16 ls (.int x :: r) H Q) := sw_A_step (cc := cX3_countWithin) rfl dX3_countWithin_15 rfl ls st H Q
theorem r136_16 : sw_A 136 16 ls st H Q = (sw_A 136 17 ls (.int (Int32.ofInt (-1)) :: st) H Q) := sw_A_step (cc := cX3_countWithin) rfl dX3_countWithin_16 rfl ls st H Q
theorem r136_17 : sw_A 136 17 ls st H Q = (sw_i2 False st fun x y r => if x = y then sw_A 136 33 ls r H Q else sw_A 136 20 ls r H Q) := sw_A_step (cc := cX3_countWithin) rfl dX3_countWithin_17 rfl ls st H Q
theorem r136_20 : sw_A 136 20 ls st H Q = (sw_lda False ls 0 fun x => sw_A 136 21 ls (.ref x :: st) H Q) := sw_A_step (cc := cX3_countWithin) rfl dX3_countWithin_20 rfl ls st H Q
theorem r136_21 : sw_A 136 21 ls st H Q = (sw_r1 False st fun a r => sw_gf False H (some (3, 0, 1)) a fun v => sw_A 136 24 ls (v :: r) H Q) := sw_A_step (cc := cX3_countWithin) rfl dX3_countWithin_21 rfl ls st H Q
theorem r136_24 : sw_A 136 24 ls st H Q = (sw_ldi False ls 3 fun x => sw_A 136 25 ls (.int x :: st) H Q) := sw_A_step (cc := cX3_countWithin) rfl dX3_countWithin_24 rfl ls st H Q
theorem r136_25 : sw_A 136 25 ls st H Q = (sw_ri False st fun a i r => sw_ald False H 0 a i fun x => sw_A 136 26 ls (.int x :: r) H Q) := sw_A_step (cc := cX3_countWithin) rfl dX3_countWithin_25 rfl ls st H Q
theorem r136_26 : sw_A 136 26 ls st H Q = (sw_ldi False ls 1 fun x => sw_A 136 27 ls (.int x :: st) H Q) := sw_A_step (cc := cX3_countWithin) rfl dX3_countWithin_26 rfl ls st H Q
theorem r136_27 : sw_A 136 27 ls st H Q = (sw_i2 False st fun x y r => if y < x then sw_A 136 33 ls r H Q else sw_A 136 30 ls r H Q) := sw_A_step (cc := cX3_countWithin) rfl dX3_countWithin_27 rfl ls st H Q
theorem r136_30 : sw_A 136 30 ls st H Q = (sw_ldi False ls 2 fun x => sw_A 136 33 (sw_set1 ls 2 (.int (x + Int32.ofInt 1))) st H Q) := sw_A_step (cc := cX3_countWithin) rfl dX3_countWithin_30 rfl ls st H Q
theorem r136_33 : sw_A 136 33 ls st H Q = (sw_ldi False ls 3 fun x => sw_A 136 36 (sw_set1 ls 3 (.int (x + Int32.ofInt 1))) st H Q) := sw_A_step (cc := cX3_countWithin) rfl dX3_countWithin_33 rfl ls st H Q
theorem r136_36 : sw_A 136 36 ls st H Q = (sw_A 136 4 ls st H Q) := sw_A_step (cc := cX3_countWithin) rfl dX3_countWithin_36 rfl ls st H Q
theorem r136_39 : sw_A 136 39 ls st H Q = (sw_ldi False ls 2 fun x => sw_A 136 40 ls (.int x :: st) H Q) := sw_A_step (cc := cX3_countWithin) rfl dX3_countWithin_39 rfl ls st H Q
theorem r136_40 : sw_A 136 40 ls st H Q = (match st with | [.int x] => Q (some (some (.int x))) H | _ => False) := sw_A_step (cc := cX3_countWithin) rfl dX3_countWithin_40 rfl ls st H Q
theorem r137_0 : sw_A 137 0 ls st H Q = (sw_ldi False ls 1 fun x => sw_A 137 1 ls (.int x :: st) H Q) := sw_A_step (cc := cX11_ball) rfl dX11_ball_0 rfl ls st H Q
theorem r137_1 : sw_A 137 1 ls st H Q = (sw_pop False 1 st [] fun args r => sw_ck False r (sw_M 25 args H (sw_K 137 4 none ls r Q))) := sw_A_step (cc := cX11_ball) rfl dX11_ball_1 rfl ls st H Q
theorem r137_4 : sw_A 137 4 ls st H Q = (sw_ldi False ls 2 fun x => sw_A 137 5 ls (.int x :: st) H Q) := sw_A_step (cc := cX11_ball) rfl dX11_ball_4 rfl ls st H Q
theorem r137_5 : sw_A 137 5 ls st H Q = (sw_A 137 6 ls (.int (Int32.ofInt 0) :: st) H Q) := sw_A_step (cc := cX11_ball) rfl dX11_ball_5 rfl ls st H Q
theorem r137_6 : sw_A 137 6 ls st H Q = (sw_A 137 8 ls (.int (Int32.ofInt 60000) :: st) H Q) := sw_A_step (cc := cX11_ball) rfl dX11_ball_6 rfl ls st H Q
theorem r137_8 : sw_A 137 8 ls st H Q = (sw_pop False 3 st [] fun args r => sw_ck False r (sw_M 17 args H (sw_K 137 11 none ls r Q))) := sw_A_step (cc := cX11_ball) rfl dX11_ball_8 rfl ls st H Q
theorem r137_11 : sw_A 137 11 ls st H Q = (sw_lda False ls 0 fun x => sw_A 137 12 ls (.ref x :: st) H Q) := sw_A_step (cc := cX11_ball) rfl dX11_ball_11 rfl ls st H Q
theorem r137_12 : sw_A 137 12 ls st H Q = (sw_r1 False st fun a r => sw_gf False H (some (11, 7, 1)) a fun v => sw_A 137 15 ls (v :: r) H Q) := sw_A_step (cc := cX11_ball) rfl dX11_ball_12 rfl ls st H Q
theorem r137_15 : sw_A 137 15 ls st H Q = (sw_lda False ls 0 fun x => sw_A 137 16 ls (.ref x :: st) H Q) := sw_A_step (cc := cX11_ball) rfl dX11_ball_15 rfl ls st H Q
theorem r137_16 : sw_A 137 16 ls st H Q = (sw_r1 False st fun a r => sw_gf False H (some (11, 0, 1)) a fun v => sw_A 137 19 ls (v :: r) H Q) := sw_A_step (cc := cX11_ball) rfl dX11_ball_16 rfl ls st H Q
theorem r137_19 : sw_A 137 19 ls st H Q = (sw_lda False ls 0 fun x => sw_A 137 20 ls (.ref x :: st) H Q) := sw_A_step (cc := cX11_ball) rfl dX11_ball_19 rfl ls st H Q
theorem r137_20 : sw_A 137 20 ls st H Q = (sw_r1 False st fun a r => sw_gf False H (some (11, 2, 1)) a fun v => sw_A 137 23 ls (v :: r) H Q) := sw_A_step (cc := cX11_ball) rfl dX11_ball_20 rfl ls st H Q
theorem r137_23 : sw_A 137 23 ls st H Q = (sw_r1 False st fun a r => sw_gf False H (some (7, 0, 1)) a fun v => sw_A 137 26 ls (v :: r) H Q) := sw_A_step (cc := cX11_ball) rfl dX11_ball_23 rfl ls st H Q
theorem r137_26 : sw_A 137 26 ls st H Q = (sw_ldi False ls 1 fun x => sw_A 137 27 ls (.int x :: st) H Q) := sw_A_step (cc := cX11_ball) rfl dX11_ball_26 rfl ls st H Q
theorem r137_27 : sw_A 137 27 ls st H Q = (sw_pop False 4 st [] fun args r => sw_ck False r (sw_rc False H (some 3) args (sw_M 133 args H (sw_K 137 30 none ls r Q)))) := sw_A_step (cc := cX11_ball) rfl dX11_ball_27 rfl ls st H Q
theorem r137_30 : sw_A 137 30 ls st H Q = (sw_lda False ls 0 fun x => sw_A 137 31 ls (.ref x :: st) H Q) := sw_A_step (cc := cX11_ball) rfl dX11_ball_30 rfl ls st H Q
theorem r137_31 : sw_A 137 31 ls st H Q = (sw_r1 False st fun a r => sw_gf False H (some (11, 7, 1)) a fun v => sw_A 137 34 ls (v :: r) H Q) := sw_A_step (cc := cX11_ball) rfl dX11_ball_31 rfl ls st H Q
theorem r137_34 : sw_A 137 34 ls st H Q = (sw_ldi False ls 2 fun x => sw_A 137 35 ls (.int x :: st) H Q) := sw_A_step (cc := cX11_ball) rfl dX11_ball_34 rfl ls st H Q
theorem r137_35 : sw_A 137 35 ls st H Q = (sw_pop False 2 st [] fun args r => sw_ck False r (sw_rc False H (some 3) args (sw_M 136 args H (sw_K 137 38 none ls r Q)))) := sw_A_step (cc := cX11_ball) rfl dX11_ball_35 rfl ls st H Q
theorem r137_38 : sw_A 137 38 ls st H Q = (match st with | [.int x] => Q (some (some (.int x))) H | _ => False) := sw_A_step (cc := cX11_ball) rfl dX11_ball_38 rfl ls st H Q
theorem r138_0 : sw_A 138 0 ls st H Q = (sw_ldi False ls 1 fun x => sw_A 138 1 ls (.int x :: st) H Q) := sw_A_step (cc := cX11_needInvasion) rfl dX11_needInvasion_0 rfl ls st H Q
theorem r138_1 : sw_A 138 1 ls st H Q = (sw_pop False 1 st [] fun args r => sw_ck False r (sw_M 25 args H (sw_K 138 4 none ls r Q))) := sw_A_step (cc := cX11_needInvasion) rfl dX11_needInvasion_1 rfl ls st H Q
theorem r138_4 : sw_A 138 4 ls st H Q = (sw_ldi False ls 2 fun x => sw_A 138 5 ls (.int x :: st) H Q) := sw_A_step (cc := cX11_needInvasion) rfl dX11_needInvasion_4 rfl ls st H Q
theorem r138_5 : sw_A 138 5 ls st H Q = (sw_A 138 6 ls (.int (Int32.ofInt 0) :: st) H Q) := sw_A_step (cc := cX11_needInvasion) rfl dX11_needInvasion_5 rfl ls st H Q
theorem r138_6 : sw_A 138 6 ls st H Q = (sw_A 138 8 ls (.int (Int32.ofInt 35) :: st) H Q) := sw_A_step (cc := cX11_needInvasion) rfl dX11_needInvasion_6 rfl ls st H Q
theorem r138_8 : sw_A 138 8 ls st H Q = (sw_pop False 3 st [] fun args r => sw_ck False r (sw_M 17 args H (sw_K 138 11 none ls r Q))) := sw_A_step (cc := cX11_needInvasion) rfl dX11_needInvasion_8 rfl ls st H Q
theorem r138_11 : sw_A 138 11 ls st H Q = (sw_lda False ls 0 fun x => sw_A 138 12 ls (.ref x :: st) H Q) := sw_A_step (cc := cX11_needInvasion) rfl dX11_needInvasion_11 rfl ls st H Q
theorem r138_12 : sw_A 138 12 ls st H Q = (sw_ldi False ls 1 fun x => sw_A 138 13 ls (.int x :: st) H Q) := sw_A_step (cc := cX11_needInvasion) rfl dX11_needInvasion_12 rfl ls st H Q
theorem r138_13 : sw_A 138 13 ls st H Q = (sw_pop False 2 st [] fun args r => sw_ck False r (sw_rc False H (some 11) args (sw_M 38 args H (sw_K 138 16 none ls r Q)))) := sw_A_step (cc := cX11_needInvasion) rfl dX11_needInvasion_13 rfl ls st H Q
theorem r138_16 : sw_A 138 16 ls st H Q = (match st with | [] => Q (some none) H | _ => False) := sw_A_step (cc := cX11_needInvasion) rfl dX11_needInvasion_16 rfl ls st H Q
theorem r139_0 : sw_A 139 0 ls st H Q = (sw_A 139 1 ls (.int (Int32.ofInt (-1)) :: st) H Q) := sw_A_step (cc := cX6_nextBond) rfl dX6_nextBond_0 rfl ls st H Q
theorem r139_1 : sw_A 139 1 ls st H Q = (sw_has1 False ls 3 (sw_i1 False st fun x r => sw_A 139 2 (sw_set1 ls 3 (.int x)) r H Q)) := sw_A_step (cc := cX6_nextBond) rfl dX6_nextBond_1 rfl ls st H Q
theorem r139_2 : sw_A 139 2 ls st H Q = (sw_A 139 3 ls (.int (Int32.ofInt 0) :: st) H Q) := sw_A_step (cc := cX6_nextBond) rfl dX6_nextBond_2 rfl ls st H Q
theorem r139_3 : sw_A 139 3 ls st H Q = (sw_has1 False ls 4 (sw_i1 False st fun x r => sw_A 139 5 (sw_set1 ls 4 (.int x)) r H Q)) := sw_A_step (cc := cX6_nextBond) rfl dX6_nextBond_3 rfl ls st H Q
theorem r139_5 : sw_A 139 5 ls st H Q = (sw_ldi False ls 4 fun x => sw_A 139 7 ls (.int x :: st) H Q) := sw_A_step (cc := cX6_nextBond) rfl dX6_nextBond_5 rfl ls st H Q
theorem r139_7 : sw_A 139 7 ls st H Q = (sw_A 139 9 ls (.int (Int32.ofInt 60) :: st) H Q) := sw_A_step (cc := cX6_nextBond) rfl dX6_nextBond_7 rfl ls st H Q
theorem r139_9 : sw_A 139 9 ls st H Q = (sw_i2 False st fun x y r => if y ≤ x then sw_A 139 99 ls r H Q else sw_A 139 12 ls r H Q) := sw_A_step (cc := cX6_nextBond) rfl dX6_nextBond_9 rfl ls st H Q
theorem r139_12 : sw_A 139 12 ls st H Q = (sw_ldi False ls 4 fun x => sw_A 139 14 ls (.int x :: st) H Q) := sw_A_step (cc := cX6_nextBond) rfl dX6_nextBond_12 rfl ls st H Q
theorem r139_14 : sw_A 139 14 ls st H Q = (sw_pop False 1 st [] fun args r => sw_ck False r (sw_M 86 args H (sw_K 139 17 none ls r Q))) := sw_A_step (cc := cX6_nextBond) rfl dX6_nextBond_14 rfl ls st H Q
theorem r139_17 : sw_A 139 17 ls st H Q = (sw_has1 False ls 5 (sw_i1 False st fun x r => sw_A 139 19 (sw_set1 ls 5 (.int x)) r H Q)) := sw_A_step (cc := cX6_nextBond) rfl dX6_nextBond_17 rfl ls st H Q
theorem r139_19 : sw_A 139 19 ls st H Q = (sw_ldi False ls 4 fun x => sw_A 139 21 ls (.int x :: st) H Q) := sw_A_step (cc := cX6_nextBond) rfl dX6_nextBond_19 rfl ls st H Q
theorem r139_21 : sw_A 139 21 ls st H Q = (sw_pop False 1 st [] fun args r => sw_ck False r (sw_M 87 args H (sw_K 139 24 none ls r Q))) := sw_A_step (cc := cX6_nextBond) rfl dX6_nextBond_21 rfl ls st H Q
theorem r139_24 : sw_A 139 24 ls st H Q = (sw_has1 False ls 6 (sw_i1 False st fun x r => sw_A 139 26 (sw_set1 ls 6 (.int x)) r H Q)) := sw_A_step (cc := cX6_nextBond) rfl dX6_nextBond_24 rfl ls st H Q
theorem r139_26 : sw_A 139 26 ls st H Q = (sw_lda False ls 0 fun x => sw_A 139 27 ls (.ref x :: st) H Q) := sw_A_step (cc := cX6_nextBond) rfl dX6_nextBond_26 rfl ls st H Q
theorem r139_27 : sw_A 139 27 ls st H Q = (sw_r1 False st fun a r => sw_gf False H (some (6, 0, 1)) a fun v => sw_A 139 30 ls (v :: r) H Q) := sw_A_step (cc := cX6_nextBond) rfl dX6_nextBond_27 rfl ls st H Q
theorem r139_30 : sw_A 139 30 ls st H Q = (sw_ldi False ls 5 fun x => sw_A 139 32 ls (.int x :: st) H Q) := sw_A_step (cc := cX6_nextBond) rfl dX6_nextBond_30 rfl ls st H Q
theorem r139_32 : sw_A 139 32 ls st H Q = (sw_ri False st fun a i r => sw_ald False H 1 a i fun x => sw_A 139 33 ls (.int x :: r) H Q) := sw_A_step (cc := cX6_nextBond) rfl dX6_nextBond_32 rfl ls st H Q
theorem r139_33 : sw_A 139 33 ls st H Q = (sw_lda False ls 0 fun x => sw_A 139 34 ls (.ref x :: st) H Q) := sw_A_step (cc := cX6_nextBond) rfl dX6_nextBond_33 rfl ls st H Q
theorem r139_34 : sw_A 139 34 ls st H Q = (sw_r1 False st fun a r => sw_gf False H (some (6, 0, 1)) a fun v => sw_A 139 37 ls (v :: r) H Q) := sw_A_step (cc := cX6_nextBond) rfl dX6_nextBond_34 rfl ls st H Q
theorem r139_37 : sw_A 139 37 ls st H Q = (sw_ldi False ls 6 fun x => sw_A 139 39 ls (.int x :: st) H Q) := sw_A_step (cc := cX6_nextBond) rfl dX6_nextBond_37 rfl ls st H Q
theorem r139_39 : sw_A 139 39 ls st H Q = (sw_ri False st fun a i r => sw_ald False H 1 a i fun x => sw_A 139 40 ls (.int x :: r) H Q) := sw_A_step (cc := cX6_nextBond) rfl dX6_nextBond_39 rfl ls st H Q
theorem r139_40 : sw_A 139 40 ls st H Q = (sw_i2 False st fun x y r => if x = y then sw_A 139 61 ls r H Q else sw_A 139 43 ls r H Q) := sw_A_step (cc := cX6_nextBond) rfl dX6_nextBond_40 rfl ls st H Q
theorem r139_43 : sw_A 139 43 ls st H Q = (sw_lda False ls 2 fun x => sw_A 139 44 ls (.ref x :: st) H Q) := sw_A_step (cc := cX6_nextBond) rfl dX6_nextBond_43 rfl ls st H Q
theorem r139_44 : sw_A 139 44 ls st H Q = (sw_ldi False ls 5 fun x => sw_A 139 46 ls (.int x :: st) H Q) := sw_A_step (cc := cX6_nextBond) rfl dX6_nextBond_44 rfl ls st H Q
theorem r139_46 : sw_A 139 46 ls st H Q = (sw_ri False st fun a i r => sw_ald False H 1 a i fun x => sw_A 139 47 ls (.int x :: r) H Q) := sw_A_step (cc := cX6_nextBond) rfl dX6_nextBond_46 rfl ls st H Q
theorem r139_47 : sw_A 139 47 ls st H Q = (sw_i1 False st fun x r => if ¬ x = 0 then sw_A 139 61 ls r H Q else sw_A 139 50 ls r H Q) := sw_A_step (cc := cX6_nextBond) rfl dX6_nextBond_47 rfl ls st H Q
theorem r139_50 : sw_A 139 50 ls st H Q = (sw_lda False ls 2 fun x => sw_A 139 51 ls (.ref x :: st) H Q) := sw_A_step (cc := cX6_nextBond) rfl dX6_nextBond_50 rfl ls st H Q
theorem r139_51 : sw_A 139 51 ls st H Q = (sw_ldi False ls 6 fun x => sw_A 139 53 ls (.int x :: st) H Q) := sw_A_step (cc := cX6_nextBond) rfl dX6_nextBond_51 rfl ls st H Q
theorem r139_53 : sw_A 139 53 ls st H Q = (sw_ri False st fun a i r => sw_ald False H 1 a i fun x => sw_A 139 54 ls (.int x :: r) H Q) := sw_A_step (cc := cX6_nextBond) rfl dX6_nextBond_53 rfl ls st H Q
theorem r139_54 : sw_A 139 54 ls st H Q = (sw_i1 False st fun x r => if ¬ x = 0 then sw_A 139 61 ls r H Q else sw_A 139 57 ls r H Q) := sw_A_step (cc := cX6_nextBond) rfl dX6_nextBond_54 rfl ls st H Q
theorem r139_57 : sw_A 139 57 ls st H Q = (sw_A 139 58 ls (.int (Int32.ofInt 1) :: st) H Q) := sw_A_step (cc := cX6_nextBond) rfl dX6_nextBond_57 rfl ls st H Q
theorem r139_58 : sw_A 139 58 ls st H Q = (sw_A 139 62 ls st H Q) := sw_A_step (cc := cX6_nextBond) rfl dX6_nextBond_58 rfl ls st H Q
theorem r139_61 : sw_A 139 61 ls st H Q = (sw_A 139 62 ls (.int (Int32.ofInt 0) :: st) H Q) := sw_A_step (cc := cX6_nextBond) rfl dX6_nextBond_61 rfl ls st H Q
theorem r139_62 : sw_A 139 62 ls st H Q = (sw_has1 False ls 7 (sw_i1 False st fun x r => sw_A 139 64 (sw_set1 ls 7 (.int x)) r H Q)) := sw_A_step (cc := cX6_nextBond) rfl dX6_nextBond_62 rfl ls st H Q
theorem r139_64 : sw_A 139 64 ls st H Q = (sw_ldi False ls 7 fun x => sw_A 139 66 ls (.int x :: st) H Q) := sw_A_step (cc := cX6_nextBond) rfl dX6_nextBond_64 rfl ls st H Q
theorem r139_66 : sw_A 139 66 ls st H Q = (sw_i1 False st fun x r => if x = 0 then sw_A 139 93 ls r H Q else sw_A 139 69 ls r H Q) := sw_A_step (cc := cX6_nextBond) rfl dX6_nextBond_66 rfl ls st H Q
theorem r139_69 : sw_A 139 69 ls st H Q = (sw_ldi False ls 3 fun x => sw_A 139 70 ls (.int x :: st) H Q) := sw_A_step (cc := cX6_nextBond) rfl dX6_nextBond_69 rfl ls st H Q
theorem r139_70 : sw_A 139 70 ls st H Q = (sw_A 139 71 ls (.int (Int32.ofInt (-1)) :: st) H Q) := sw_A_step (cc := cX6_nextBond) rfl dX6_nextBond_70 rfl ls st H Q
theorem r139_71 : sw_A 139 71 ls st H Q = (sw_i2 False st fun x y r => if x = y then sw_A 139 90 ls r H Q else sw_A 139 74 ls r H Q) := sw_A_step (cc := cX6_nextBond) rfl dX6_nextBond_71 rfl ls st H Q
theorem r139_74 : sw_A 139 74 ls st H Q = (sw_lda False ls 1 fun x => sw_A 139 75 ls (.ref x :: st) H Q) := sw_A_step (cc := cX6_nextBond) rfl dX6_nextBond_74 rfl ls st H Q
theorem r139_75 : sw_A 139 75 ls st H Q = (sw_r1 False st fun a r => sw_gf False H (some (8, 0, 1)) a fun v => sw_A 139 78 ls (v :: r) H Q) := sw_A_step (cc := cX6_nextBond) rfl dX6_nextBond_75 rfl ls st H Q
theorem r139_78 : sw_A 139 78 ls st H Q = (sw_ldi False ls 4 fun x => sw_A 139 80 ls (.int x :: st) H Q) := sw_A_step (cc := cX6_nextBond) rfl dX6_nextBond_78 rfl ls st H Q
theorem r139_80 : sw_A 139 80 ls st H Q = (sw_ri False st fun a i r => sw_ald False H 0 a i fun x => sw_A 139 81 ls (.int x :: r) H Q) := sw_A_step (cc := cX6_nextBond) rfl dX6_nextBond_80 rfl ls st H Q
theorem r139_81 : sw_A 139 81 ls st H Q = (sw_lda False ls 1 fun x => sw_A 139 82 ls (.ref x :: st) H Q) := sw_A_step (cc := cX6_nextBond) rfl dX6_nextBond_81 rfl ls st H Q
theorem r139_82 : sw_A 139 82 ls st H Q = (sw_r1 False st fun a r => sw_gf False H (some (8, 0, 1)) a fun v => sw_A 139 85 ls (v :: r) H Q) := sw_A_step (cc := cX6_nextBond) rfl dX6_nextBond_82 rfl ls st H Q
theorem r139_85 : sw_A 139 85 ls st H Q = (sw_ldi False ls 3 fun x => sw_A 139 86 ls (.int x :: st) H Q) := sw_A_step (cc := cX6_nextBond) rfl dX6_nextBond_85 rfl ls st H Q
theorem r139_86 : sw_A 139 86 ls st H Q = (sw_ri False st fun a i r => sw_ald False H 0 a i fun x => sw_A 139 87 ls (.int x :: r) H Q) := sw_A_step (cc := cX6_nextBond) rfl dX6_nextBond_86 rfl ls st H Q
theorem r139_87 : sw_A 139 87 ls st H Q = (sw_i2 False st fun x y r => if y ≤ x then sw_A 139 93 ls r H Q else sw_A 139 90 ls r H Q) := sw_A_step (cc := cX6_nextBond) rfl dX6_nextBond_87 rfl ls st H Q
theorem r139_90 : sw_A 139 90 ls st H Q = (sw_ldi False ls 4 fun x => sw_A 139 92 ls (.int x :: st) H Q) := sw_A_step (cc := cX6_nextBond) rfl dX6_nextBond_90 rfl ls st H Q
theorem r139_92 : sw_A 139 92 ls st H Q = (sw_has1 False ls 3 (sw_i1 False st fun x r => sw_A 139 93 (sw_set1 ls 3 (.int x)) r H Q)) := sw_A_step (cc := cX6_nextBond) rfl dX6_nextBond_92 rfl ls st H Q
theorem r139_93 : sw_A 139 93 ls st H Q = (sw_ldi False ls 4 fun x => sw_A 139 96 (sw_set1 ls 4 (.int (x + Int32.ofInt 1))) st H Q) := sw_A_step (cc := cX6_nextBond) rfl dX6_nextBond_93 rfl ls st H Q
theorem r139_96 : sw_A 139 96 ls st H Q = (sw_A 139 5 ls st H Q) := sw_A_step (cc := cX6_nextBond) rfl dX6_nextBond_96 rfl ls st H Q
theorem r139_99 : sw_A 139 99 ls st H Q = (sw_ldi False ls 3 fun x => sw_A 139 100 ls (.int x :: st) H Q) := sw_A_step (cc := cX6_nextBond) rfl dX6_nextBond_99 rfl ls st H Q
theorem r139_100 : sw_A 139 100 ls st H Q = (match st with | [.int x] => Q (some (some (.int x))) H | _ => False) := sw_A_step (cc := cX6_nextBond) rfl dX6_nextBond_100 rfl ls st H Q
theorem r140_0 : sw_A 140 0 ls st H Q = (sw_lda False ls 0 fun x => sw_A 140 1 ls (.ref x :: st) H Q) := sw_A_step (cc := cX6_goOn) rfl dX6_goOn_0 rfl ls st H Q
theorem r140_1 : sw_A 140 1 ls st H Q = (sw_r1 False st fun a r => sw_gf False H (some (6, 0, 1)) a fun v => sw_A 140 4 ls (v :: r) H Q) := sw_A_step (cc := cX6_goOn) rfl dX6_goOn_1 rfl ls st H Q
theorem r140_4 : sw_A 140 4 ls st H Q = (sw_pop False 1 st [] fun args r => sw_ck False r (sw_M 105 args H (sw_K 140 7 none ls r Q))) := sw_A_step (cc := cX6_goOn) rfl dX6_goOn_4 rfl ls st H Q
theorem r140_7 : sw_A 140 7 ls st H Q = (sw_lda False ls 0 fun x => sw_A 140 8 ls (.ref x :: st) H Q) := sw_A_step (cc := cX6_goOn) rfl dX6_goOn_7 rfl ls st H Q
theorem r140_8 : sw_A 140 8 ls st H Q = (sw_r1 False st fun a r => sw_gf False H (some (6, 0, 1)) a fun v => sw_A 140 11 ls (v :: r) H Q) := sw_A_step (cc := cX6_goOn) rfl dX6_goOn_8 rfl ls st H Q
theorem r140_11 : sw_A 140 11 ls st H Q = (sw_ldi False ls 3 fun x => sw_A 140 12 ls (.int x :: st) H Q) := sw_A_step (cc := cX6_goOn) rfl dX6_goOn_11 rfl ls st H Q
theorem r140_12 : sw_A 140 12 ls st H Q = (sw_A 140 13 ls (.int (Int32.ofInt 1) :: st) H Q) := sw_A_step (cc := cX6_goOn) rfl dX6_goOn_12 rfl ls st H Q
theorem r140_13 : sw_A 140 13 ls st H Q = (sw_rix False st fun a i x r => sw_ast False H 1 a i (x &&& 1) fun H1 => sw_A 140 14 ls r H1 Q) := sw_A_step (cc := cX6_goOn) rfl dX6_goOn_13 rfl ls st H Q
theorem r140_14 : sw_A 140 14 ls st H Q = (sw_lda False ls 0 fun x => sw_A 140 15 ls (.ref x :: st) H Q) := sw_A_step (cc := cX6_goOn) rfl dX6_goOn_14 rfl ls st H Q
theorem r140_15 : sw_A 140 15 ls st H Q = (sw_ldi False ls 3 fun x => sw_A 140 16 ls (.int x :: st) H Q) := sw_A_step (cc := cX6_goOn) rfl dX6_goOn_15 rfl ls st H Q
theorem r140_16 : sw_A 140 16 ls st H Q = (sw_rv False st fun a v r => sw_pf False H (some (6, 1, 0)) a v fun H1 => sw_A 140 19 ls r H1 Q) := sw_A_step (cc := cX6_goOn) rfl dX6_goOn_16 rfl ls st H Q
theorem r140_19 : sw_A 140 19 ls st H Q = (sw_lda False ls 0 fun x => sw_A 140 20 ls (.ref x :: st) H Q) := sw_A_step (cc := cX6_goOn) rfl dX6_goOn_19 rfl ls st H Q
theorem r140_20 : sw_A 140 20 ls st H Q = (sw_A 140 21 ls (.int (Int32.ofInt (-1)) :: st) H Q) := sw_A_step (cc := cX6_goOn) rfl dX6_goOn_20 rfl ls st H Q
theorem r140_21 : sw_A 140 21 ls st H Q = (sw_rv False st fun a v r => sw_pf False H (some (6, 2, 0)) a v fun H1 => sw_A 140 24 ls r H1 Q) := sw_A_step (cc := cX6_goOn) rfl dX6_goOn_21 rfl ls st H Q
theorem r140_24 : sw_A 140 24 ls st H Q = (sw_A 140 25 ls (.int (Int32.ofInt 0) :: st) H Q) := sw_A_step (cc := cX6_goOn) rfl dX6_goOn_24 rfl ls st H Q
theorem r140_25 : sw_A 140 25 ls st H Q = (sw_has1 False ls 5 (sw_i1 False st fun x r => sw_A 140 27 (sw_set1 ls 5 (.int x)) r H Q)) := sw_A_step (cc := cX6_goOn) rfl dX6_goOn_25 rfl ls st H Q
theorem r140_27 : sw_A 140 27 ls st H Q = (sw_ldi False ls 5 fun x => sw_A 140 29 ls (.int x :: st) H Q) := sw_A_step (cc := cX6_goOn) rfl dX6_goOn_27 rfl ls st H Q
theorem r140_29 : sw_A 140 29 ls st H Q = (sw_ldi False ls 4 fun x => sw_A 140 31 ls (.int x :: st) H Q) := sw_A_step (cc := cX6_goOn) rfl dX6_goOn_29 rfl ls st H Q
theorem r140_31 : sw_A 140 31 ls st H Q = (sw_i2 False st fun x y r => if y ≤ x then sw_A 140 114 ls r H Q else sw_A 140 34 ls r H Q) := sw_A_step (cc := cX6_goOn) rfl dX6_goOn_31 rfl ls st H Q
theorem r140_34 : sw_A 140 34 ls st H Q = (sw_lda False ls 0 fun x => sw_A 140 35 ls (.ref x :: st) H Q) := sw_A_step (cc := cX6_goOn) rfl dX6_goOn_34 rfl ls st H Q
theorem r140_35 : sw_A 140 35 ls st H Q = (sw_lda False ls 1 fun x => sw_A 140 36 ls (.ref x :: st) H Q) := sw_A_step (cc := cX6_goOn) rfl dX6_goOn_35 rfl ls st H Q
theorem r140_36 : sw_A 140 36 ls st H Q = (sw_lda False ls 2 fun x => sw_A 140 37 ls (.ref x :: st) H Q) := sw_A_step (cc := cX6_goOn) rfl dX6_goOn_36 rfl ls st H Q
theorem r140_37 : sw_A 140 37 ls st H Q = (sw_pop False 3 st [] fun args r => sw_ck False r (sw_rc False H (some 6) args (sw_M 139 args H (sw_K 140 40 none ls r Q)))) := sw_A_step (cc := cX6_goOn) rfl dX6_goOn_37 rfl ls st H Q
theorem r140_40 : sw_A 140 40 ls st H Q = (sw_has1 False ls 6 (sw_i1 False st fun x r => sw_A 140 42 (sw_set1 ls 6 (.int x)) r H Q)) := sw_A_step (cc := cX6_goOn) rfl dX6_goOn_40 rfl ls st H Q
theorem r140_42 : sw_A 140 42 ls st H Q = (sw_ldi False ls 6 fun x => sw_A 140 44 ls (.int x :: st) H Q) := sw_A_step (cc := cX6_goOn) rfl dX6_goOn_42 rfl ls st H Q
theorem r140_44 : sw_A 140 44 ls st H Q = (sw_A 140 45 ls (.int (Int32.ofInt (-1)) :: st) H Q) := sw_A_step (cc := cX6_goOn) rfl dX6_goOn_44 rfl ls st H Q
theorem r140_45 : sw_A 140 45 ls st H Q = (sw_i2 False st fun x y r => if ¬ x = y then sw_A 140 50 ls r H Q else sw_A 140 48 ls r H Q) := sw_A_step (cc := cX6_goOn) rfl dX6_goOn_45 rfl ls st H Q
theorem r140_48 : sw_A 140 48 ls st H Q = (sw_A 140 49 ls (.int (Int32.ofInt 0) :: st) H Q) := sw_A_step (cc := cX6_goOn) rfl dX6_goOn_48 rfl ls st H Q
theorem r140_49 : sw_A 140 49 ls st H Q = (match st with | [.int x] => (if true = false ∨ x = 0 ∨ x = 1 then Q (some (some (.int x))) H else False) | _ => False) := sw_A_step (cc := cX6_goOn) rfl dX6_goOn_49 rfl ls st H Q
theorem r140_50 : sw_A 140 50 ls st H Q = (sw_lda False ls 0 fun x => sw_A 140 51 ls (.ref x :: st) H Q) := sw_A_step (cc := cX6_goOn) rfl dX6_goOn_50 rfl ls st H Q
theorem r140_51 : sw_A 140 51 ls st H Q = (sw_lda False ls 0 fun x => sw_A 140 52 ls (.ref x :: st) H Q) := sw_A_step (cc := cX6_goOn) rfl dX6_goOn_51 rfl ls st H Q
theorem r140_52 : sw_A 140 52 ls st H Q = (sw_r1 False st fun a r => sw_gf False H (some (6, 0, 1)) a fun v => sw_A 140 55 ls (v :: r) H Q) := sw_A_step (cc := cX6_goOn) rfl dX6_goOn_52 rfl ls st H Q
theorem r140_55 : sw_A 140 55 ls st H Q = (sw_ldi False ls 6 fun x => sw_A 140 57 ls (.int x :: st) H Q) := sw_A_step (cc := cX6_goOn) rfl dX6_goOn_55 rfl ls st H Q
theorem r140_57 : sw_A 140 57 ls st H Q = (sw_pop False 1 st [] fun args r => sw_ck False r (sw_M 86 args H (sw_K 140 60 none ls r Q))) := sw_A_step (cc := cX6_goOn) rfl dX6_goOn_57 rfl ls st H Q
theorem r140_60 : sw_A 140 60 ls st H Q = (sw_ri False st fun a i r => sw_ald False H 1 a i fun x => sw_A 140 61 ls (.int x :: r) H Q) := sw_A_step (cc := cX6_goOn) rfl dX6_goOn_60 rfl ls st H Q
theorem r140_61 : sw_A 140 61 ls st H Q = (sw_i1 False st fun x r => if x = 0 then sw_A 140 72 ls r H Q else sw_A 140 64 ls r H Q) := sw_A_step (cc := cX6_goOn) rfl dX6_goOn_61 rfl ls st H Q
theorem r140_64 : sw_A 140 64 ls st H Q = (sw_ldi False ls 6 fun x => sw_A 140 66 ls (.int x :: st) H Q) := sw_A_step (cc := cX6_goOn) rfl dX6_goOn_64 rfl ls st H Q
theorem r140_66 : sw_A 140 66 ls st H Q = (sw_pop False 1 st [] fun args r => sw_ck False r (sw_M 87 args H (sw_K 140 69 none ls r Q))) := sw_A_step (cc := cX6_goOn) rfl dX6_goOn_66 rfl ls st H Q
theorem r140_69 : sw_A 140 69 ls st H Q = (sw_A 140 77 ls st H Q) := sw_A_step (cc := cX6_goOn) rfl dX6_goOn_69 rfl ls st H Q
theorem r140_72 : sw_A 140 72 ls st H Q = (sw_ldi False ls 6 fun x => sw_A 140 74 ls (.int x :: st) H Q) := sw_A_step (cc := cX6_goOn) rfl dX6_goOn_72 rfl ls st H Q
theorem r140_74 : sw_A 140 74 ls st H Q = (sw_pop False 1 st [] fun args r => sw_ck False r (sw_M 86 args H (sw_K 140 77 none ls r Q))) := sw_A_step (cc := cX6_goOn) rfl dX6_goOn_74 rfl ls st H Q
theorem r140_77 : sw_A 140 77 ls st H Q = (sw_rv False st fun a v r => sw_pf False H (some (6, 1, 0)) a v fun H1 => sw_A 140 80 ls r H1 Q) := sw_A_step (cc := cX6_goOn) rfl dX6_goOn_77 rfl ls st H Q
theorem r140_80 : sw_A 140 80 ls st H Q = (sw_lda False ls 0 fun x => sw_A 140 81 ls (.ref x :: st) H Q) := sw_A_step (cc := cX6_goOn) rfl dX6_goOn_80 rfl ls st H Q
theorem r140_81 : sw_A 140 81 ls st H Q = (sw_r1 False st fun a r => sw_gf False H (some (6, 0, 1)) a fun v => sw_A 140 84 ls (v :: r) H Q) := sw_A_step (cc := cX6_goOn) rfl dX6_goOn_81 rfl ls st H Q
theorem r140_84 : sw_A 140 84 ls st H Q = (sw_lda False ls 0 fun x => sw_A 140 85 ls (.ref x :: st) H Q) := sw_A_step (cc := cX6_goOn) rfl dX6_goOn_84 rfl ls st H Q
theorem r140_85 : sw_A 140 85 ls st H Q = (sw_r1 False st fun a r => sw_gf False H (some (6, 1, 0)) a fun v => sw_A 140 88 ls (v :: r) H Q) := sw_A_step (cc := cX6_goOn) rfl dX6_goOn_85 rfl ls st H Q
theorem r140_88 : sw_A 140 88 ls st H Q = (sw_A 140 89 ls (.int (Int32.ofInt 1) :: st) H Q) := sw_A_step (cc := cX6_goOn) rfl dX6_goOn_88 rfl ls st H Q
theorem r140_89 : sw_A 140 89 ls st H Q = (sw_rix False st fun a i x r => sw_ast False H 1 a i (x &&& 1) fun H1 => sw_A 140 90 ls r H1 Q) := sw_A_step (cc := cX6_goOn) rfl dX6_goOn_89 rfl ls st H Q
theorem r140_90 : sw_A 140 90 ls st H Q = (sw_lda False ls 0 fun x => sw_A 140 91 ls (.ref x :: st) H Q) := sw_A_step (cc := cX6_goOn) rfl dX6_goOn_90 rfl ls st H Q
theorem r140_91 : sw_A 140 91 ls st H Q = (sw_lda False ls 0 fun x => sw_A 140 92 ls (.ref x :: st) H Q) := sw_A_step (cc := cX6_goOn) rfl dX6_goOn_91 rfl ls st H Q
theorem r140_92 : sw_A 140 92 ls st H Q = (sw_r1 False st fun a r => sw_gf False H (some (6, 2, 0)) a fun v => sw_A 140 95 ls (v :: r) H Q) := sw_A_step (cc := cX6_goOn) rfl dX6_goOn_92 rfl ls st H Q
theorem r140_95 : sw_A 140 95 ls st H Q = (sw_lda False ls 1 fun x => sw_A 140 96 ls (.ref x :: st) H Q) := sw_A_step (cc := cX6_goOn) rfl dX6_goOn_95 rfl ls st H Q
theorem r140_96 : sw_A 140 96 ls st H Q = (sw_r1 False st fun a r => sw_gf False H (some (8, 0, 1)) a fun v => sw_A 140 99 ls (v :: r) H Q) := sw_A_step (cc := cX6_goOn) rfl dX6_goOn_96 rfl ls st H Q
theorem r140_99 : sw_A 140 99 ls st H Q = (sw_ldi False ls 6 fun x => sw_A 140 101 ls (.int x :: st) H Q) := sw_A_step (cc := cX6_goOn) rfl dX6_goOn_99 rfl ls st H Q
theorem r140_101 : sw_A 140 101 ls st H Q = (sw_ri False st fun a i r => sw_ald False H 0 a i fun x => sw_A 140 102 ls (.int x :: r) H Q) := sw_A_step (cc := cX6_goOn) rfl dX6_goOn_101 rfl ls st H Q
theorem r140_102 : sw_A 140 102 ls st H Q = (sw_pop False 2 st [] fun args r => sw_ck False r (sw_M 67 args H (sw_K 140 105 none ls r Q))) := sw_A_step (cc := cX6_goOn) rfl dX6_goOn_102 rfl ls st H Q
theorem r140_105 : sw_A 140 105 ls st H Q = (sw_rv False st fun a v r => sw_pf False H (some (6, 2, 0)) a v fun H1 => sw_A 140 108 ls r H1 Q) := sw_A_step (cc := cX6_goOn) rfl dX6_goOn_105 rfl ls st H Q
theorem r140_108 : sw_A 140 108 ls st H Q = (sw_ldi False ls 5 fun x => sw_A 140 111 (sw_set1 ls 5 (.int (x + Int32.ofInt 1))) st H Q) := sw_A_step (cc := cX6_goOn) rfl dX6_goOn_108 rfl ls st H Q
theorem r140_111 : sw_A 140 111 ls st H Q = (sw_A 140 27 ls st H Q) := sw_A_step (cc := cX6_goOn) rfl dX6_goOn_111 rfl ls st H Q
theorem r140_114 : sw_A 140 114 ls st H Q = (sw_A 140 115 ls (.int (Int32.ofInt 1) :: st) H Q) := sw_A_step (cc := cX6_goOn) rfl dX6_goOn_114 rfl ls st H Q
theorem r140_115 : sw_A 140 115 ls st H Q = (match st with | [.int x] => (if true = false ∨ x = 0 ∨ x = 1 then Q (some (some (.int x))) H else False) | _ => False) := sw_A_step (cc := cX6_goOn) rfl dX6_goOn_115 rfl ls st H Q
theorem r141_0 : sw_A 141 0 ls st H Q = (sw_lda False ls 0 fun x => sw_A 141 1 ls (.ref x :: st) H Q) := sw_A_step (cc := cX11_invade) rfl dX11_invade_0 rfl ls st H Q
theorem r141_1 : sw_A 141 1 ls st H Q = (sw_ldi False ls 1 fun x => sw_A 141 2 ls (.int x :: st) H Q) := sw_A_step (cc := cX11_invade) rfl dX11_invade_1 rfl ls st H Q
theorem r141_2 : sw_A 141 2 ls st H Q = (sw_ldi False ls 2 fun x => sw_A 141 3 ls (.int x :: st) H Q) := sw_A_step (cc := cX11_invade) rfl dX11_invade_2 rfl ls st H Q
theorem r141_3 : sw_A 141 3 ls st H Q = (sw_pop False 3 st [] fun args r => sw_ck False r (sw_rc False H (some 11) args (sw_M 138 args H (sw_K 141 6 none ls r Q)))) := sw_A_step (cc := cX11_invade) rfl dX11_invade_3 rfl ls st H Q
theorem r141_6 : sw_A 141 6 ls st H Q = (sw_lda False ls 0 fun x => sw_A 141 7 ls (.ref x :: st) H Q) := sw_A_step (cc := cX11_invade) rfl dX11_invade_6 rfl ls st H Q
theorem r141_7 : sw_A 141 7 ls st H Q = (sw_r1 False st fun a r => sw_gf False H (some (11, 8, 1)) a fun v => sw_A 141 10 ls (v :: r) H Q) := sw_A_step (cc := cX11_invade) rfl dX11_invade_7 rfl ls st H Q
theorem r141_10 : sw_A 141 10 ls st H Q = (sw_lda False ls 0 fun x => sw_A 141 11 ls (.ref x :: st) H Q) := sw_A_step (cc := cX11_invade) rfl dX11_invade_10 rfl ls st H Q
theorem r141_11 : sw_A 141 11 ls st H Q = (sw_r1 False st fun a r => sw_gf False H (some (11, 0, 1)) a fun v => sw_A 141 14 ls (v :: r) H Q) := sw_A_step (cc := cX11_invade) rfl dX11_invade_11 rfl ls st H Q
theorem r141_14 : sw_A 141 14 ls st H Q = (sw_lda False ls 0 fun x => sw_A 141 15 ls (.ref x :: st) H Q) := sw_A_step (cc := cX11_invade) rfl dX11_invade_14 rfl ls st H Q
theorem r141_15 : sw_A 141 15 ls st H Q = (sw_r1 False st fun a r => sw_gf False H (some (11, 2, 1)) a fun v => sw_A 141 18 ls (v :: r) H Q) := sw_A_step (cc := cX11_invade) rfl dX11_invade_15 rfl ls st H Q
theorem r141_18 : sw_A 141 18 ls st H Q = (sw_r1 False st fun a r => sw_gf False H (some (7, 0, 1)) a fun v => sw_A 141 21 ls (v :: r) H Q) := sw_A_step (cc := cX11_invade) rfl dX11_invade_18 rfl ls st H Q
theorem r141_21 : sw_A 141 21 ls st H Q = (sw_ldi False ls 1 fun x => sw_A 141 22 ls (.int x :: st) H Q) := sw_A_step (cc := cX11_invade) rfl dX11_invade_21 rfl ls st H Q
theorem r141_22 : sw_A 141 22 ls st H Q = (sw_ldi False ls 2 fun x => sw_A 141 23 ls (.int x :: st) H Q) := sw_A_step (cc := cX11_invade) rfl dX11_invade_22 rfl ls st H Q
theorem r141_23 : sw_A 141 23 ls st H Q = (sw_pop False 5 st [] fun args r => sw_ck False r (sw_rc False H (some 6) args (sw_M 140 args H (sw_K 141 26 none ls r Q)))) := sw_A_step (cc := cX11_invade) rfl dX11_invade_23 rfl ls st H Q
theorem r141_26 : sw_A 141 26 ls st H Q = (sw_i1 False st fun x r => if x = 0 then sw_A 141 39 ls r H Q else sw_A 141 29 ls r H Q) := sw_A_step (cc := cX11_invade) rfl dX11_invade_26 rfl ls st H Q
theorem r141_29 : sw_A 141 29 ls st H Q = (sw_lda False ls 0 fun x => sw_A 141 30 ls (.ref x :: st) H Q) := sw_A_step (cc := cX11_invade) rfl dX11_invade_29 rfl ls st H Q
theorem r141_30 : sw_A 141 30 ls st H Q = (sw_r1 False st fun a r => sw_gf False H (some (11, 8, 1)) a fun v => sw_A 141 33 ls (v :: r) H Q) := sw_A_step (cc := cX11_invade) rfl dX11_invade_30 rfl ls st H Q
theorem r141_33 : sw_A 141 33 ls st H Q = (sw_r1 False st fun a r => sw_gf False H (some (6, 1, 0)) a fun v => sw_A 141 36 ls (v :: r) H Q) := sw_A_step (cc := cX11_invade) rfl dX11_invade_33 rfl ls st H Q
theorem r141_36 : sw_A 141 36 ls st H Q = (sw_A 141 40 ls st H Q) := sw_A_step (cc := cX11_invade) rfl dX11_invade_36 rfl ls st H Q
theorem r141_39 : sw_A 141 39 ls st H Q = (sw_A 141 40 ls (.int (Int32.ofInt (-1)) :: st) H Q) := sw_A_step (cc := cX11_invade) rfl dX11_invade_39 rfl ls st H Q
theorem r141_40 : sw_A 141 40 ls st H Q = (match st with | [.int x] => Q (some (some (.int x))) H | _ => False) := sw_A_step (cc := cX11_invade) rfl dX11_invade_40 rfl ls st H Q
theorem r142_0 : sw_A 142 0 ls st H Q = (sw_lda False ls 0 fun x => sw_A 142 1 ls (.ref x :: st) H Q) := sw_A_step (cc := cL_comes) rfl dL_comes_0 rfl ls st H Q
theorem r142_1 : sw_A 142 1 ls st H Q = (sw_ldi False ls 1 fun x => sw_A 142 2 ls (.int x :: st) H Q) := sw_A_step (cc := cL_comes) rfl dL_comes_1 rfl ls st H Q
theorem r142_2 : sw_A 142 2 ls st H Q = (sw_ldi False ls 2 fun x => sw_A 142 3 ls (.int x :: st) H Q) := sw_A_step (cc := cL_comes) rfl dL_comes_2 rfl ls st H Q
theorem r142_3 : sw_A 142 3 ls st H Q = (sw_pop False 3 st [] fun args r => sw_ck False r (sw_rc False H (some 11) args (sw_M 141 args H (sw_K 142 6 (some (8, 3)) ls r Q)))) := sw_A_step (cc := cL_comes) rfl dL_comes_3 rfl ls st H Q
theorem r142_6 : sw_A 142 6 ls st H Q = (match st with | [.int x] => Q (some (some (.int x))) H | _ => False) := sw_A_step (cc := cL_comes) rfl dL_comes_6 rfl ls st H Q
theorem r142_7 : sw_A 142 7 ls st H Q = (sw_has1 False ls 3 (sw_r1 False st fun x r => sw_A 142 8 (sw_set1 ls 3 (.ref x)) r H Q)) := sw_A_step (cc := cL_comes) rfl dL_comes_7 rfl ls st H Q
theorem r142_8 : sw_A 142 8 ls st H Q = (sw_A 142 10 ls (.int (Int32.ofInt (-9)) :: st) H Q) := sw_A_step (cc := cL_comes) rfl dL_comes_8 rfl ls st H Q
theorem r142_10 : sw_A 142 10 ls st H Q = (match st with | [.int x] => Q (some (some (.int x))) H | _ => False) := sw_A_step (cc := cL_comes) rfl dL_comes_10 rfl ls st H Q
theorem r143_0 : sw_A 143 0 ls st H Q = (sw_lda False ls 0 fun x => sw_A 143 1 ls (.ref x :: st) H Q) := sw_A_step (cc := cX11_invaded) rfl dX11_invaded_0 rfl ls st H Q
theorem r143_1 : sw_A 143 1 ls st H Q = (sw_ldi False ls 1 fun x => sw_A 143 2 ls (.int x :: st) H Q) := sw_A_step (cc := cX11_invaded) rfl dX11_invaded_1 rfl ls st H Q
theorem r143_2 : sw_A 143 2 ls st H Q = (sw_ldi False ls 2 fun x => sw_A 143 3 ls (.int x :: st) H Q) := sw_A_step (cc := cX11_invaded) rfl dX11_invaded_2 rfl ls st H Q
theorem r143_3 : sw_A 143 3 ls st H Q = (sw_pop False 3 st [] fun args r => sw_ck False r (sw_rc False H (some 11) args (sw_M 138 args H (sw_K 143 6 none ls r Q)))) := sw_A_step (cc := cX11_invaded) rfl dX11_invaded_3 rfl ls st H Q
theorem r143_6 : sw_A 143 6 ls st H Q = (sw_lda False ls 0 fun x => sw_A 143 7 ls (.ref x :: st) H Q) := sw_A_step (cc := cX11_invaded) rfl dX11_invaded_6 rfl ls st H Q
theorem r143_7 : sw_A 143 7 ls st H Q = (sw_r1 False st fun a r => sw_gf False H (some (11, 8, 1)) a fun v => sw_A 143 10 ls (v :: r) H Q) := sw_A_step (cc := cX11_invaded) rfl dX11_invaded_7 rfl ls st H Q
theorem r143_10 : sw_A 143 10 ls st H Q = (sw_lda False ls 0 fun x => sw_A 143 11 ls (.ref x :: st) H Q) := sw_A_step (cc := cX11_invaded) rfl dX11_invaded_10 rfl ls st H Q
theorem r143_11 : sw_A 143 11 ls st H Q = (sw_r1 False st fun a r => sw_gf False H (some (11, 0, 1)) a fun v => sw_A 143 14 ls (v :: r) H Q) := sw_A_step (cc := cX11_invaded) rfl dX11_invaded_11 rfl ls st H Q
theorem r143_14 : sw_A 143 14 ls st H Q = (sw_lda False ls 0 fun x => sw_A 143 15 ls (.ref x :: st) H Q) := sw_A_step (cc := cX11_invaded) rfl dX11_invaded_14 rfl ls st H Q
theorem r143_15 : sw_A 143 15 ls st H Q = (sw_r1 False st fun a r => sw_gf False H (some (11, 2, 1)) a fun v => sw_A 143 18 ls (v :: r) H Q) := sw_A_step (cc := cX11_invaded) rfl dX11_invaded_15 rfl ls st H Q
theorem r143_18 : sw_A 143 18 ls st H Q = (sw_r1 False st fun a r => sw_gf False H (some (7, 0, 1)) a fun v => sw_A 143 21 ls (v :: r) H Q) := sw_A_step (cc := cX11_invaded) rfl dX11_invaded_18 rfl ls st H Q
theorem r143_21 : sw_A 143 21 ls st H Q = (sw_ldi False ls 1 fun x => sw_A 143 22 ls (.int x :: st) H Q) := sw_A_step (cc := cX11_invaded) rfl dX11_invaded_21 rfl ls st H Q
theorem r143_22 : sw_A 143 22 ls st H Q = (sw_ldi False ls 2 fun x => sw_A 143 23 ls (.int x :: st) H Q) := sw_A_step (cc := cX11_invaded) rfl dX11_invaded_22 rfl ls st H Q
theorem r143_23 : sw_A 143 23 ls st H Q = (sw_pop False 5 st [] fun args r => sw_ck False r (sw_rc False H (some 6) args (sw_M 140 args H (sw_K 143 26 none ls r Q)))) := sw_A_step (cc := cX11_invaded) rfl dX11_invaded_23 rfl ls st H Q
theorem r143_26 : sw_A 143 26 ls st H Q = (sw_i1 False st fun x r => if x = 0 then sw_A 143 39 ls r H Q else sw_A 143 29 ls r H Q) := sw_A_step (cc := cX11_invaded) rfl dX11_invaded_26 rfl ls st H Q
theorem r143_29 : sw_A 143 29 ls st H Q = (sw_lda False ls 0 fun x => sw_A 143 30 ls (.ref x :: st) H Q) := sw_A_step (cc := cX11_invaded) rfl dX11_invaded_29 rfl ls st H Q
theorem r143_30 : sw_A 143 30 ls st H Q = (sw_r1 False st fun a r => sw_gf False H (some (11, 8, 1)) a fun v => sw_A 143 33 ls (v :: r) H Q) := sw_A_step (cc := cX11_invaded) rfl dX11_invaded_30 rfl ls st H Q
theorem r143_33 : sw_A 143 33 ls st H Q = (sw_r1 False st fun a r => sw_gf False H (some (6, 2, 0)) a fun v => sw_A 143 36 ls (v :: r) H Q) := sw_A_step (cc := cX11_invaded) rfl dX11_invaded_33 rfl ls st H Q
theorem r143_36 : sw_A 143 36 ls st H Q = (sw_A 143 40 ls st H Q) := sw_A_step (cc := cX11_invaded) rfl dX11_invaded_36 rfl ls st H Q
theorem r143_39 : sw_A 143 39 ls st H Q = (sw_A 143 40 ls (.int (Int32.ofInt (-1)) :: st) H Q) := sw_A_step (cc := cX11_invaded) rfl dX11_invaded_39 rfl ls st H Q
theorem r143_40 : sw_A 143 40 ls st H Q = (match st with | [.int x] => Q (some (some (.int x))) H | _ => False) := sw_A_step (cc := cX11_invaded) rfl dX11_invaded_40 rfl ls st H Q
theorem r144_0 : sw_A 144 0 ls st H Q = (sw_lda False ls 0 fun x => sw_A 144 1 ls (.ref x :: st) H Q) := sw_A_step (cc := cL_most) rfl dL_most_0 rfl ls st H Q
theorem r144_1 : sw_A 144 1 ls st H Q = (sw_ldi False ls 1 fun x => sw_A 144 2 ls (.int x :: st) H Q) := sw_A_step (cc := cL_most) rfl dL_most_1 rfl ls st H Q
theorem r144_2 : sw_A 144 2 ls st H Q = (sw_ldi False ls 2 fun x => sw_A 144 3 ls (.int x :: st) H Q) := sw_A_step (cc := cL_most) rfl dL_most_2 rfl ls st H Q
theorem r144_3 : sw_A 144 3 ls st H Q = (sw_pop False 3 st [] fun args r => sw_ck False r (sw_rc False H (some 11) args (sw_M 143 args H (sw_K 144 6 (some (8, 3)) ls r Q)))) := sw_A_step (cc := cL_most) rfl dL_most_3 rfl ls st H Q
theorem r144_6 : sw_A 144 6 ls st H Q = (match st with | [.int x] => Q (some (some (.int x))) H | _ => False) := sw_A_step (cc := cL_most) rfl dL_most_6 rfl ls st H Q
theorem r144_7 : sw_A 144 7 ls st H Q = (sw_has1 False ls 3 (sw_r1 False st fun x r => sw_A 144 8 (sw_set1 ls 3 (.ref x)) r H Q)) := sw_A_step (cc := cL_most) rfl dL_most_7 rfl ls st H Q
theorem r144_8 : sw_A 144 8 ls st H Q = (sw_A 144 10 ls (.int (Int32.ofInt (-9)) :: st) H Q) := sw_A_step (cc := cL_most) rfl dL_most_8 rfl ls st H Q
theorem r144_10 : sw_A 144 10 ls st H Q = (match st with | [.int x] => Q (some (some (.int x))) H | _ => False) := sw_A_step (cc := cL_most) rfl dL_most_10 rfl ls st H Q
theorem r145_0 : sw_A 145 0 ls st H Q = (sw_ldl False ls 2 fun x => sw_A 145 1 ls (.long x :: st) H Q) := sw_A_step (cc := cL_comers) rfl dL_comers_0 rfl ls st H Q
theorem r145_1 : sw_A 145 1 ls st H Q = (sw_ldi False ls 4 fun x => sw_A 145 3 ls (.int x :: st) H Q) := sw_A_step (cc := cL_comers) rfl dL_comers_1 rfl ls st H Q
theorem r145_3 : sw_A 145 3 ls st H Q = (sw_pop False 2 st [] fun args r => sw_ck False r (sw_M 30 args H (sw_K 145 6 none ls r Q))) := sw_A_step (cc := cL_comers) rfl dL_comers_3 rfl ls st H Q
theorem r145_6 : sw_A 145 6 ls st H Q = (sw_i1 False st fun x r => if x = 0 then sw_A 145 39 ls r H Q else sw_A 145 9 ls r H Q) := sw_A_step (cc := cL_comers) rfl dL_comers_6 rfl ls st H Q
theorem r145_9 : sw_A 145 9 ls st H Q = (sw_lda False ls 0 fun x => sw_A 145 10 ls (.ref x :: st) H Q) := sw_A_step (cc := cL_comers) rfl dL_comers_9 rfl ls st H Q
theorem r145_10 : sw_A 145 10 ls st H Q = (sw_ldi False ls 4 fun x => sw_A 145 12 ls (.int x :: st) H Q) := sw_A_step (cc := cL_comers) rfl dL_comers_10 rfl ls st H Q
theorem r145_12 : sw_A 145 12 ls st H Q = (sw_A 145 13 ls (.int (Int32.ofInt 0) :: st) H Q) := sw_A_step (cc := cL_comers) rfl dL_comers_12 rfl ls st H Q
theorem r145_13 : sw_A 145 13 ls st H Q = (sw_pop False 3 st [] fun args r => sw_ck False r (sw_M 142 args H (sw_K 145 16 none ls r Q))) := sw_A_step (cc := cL_comers) rfl dL_comers_13 rfl ls st H Q
theorem r145_16 : sw_A 145 16 ls st H Q = (sw_A 145 18 ls (.int (Int32.ofInt (-9)) :: st) H Q) := sw_A_step (cc := cL_comers) rfl dL_comers_16 rfl ls st H Q
theorem r145_18 : sw_A 145 18 ls st H Q = (sw_i2 False st fun x y r => if ¬ x = y then sw_A 145 37 ls r H Q else sw_A 145 21 ls r H Q) := sw_A_step (cc := cL_comers) rfl dL_comers_18 rfl ls st H Q
theorem r145_21 : sw_A 145 21 ls st H Q = (sw_lda False ls 0 fun x => sw_A 145 22 ls (.ref x :: st) H Q) := sw_A_step (cc := cL_comers) rfl dL_comers_21 rfl ls st H Q
theorem r145_22 : sw_A 145 22 ls st H Q = (sw_ldi False ls 4 fun x => sw_A 145 24 ls (.int x :: st) H Q) := sw_A_step (cc := cL_comers) rfl dL_comers_22 rfl ls st H Q
theorem r145_24 : sw_A 145 24 ls st H Q = (sw_A 145 25 ls (.int (Int32.ofInt 1) :: st) H Q) := sw_A_step (cc := cL_comers) rfl dL_comers_24 rfl ls st H Q
theorem r145_25 : sw_A 145 25 ls st H Q = (sw_pop False 3 st [] fun args r => sw_ck False r (sw_M 144 args H (sw_K 145 28 none ls r Q))) := sw_A_step (cc := cL_comers) rfl dL_comers_25 rfl ls st H Q
theorem r145_28 : sw_A 145 28 ls st H Q = (sw_A 145 30 ls (.int (Int32.ofInt (-9)) :: st) H Q) := sw_A_step (cc := cL_comers) rfl dL_comers_28 rfl ls st H Q
theorem r145_30 : sw_A 145 30 ls st H Q = (sw_i2 False st fun x y r => if ¬ x = y then sw_A 145 37 ls r H Q else sw_A 145 33 ls r H Q) := sw_A_step (cc := cL_comers) rfl dL_comers_30 rfl ls st H Q
theorem r145_33 : sw_A 145 33 ls st H Q = (sw_A 145 34 ls (.int (Int32.ofInt 1) :: st) H Q) := sw_A_step (cc := cL_comers) rfl dL_comers_33 rfl ls st H Q
theorem r145_34 : sw_A 145 34 ls st H Q = (sw_A 145 38 ls st H Q) := sw_A_step (cc := cL_comers) rfl dL_comers_34 rfl ls st H Q
theorem r145_37 : sw_A 145 37 ls st H Q = (sw_A 145 38 ls (.int (Int32.ofInt 0) :: st) H Q) := sw_A_step (cc := cL_comers) rfl dL_comers_37 rfl ls st H Q
theorem r145_38 : sw_A 145 38 ls st H Q = (match st with | [.int x] => (if true = false ∨ x = 0 ∨ x = 1 then Q (some (some (.int x))) H else False) | _ => False) := sw_A_step (cc := cL_comers) rfl dL_comers_38 rfl ls st H Q
theorem r145_39 : sw_A 145 39 ls st H Q = (sw_A 145 40 ls (.long (Int64.ofNat 1) :: st) H Q) := sw_A_step (cc := cL_comers) rfl dL_comers_39 rfl ls st H Q
theorem r145_40 : sw_A 145 40 ls st H Q = (sw_ldi False ls 4 fun x => sw_A 145 42 ls (.int x :: st) H Q) := sw_A_step (cc := cL_comers) rfl dL_comers_40 rfl ls st H Q
theorem r145_42 : sw_A 145 42 ls st H Q = (sw_li False st fun x y r => sw_A 145 43 ls (.long (x <<< (y.toInt64 &&& 63)) :: r) H Q) := sw_A_step (cc := cL_comers) rfl dL_comers_42 rfl ls st H Q
theorem r145_43 : sw_A 145 43 ls st H Q = (sw_has1 False ls 6 (sw_l1 False st fun x r => sw_A 145 45 (sw_set2 ls 5 (.long x)) r H Q)) := sw_A_step (cc := cL_comers) rfl dL_comers_43 rfl ls st H Q
theorem r145_45 : sw_A 145 45 ls st H Q = (sw_A 145 46 ls (.int (Int32.ofInt (-1)) :: st) H Q) := sw_A_step (cc := cL_comers) rfl dL_comers_45 rfl ls st H Q
theorem r145_46 : sw_A 145 46 ls st H Q = (sw_has1 False ls 7 (sw_i1 False st fun x r => sw_A 145 48 (sw_set1 ls 7 (.int x)) r H Q)) := sw_A_step (cc := cL_comers) rfl dL_comers_46 rfl ls st H Q
theorem r145_48 : sw_A 145 48 ls st H Q = (sw_A 145 49 ls (.int (Int32.ofInt 0) :: st) H Q) := sw_A_step (cc := cL_comers) rfl dL_comers_48 rfl ls st H Q
theorem r145_49 : sw_A 145 49 ls st H Q = (sw_has1 False ls 8 (sw_i1 False st fun x r => sw_A 145 51 (sw_set1 ls 8 (.int x)) r H Q)) := sw_A_step (cc := cL_comers) rfl dL_comers_49 rfl ls st H Q
theorem r145_51 : sw_A 145 51 ls st H Q = (sw_ldi False ls 8 fun x => sw_A 145 53 ls (.int x :: st) H Q) := sw_A_step (cc := cL_comers) rfl dL_comers_51 rfl ls st H Q
theorem r145_53 : sw_A 145 53 ls st H Q = (sw_A 145 55 ls (.int (Int32.ofInt 36) :: st) H Q) := sw_A_step (cc := cL_comers) rfl dL_comers_53 rfl ls st H Q
theorem r145_55 : sw_A 145 55 ls st H Q = (sw_i2 False st fun x y r => if y ≤ x then sw_A 145 301 ls r H Q else sw_A 145 58 ls r H Q) := sw_A_step (cc := cL_comers) rfl dL_comers_55 rfl ls st H Q
theorem r145_58 : sw_A 145 58 ls st H Q = (sw_A 145 59 ls (.int (Int32.ofInt (-1)) :: st) H Q) := sw_A_step (cc := cL_comers) rfl dL_comers_58 rfl ls st H Q
theorem r145_59 : sw_A 145 59 ls st H Q = (sw_has1 False ls 9 (sw_i1 False st fun x r => sw_A 145 61 (sw_set1 ls 9 (.int x)) r H Q)) := sw_A_step (cc := cL_comers) rfl dL_comers_59 rfl ls st H Q
theorem r145_61 : sw_A 145 61 ls st H Q = (sw_A 145 62 ls (.int (Int32.ofInt 0) :: st) H Q) := sw_A_step (cc := cL_comers) rfl dL_comers_61 rfl ls st H Q
theorem r145_62 : sw_A 145 62 ls st H Q = (sw_has1 False ls 10 (sw_i1 False st fun x r => sw_A 145 64 (sw_set1 ls 10 (.int x)) r H Q)) := sw_A_step (cc := cL_comers) rfl dL_comers_62 rfl ls st H Q
theorem r145_64 : sw_A 145 64 ls st H Q = (sw_ldi False ls 10 fun x => sw_A 145 66 ls (.int x :: st) H Q) := sw_A_step (cc := cL_comers) rfl dL_comers_64 rfl ls st H Q
theorem r145_66 : sw_A 145 66 ls st H Q = (sw_A 145 68 ls (.int (Int32.ofInt 60) :: st) H Q) := sw_A_step (cc := cL_comers) rfl dL_comers_66 rfl ls st H Q
theorem r145_68 : sw_A 145 68 ls st H Q = (sw_i2 False st fun x y r => if y ≤ x then sw_A 145 161 ls r H Q else sw_A 145 71 ls r H Q) := sw_A_step (cc := cL_comers) rfl dL_comers_68 rfl ls st H Q
theorem r145_71 : sw_A 145 71 ls st H Q = (sw_ldi False ls 8 fun x => sw_A 145 73 ls (.int x :: st) H Q) := sw_A_step (cc := cL_comers) rfl dL_comers_71 rfl ls st H Q
theorem r145_73 : sw_A 145 73 ls st H Q = (sw_i1 False st fun x r => if x ≤ 0 then sw_A 145 161 ls r H Q else sw_A 145 76 ls r H Q) := sw_A_step (cc := cL_comers) rfl dL_comers_73 rfl ls st H Q
theorem r145_76 : sw_A 145 76 ls st H Q = (sw_ldl False ls 5 fun x => sw_A 145 78 ls (.long x :: st) H Q) := sw_A_step (cc := cL_comers) rfl dL_comers_76 rfl ls st H Q
theorem r145_78 : sw_A 145 78 ls st H Q = (sw_ldi False ls 10 fun x => sw_A 145 80 ls (.int x :: st) H Q) := sw_A_step (cc := cL_comers) rfl dL_comers_78 rfl ls st H Q
theorem r145_80 : sw_A 145 80 ls st H Q = (sw_pop False 1 st [] fun args r => sw_ck False r (sw_M 80 args H (sw_K 145 83 none ls r Q))) := sw_A_step (cc := cL_comers) rfl dL_comers_80 rfl ls st H Q
theorem r145_83 : sw_A 145 83 ls st H Q = (sw_pop False 2 st [] fun args r => sw_ck False r (sw_M 30 args H (sw_K 145 86 none ls r Q))) := sw_A_step (cc := cL_comers) rfl dL_comers_83 rfl ls st H Q
theorem r145_86 : sw_A 145 86 ls st H Q = (sw_ldl False ls 5 fun x => sw_A 145 88 ls (.long x :: st) H Q) := sw_A_step (cc := cL_comers) rfl dL_comers_86 rfl ls st H Q
theorem r145_88 : sw_A 145 88 ls st H Q = (sw_ldi False ls 10 fun x => sw_A 145 90 ls (.int x :: st) H Q) := sw_A_step (cc := cL_comers) rfl dL_comers_88 rfl ls st H Q
theorem r145_90 : sw_A 145 90 ls st H Q = (sw_pop False 1 st [] fun args r => sw_ck False r (sw_M 81 args H (sw_K 145 93 none ls r Q))) := sw_A_step (cc := cL_comers) rfl dL_comers_90 rfl ls st H Q
theorem r145_93 : sw_A 145 93 ls st H Q = (sw_pop False 2 st [] fun args r => sw_ck False r (sw_M 30 args H (sw_K 145 96 none ls r Q))) := sw_A_step (cc := cL_comers) rfl dL_comers_93 rfl ls st H Q
theorem r145_96 : sw_A 145 96 ls st H Q = (sw_i2 False st fun x y r => if x = y then sw_A 145 127 ls r H Q else sw_A 145 99 ls r H Q) := sw_A_step (cc := cL_comers) rfl dL_comers_96 rfl ls st H Q
theorem r145_99 : sw_A 145 99 ls st H Q = (sw_ldl False ls 2 fun x => sw_A 145 100 ls (.long x :: st) H Q) := sw_A_step (cc := cL_comers) rfl dL_comers_99 rfl ls st H Q
theorem r145_100 : sw_A 145 100 ls st H Q = (sw_ldi False ls 10 fun x => sw_A 145 102 ls (.int x :: st) H Q) := sw_A_step (cc := cL_comers) rfl dL_comers_100 rfl ls st H Q
theorem r145_102 : sw_A 145 102 ls st H Q = (sw_pop False 1 st [] fun args r => sw_ck False r (sw_M 80 args H (sw_K 145 105 none ls r Q))) := sw_A_step (cc := cL_comers) rfl dL_comers_102 rfl ls st H Q
theorem r145_105 : sw_A 145 105 ls st H Q = (sw_pop False 2 st [] fun args r => sw_ck False r (sw_M 30 args H (sw_K 145 108 none ls r Q))) := sw_A_step (cc := cL_comers) rfl dL_comers_105 rfl ls st H Q
theorem r145_108 : sw_A 145 108 ls st H Q = (sw_i1 False st fun x r => if ¬ x = 0 then sw_A 145 127 ls r H Q else sw_A 145 111 ls r H Q) := sw_A_step (cc := cL_comers) rfl dL_comers_108 rfl ls st H Q
theorem r145_111 : sw_A 145 111 ls st H Q = (sw_ldl False ls 2 fun x => sw_A 145 112 ls (.long x :: st) H Q) := sw_A_step (cc := cL_comers) rfl dL_comers_111 rfl ls st H Q
theorem r145_112 : sw_A 145 112 ls st H Q = (sw_ldi False ls 10 fun x => sw_A 145 114 ls (.int x :: st) H Q) := sw_A_step (cc := cL_comers) rfl dL_comers_112 rfl ls st H Q
theorem r145_114 : sw_A 145 114 ls st H Q = (sw_pop False 1 st [] fun args r => sw_ck False r (sw_M 81 args H (sw_K 145 117 none ls r Q))) := sw_A_step (cc := cL_comers) rfl dL_comers_114 rfl ls st H Q
theorem r145_117 : sw_A 145 117 ls st H Q = (sw_pop False 2 st [] fun args r => sw_ck False r (sw_M 30 args H (sw_K 145 120 none ls r Q))) := sw_A_step (cc := cL_comers) rfl dL_comers_117 rfl ls st H Q
theorem r145_120 : sw_A 145 120 ls st H Q = (sw_i1 False st fun x r => if ¬ x = 0 then sw_A 145 127 ls r H Q else sw_A 145 123 ls r H Q) := sw_A_step (cc := cL_comers) rfl dL_comers_120 rfl ls st H Q
theorem r145_123 : sw_A 145 123 ls st H Q = (sw_A 145 124 ls (.int (Int32.ofInt 1) :: st) H Q) := sw_A_step (cc := cL_comers) rfl dL_comers_123 rfl ls st H Q
theorem r145_124 : sw_A 145 124 ls st H Q = (sw_A 145 128 ls st H Q) := sw_A_step (cc := cL_comers) rfl dL_comers_124 rfl ls st H Q
theorem r145_127 : sw_A 145 127 ls st H Q = (sw_A 145 128 ls (.int (Int32.ofInt 0) :: st) H Q) := sw_A_step (cc := cL_comers) rfl dL_comers_127 rfl ls st H Q
theorem r145_128 : sw_A 145 128 ls st H Q = (sw_has1 False ls 11 (sw_i1 False st fun x r => sw_A 145 130 (sw_set1 ls 11 (.int x)) r H Q)) := sw_A_step (cc := cL_comers) rfl dL_comers_128 rfl ls st H Q
theorem r145_130 : sw_A 145 130 ls st H Q = (sw_ldi False ls 11 fun x => sw_A 145 132 ls (.int x :: st) H Q) := sw_A_step (cc := cL_comers) rfl dL_comers_130 rfl ls st H Q
theorem r145_132 : sw_A 145 132 ls st H Q = (sw_i1 False st fun x r => if x = 0 then sw_A 145 155 ls r H Q else sw_A 145 135 ls r H Q) := sw_A_step (cc := cL_comers) rfl dL_comers_132 rfl ls st H Q
theorem r145_135 : sw_A 145 135 ls st H Q = (sw_ldi False ls 9 fun x => sw_A 145 137 ls (.int x :: st) H Q) := sw_A_step (cc := cL_comers) rfl dL_comers_135 rfl ls st H Q
theorem r145_137 : sw_A 145 137 ls st H Q = (sw_i1 False st fun x r => if x < 0 then sw_A 145 151 ls r H Q else sw_A 145 140 ls r H Q) := sw_A_step (cc := cL_comers) rfl dL_comers_137 rfl ls st H Q
theorem r145_140 : sw_A 145 140 ls st H Q = (sw_lda False ls 1 fun x => sw_A 145 141 ls (.ref x :: st) H Q) := sw_A_step (cc := cL_comers) rfl dL_comers_140 rfl ls st H Q
theorem r145_141 : sw_A 145 141 ls st H Q = (sw_ldi False ls 10 fun x => sw_A 145 143 ls (.int x :: st) H Q) := sw_A_step (cc := cL_comers) rfl dL_comers_141 rfl ls st H Q
theorem r145_143 : sw_A 145 143 ls st H Q = (sw_ri False st fun a i r => sw_ald False H 0 a i fun x => sw_A 145 144 ls (.int x :: r) H Q) := sw_A_step (cc := cL_comers) rfl dL_comers_143 rfl ls st H Q
theorem r145_144 : sw_A 145 144 ls st H Q = (sw_lda False ls 1 fun x => sw_A 145 145 ls (.ref x :: st) H Q) := sw_A_step (cc := cL_comers) rfl dL_comers_144 rfl ls st H Q
theorem r145_145 : sw_A 145 145 ls st H Q = (sw_ldi False ls 9 fun x => sw_A 145 147 ls (.int x :: st) H Q) := sw_A_step (cc := cL_comers) rfl dL_comers_145 rfl ls st H Q
theorem r145_147 : sw_A 145 147 ls st H Q = (sw_ri False st fun a i r => sw_ald False H 0 a i fun x => sw_A 145 148 ls (.int x :: r) H Q) := sw_A_step (cc := cL_comers) rfl dL_comers_147 rfl ls st H Q
theorem r145_148 : sw_A 145 148 ls st H Q = (sw_i2 False st fun x y r => if y ≤ x then sw_A 145 155 ls r H Q else sw_A 145 151 ls r H Q) := sw_A_step (cc := cL_comers) rfl dL_comers_148 rfl ls st H Q
theorem r145_151 : sw_A 145 151 ls st H Q = (sw_ldi False ls 10 fun x => sw_A 145 153 ls (.int x :: st) H Q) := sw_A_step (cc := cL_comers) rfl dL_comers_151 rfl ls st H Q
theorem r145_153 : sw_A 145 153 ls st H Q = (sw_has1 False ls 9 (sw_i1 False st fun x r => sw_A 145 155 (sw_set1 ls 9 (.int x)) r H Q)) := sw_A_step (cc := cL_comers) rfl dL_comers_153 rfl ls st H Q
theorem r145_155 : sw_A 145 155 ls st H Q = (sw_ldi False ls 10 fun x => sw_A 145 158 (sw_set1 ls 10 (.int (x + Int32.ofInt 1))) st H Q) := sw_A_step (cc := cL_comers) rfl dL_comers_155 rfl ls st H Q
theorem r145_158 : sw_A 145 158 ls st H Q = (sw_A 145 64 ls st H Q) := sw_A_step (cc := cL_comers) rfl dL_comers_158 rfl ls st H Q
theorem r145_161 : sw_A 145 161 ls st H Q = (sw_ldi False ls 8 fun x => sw_A 145 163 ls (.int x :: st) H Q) := sw_A_step (cc := cL_comers) rfl dL_comers_161 rfl ls st H Q
theorem r145_163 : sw_A 145 163 ls st H Q = (sw_i1 False st fun x r => if ¬ x = 0 then sw_A 145 171 ls r H Q else sw_A 145 166 ls r H Q) := sw_A_step (cc := cL_comers) rfl dL_comers_163 rfl ls st H Q
theorem r145_166 : sw_A 145 166 ls st H Q = (sw_ldi False ls 4 fun x => sw_A 145 168 ls (.int x :: st) H Q) := sw_A_step (cc := cL_comers) rfl dL_comers_166 rfl ls st H Q
theorem r145_168 : sw_A 145 168 ls st H Q = (sw_A 145 206 ls st H Q) := sw_A_step (cc := cL_comers) rfl dL_comers_168 rfl ls st H Q
theorem r145_171 : sw_A 145 171 ls st H Q = (sw_ldi False ls 9 fun x => sw_A 145 173 ls (.int x :: st) H Q) := sw_A_step (cc := cL_comers) rfl dL_comers_171 rfl ls st H Q
theorem r145_173 : sw_A 145 173 ls st H Q = (sw_i1 False st fun x r => if 0 ≤ x then sw_A 145 180 ls r H Q else sw_A 145 176 ls r H Q) := sw_A_step (cc := cL_comers) rfl dL_comers_173 rfl ls st H Q
theorem r145_176 : sw_A 145 176 ls st H Q = (sw_A 145 177 ls (.int (Int32.ofInt (-1)) :: st) H Q) := sw_A_step (cc := cL_comers) rfl dL_comers_176 rfl ls st H Q
theorem r145_177 : sw_A 145 177 ls st H Q = (sw_A 145 206 ls st H Q) := sw_A_step (cc := cL_comers) rfl dL_comers_177 rfl ls st H Q
theorem r145_180 : sw_A 145 180 ls st H Q = (sw_ldl False ls 5 fun x => sw_A 145 182 ls (.long x :: st) H Q) := sw_A_step (cc := cL_comers) rfl dL_comers_180 rfl ls st H Q
theorem r145_182 : sw_A 145 182 ls st H Q = (sw_ldi False ls 9 fun x => sw_A 145 184 ls (.int x :: st) H Q) := sw_A_step (cc := cL_comers) rfl dL_comers_182 rfl ls st H Q
theorem r145_184 : sw_A 145 184 ls st H Q = (sw_pop False 1 st [] fun args r => sw_ck False r (sw_M 80 args H (sw_K 145 187 none ls r Q))) := sw_A_step (cc := cL_comers) rfl dL_comers_184 rfl ls st H Q
theorem r145_187 : sw_A 145 187 ls st H Q = (sw_pop False 2 st [] fun args r => sw_ck False r (sw_M 30 args H (sw_K 145 190 none ls r Q))) := sw_A_step (cc := cL_comers) rfl dL_comers_187 rfl ls st H Q
theorem r145_190 : sw_A 145 190 ls st H Q = (sw_i1 False st fun x r => if x = 0 then sw_A 145 201 ls r H Q else sw_A 145 193 ls r H Q) := sw_A_step (cc := cL_comers) rfl dL_comers_190 rfl ls st H Q
theorem r145_193 : sw_A 145 193 ls st H Q = (sw_ldi False ls 9 fun x => sw_A 145 195 ls (.int x :: st) H Q) := sw_A_step (cc := cL_comers) rfl dL_comers_193 rfl ls st H Q
theorem r145_195 : sw_A 145 195 ls st H Q = (sw_pop False 1 st [] fun args r => sw_ck False r (sw_M 81 args H (sw_K 145 198 none ls r Q))) := sw_A_step (cc := cL_comers) rfl dL_comers_195 rfl ls st H Q
theorem r145_198 : sw_A 145 198 ls st H Q = (sw_A 145 206 ls st H Q) := sw_A_step (cc := cL_comers) rfl dL_comers_198 rfl ls st H Q
theorem r145_201 : sw_A 145 201 ls st H Q = (sw_ldi False ls 9 fun x => sw_A 145 203 ls (.int x :: st) H Q) := sw_A_step (cc := cL_comers) rfl dL_comers_201 rfl ls st H Q
theorem r145_203 : sw_A 145 203 ls st H Q = (sw_pop False 1 st [] fun args r => sw_ck False r (sw_M 80 args H (sw_K 145 206 none ls r Q))) := sw_A_step (cc := cL_comers) rfl dL_comers_203 rfl ls st H Q
theorem r145_206 : sw_A 145 206 ls st H Q = (sw_has1 False ls 10 (sw_i1 False st fun x r => sw_A 145 208 (sw_set1 ls 10 (.int x)) r H Q)) := sw_A_step (cc := cL_comers) rfl dL_comers_206 rfl ls st H Q
theorem r145_208 : sw_A 145 208 ls st H Q = (sw_ldi False ls 9 fun x => sw_A 145 210 ls (.int x :: st) H Q) := sw_A_step (cc := cL_comers) rfl dL_comers_208 rfl ls st H Q
theorem r145_210 : sw_A 145 210 ls st H Q = (sw_i1 False st fun x r => if x < 0 then sw_A 145 228 ls r H Q else sw_A 145 213 ls r H Q) := sw_A_step (cc := cL_comers) rfl dL_comers_210 rfl ls st H Q
theorem r145_213 : sw_A 145 213 ls st H Q = (sw_lda False ls 1 fun x => sw_A 145 214 ls (.ref x :: st) H Q) := sw_A_step (cc := cL_comers) rfl dL_comers_213 rfl ls st H Q
theorem r145_214 : sw_A 145 214 ls st H Q = (sw_ldi False ls 9 fun x => sw_A 145 216 ls (.int x :: st) H Q) := sw_A_step (cc := cL_comers) rfl dL_comers_214 rfl ls st H Q
theorem r145_216 : sw_A 145 216 ls st H Q = (sw_ri False st fun a i r => sw_ald False H 0 a i fun x => sw_A 145 217 ls (.int x :: r) H Q) := sw_A_step (cc := cL_comers) rfl dL_comers_216 rfl ls st H Q
theorem r145_217 : sw_A 145 217 ls st H Q = (sw_ldi False ls 7 fun x => sw_A 145 219 ls (.int x :: st) H Q) := sw_A_step (cc := cL_comers) rfl dL_comers_217 rfl ls st H Q
theorem r145_219 : sw_A 145 219 ls st H Q = (sw_i2 False st fun x y r => if x ≤ y then sw_A 145 228 ls r H Q else sw_A 145 222 ls r H Q) := sw_A_step (cc := cL_comers) rfl dL_comers_219 rfl ls st H Q
theorem r145_222 : sw_A 145 222 ls st H Q = (sw_lda False ls 1 fun x => sw_A 145 223 ls (.ref x :: st) H Q) := sw_A_step (cc := cL_comers) rfl dL_comers_222 rfl ls st H Q
theorem r145_223 : sw_A 145 223 ls st H Q = (sw_ldi False ls 9 fun x => sw_A 145 225 ls (.int x :: st) H Q) := sw_A_step (cc := cL_comers) rfl dL_comers_223 rfl ls st H Q
theorem r145_225 : sw_A 145 225 ls st H Q = (sw_ri False st fun a i r => sw_ald False H 0 a i fun x => sw_A 145 226 ls (.int x :: r) H Q) := sw_A_step (cc := cL_comers) rfl dL_comers_225 rfl ls st H Q
theorem r145_226 : sw_A 145 226 ls st H Q = (sw_has1 False ls 7 (sw_i1 False st fun x r => sw_A 145 228 (sw_set1 ls 7 (.int x)) r H Q)) := sw_A_step (cc := cL_comers) rfl dL_comers_226 rfl ls st H Q
theorem r145_228 : sw_A 145 228 ls st H Q = (sw_lda False ls 0 fun x => sw_A 145 229 ls (.ref x :: st) H Q) := sw_A_step (cc := cL_comers) rfl dL_comers_228 rfl ls st H Q
theorem r145_229 : sw_A 145 229 ls st H Q = (sw_ldi False ls 4 fun x => sw_A 145 231 ls (.int x :: st) H Q) := sw_A_step (cc := cL_comers) rfl dL_comers_229 rfl ls st H Q
theorem r145_231 : sw_A 145 231 ls st H Q = (sw_ldi False ls 8 fun x => sw_A 145 233 ls (.int x :: st) H Q) := sw_A_step (cc := cL_comers) rfl dL_comers_231 rfl ls st H Q
theorem r145_233 : sw_A 145 233 ls st H Q = (sw_pop False 3 st [] fun args r => sw_ck False r (sw_M 142 args H (sw_K 145 236 none ls r Q))) := sw_A_step (cc := cL_comers) rfl dL_comers_233 rfl ls st H Q
theorem r145_236 : sw_A 145 236 ls st H Q = (sw_ldi False ls 10 fun x => sw_A 145 238 ls (.int x :: st) H Q) := sw_A_step (cc := cL_comers) rfl dL_comers_236 rfl ls st H Q
theorem r145_238 : sw_A 145 238 ls st H Q = (sw_i2 False st fun x y r => if ¬ x = y then sw_A 145 263 ls r H Q else sw_A 145 241 ls r H Q) := sw_A_step (cc := cL_comers) rfl dL_comers_238 rfl ls st H Q
theorem r145_241 : sw_A 145 241 ls st H Q = (sw_lda False ls 0 fun x => sw_A 145 242 ls (.ref x :: st) H Q) := sw_A_step (cc := cL_comers) rfl dL_comers_241 rfl ls st H Q
theorem r145_242 : sw_A 145 242 ls st H Q = (sw_ldi False ls 4 fun x => sw_A 145 244 ls (.int x :: st) H Q) := sw_A_step (cc := cL_comers) rfl dL_comers_242 rfl ls st H Q
theorem r145_244 : sw_A 145 244 ls st H Q = (sw_ldi False ls 8 fun x => sw_A 145 246 ls (.int x :: st) H Q) := sw_A_step (cc := cL_comers) rfl dL_comers_244 rfl ls st H Q
theorem r145_246 : sw_A 145 246 ls st H Q = (sw_pop False 3 st [] fun args r => sw_ck False r (sw_M 144 args H (sw_K 145 249 none ls r Q))) := sw_A_step (cc := cL_comers) rfl dL_comers_246 rfl ls st H Q
theorem r145_249 : sw_A 145 249 ls st H Q = (sw_ldi False ls 10 fun x => sw_A 145 251 ls (.int x :: st) H Q) := sw_A_step (cc := cL_comers) rfl dL_comers_249 rfl ls st H Q
theorem r145_251 : sw_A 145 251 ls st H Q = (sw_i1 False st fun x r => if 0 ≤ x then sw_A 145 258 ls r H Q else sw_A 145 254 ls r H Q) := sw_A_step (cc := cL_comers) rfl dL_comers_251 rfl ls st H Q
theorem r145_254 : sw_A 145 254 ls st H Q = (sw_A 145 255 ls (.int (Int32.ofInt (-1)) :: st) H Q) := sw_A_step (cc := cL_comers) rfl dL_comers_254 rfl ls st H Q
theorem r145_255 : sw_A 145 255 ls st H Q = (sw_A 145 260 ls st H Q) := sw_A_step (cc := cL_comers) rfl dL_comers_255 rfl ls st H Q
theorem r145_258 : sw_A 145 258 ls st H Q = (sw_ldi False ls 7 fun x => sw_A 145 260 ls (.int x :: st) H Q) := sw_A_step (cc := cL_comers) rfl dL_comers_258 rfl ls st H Q
theorem r145_260 : sw_A 145 260 ls st H Q = (sw_i2 False st fun x y r => if x = y then sw_A 145 265 ls r H Q else sw_A 145 263 ls r H Q) := sw_A_step (cc := cL_comers) rfl dL_comers_260 rfl ls st H Q
theorem r145_263 : sw_A 145 263 ls st H Q = (sw_A 145 264 ls (.int (Int32.ofInt 0) :: st) H Q) := sw_A_step (cc := cL_comers) rfl dL_comers_263 rfl ls st H Q
theorem r145_264 : sw_A 145 264 ls st H Q = (match st with | [.int x] => (if true = false ∨ x = 0 ∨ x = 1 then Q (some (some (.int x))) H else False) | _ => False) := sw_A_step (cc := cL_comers) rfl dL_comers_264 rfl ls st H Q
theorem r145_265 : sw_A 145 265 ls st H Q = (sw_ldi False ls 10 fun x => sw_A 145 267 ls (.int x :: st) H Q) := sw_A_step (cc := cL_comers) rfl dL_comers_265 rfl ls st H Q
theorem r145_267 : sw_A 145 267 ls st H Q = (sw_i1 False st fun x r => if 0 ≤ x then sw_A 145 286 ls r H Q else sw_A 145 270 ls r H Q) := sw_A_step (cc := cL_comers) rfl dL_comers_267 rfl ls st H Q
theorem r145_270 : sw_A 145 270 ls st H Q = (sw_ldi False ls 8 fun x => sw_A 145 272 ls (.int x :: st) H Q) := sw_A_step (cc := cL_comers) rfl dL_comers_270 rfl ls st H Q
theorem r145_272 : sw_A 145 272 ls st H Q = (sw_ldl False ls 5 fun x => sw_A 145 274 ls (.long x :: st) H Q) := sw_A_step (cc := cL_comers) rfl dL_comers_272 rfl ls st H Q
theorem r145_274 : sw_A 145 274 ls st H Q = (sw_pop False 1 st [] fun args r => sw_ck False r (sw_M 37 args H (sw_K 145 277 none ls r Q))) := sw_A_step (cc := cL_comers) rfl dL_comers_274 rfl ls st H Q
theorem r145_277 : sw_A 145 277 ls st H Q = (sw_i2 False st fun x y r => if ¬ x = y then sw_A 145 284 ls r H Q else sw_A 145 280 ls r H Q) := sw_A_step (cc := cL_comers) rfl dL_comers_277 rfl ls st H Q
theorem r145_280 : sw_A 145 280 ls st H Q = (sw_A 145 281 ls (.int (Int32.ofInt 1) :: st) H Q) := sw_A_step (cc := cL_comers) rfl dL_comers_280 rfl ls st H Q
theorem r145_281 : sw_A 145 281 ls st H Q = (sw_A 145 285 ls st H Q) := sw_A_step (cc := cL_comers) rfl dL_comers_281 rfl ls st H Q
theorem r145_284 : sw_A 145 284 ls st H Q = (sw_A 145 285 ls (.int (Int32.ofInt 0) :: st) H Q) := sw_A_step (cc := cL_comers) rfl dL_comers_284 rfl ls st H Q
theorem r145_285 : sw_A 145 285 ls st H Q = (match st with | [.int x] => (if true = false ∨ x = 0 ∨ x = 1 then Q (some (some (.int x))) H else False) | _ => False) := sw_A_step (cc := cL_comers) rfl dL_comers_285 rfl ls st H Q
theorem r145_286 : sw_A 145 286 ls st H Q = (sw_ldl False ls 5 fun x => sw_A 145 288 ls (.long x :: st) H Q) := sw_A_step (cc := cL_comers) rfl dL_comers_286 rfl ls st H Q
theorem r145_288 : sw_A 145 288 ls st H Q = (sw_A 145 289 ls (.long (Int64.ofNat 1) :: st) H Q) := sw_A_step (cc := cL_comers) rfl dL_comers_288 rfl ls st H Q
theorem r145_289 : sw_A 145 289 ls st H Q = (sw_ldi False ls 10 fun x => sw_A 145 291 ls (.int x :: st) H Q) := sw_A_step (cc := cL_comers) rfl dL_comers_289 rfl ls st H Q
theorem r145_291 : sw_A 145 291 ls st H Q = (sw_li False st fun x y r => sw_A 145 292 ls (.long (x <<< (y.toInt64 &&& 63)) :: r) H Q) := sw_A_step (cc := cL_comers) rfl dL_comers_291 rfl ls st H Q
theorem r145_292 : sw_A 145 292 ls st H Q = (sw_l2 False st fun x y r => sw_A 145 293 ls (.long (x ||| y) :: r) H Q) := sw_A_step (cc := cL_comers) rfl dL_comers_292 rfl ls st H Q
theorem r145_293 : sw_A 145 293 ls st H Q = (sw_has1 False ls 6 (sw_l1 False st fun x r => sw_A 145 295 (sw_set2 ls 5 (.long x)) r H Q)) := sw_A_step (cc := cL_comers) rfl dL_comers_293 rfl ls st H Q
theorem r145_295 : sw_A 145 295 ls st H Q = (sw_ldi False ls 8 fun x => sw_A 145 298 (sw_set1 ls 8 (.int (x + Int32.ofInt 1))) st H Q) := sw_A_step (cc := cL_comers) rfl dL_comers_295 rfl ls st H Q
theorem r145_298 : sw_A 145 298 ls st H Q = (sw_A 145 51 ls st H Q) := sw_A_step (cc := cL_comers) rfl dL_comers_298 rfl ls st H Q
theorem r145_301 : sw_A 145 301 ls st H Q = (sw_A 145 302 ls (.int (Int32.ofInt 1) :: st) H Q) := sw_A_step (cc := cL_comers) rfl dL_comers_301 rfl ls st H Q
theorem r145_302 : sw_A 145 302 ls st H Q = (match st with | [.int x] => (if true = false ∨ x = 0 ∨ x = 1 then Q (some (some (.int x))) H else False) | _ => False) := sw_A_step (cc := cL_comers) rfl dL_comers_302 rfl ls st H Q
theorem r146_0 : sw_A 146 0 ls st H Q = (sw_A 146 2 ls (.int (Int32.ofInt 36) :: st) H Q) := sw_A_step (cc := cL_times) rfl dL_times_0 rfl ls st H Q
theorem r146_2 : sw_A 146 2 ls st H Q = (sw_i1 False st fun n r => sw_nw False H 0 n fun H1 => sw_A 146 4 ls (.ref H.2.1 :: r) H1 Q) := sw_A_step (cc := cL_times) rfl dL_times_2 rfl ls st H Q
theorem r146_4 : sw_A 146 4 ls st H Q = (sw_has1 False ls 6 (sw_r1 False st fun x r => sw_A 146 6 (sw_set1 ls 6 (.ref x)) r H Q)) := sw_A_step (cc := cL_times) rfl dL_times_4 rfl ls st H Q
theorem r146_6 : sw_A 146 6 ls st H Q = (sw_A 146 8 ls (.int (Int32.ofInt 36) :: st) H Q) := sw_A_step (cc := cL_times) rfl dL_times_6 rfl ls st H Q
theorem r146_8 : sw_A 146 8 ls st H Q = (sw_i1 False st fun n r => sw_nw False H 0 n fun H1 => sw_A 146 10 ls (.ref H.2.1 :: r) H1 Q) := sw_A_step (cc := cL_times) rfl dL_times_8 rfl ls st H Q
theorem r146_10 : sw_A 146 10 ls st H Q = (sw_has1 False ls 7 (sw_r1 False st fun x r => sw_A 146 12 (sw_set1 ls 7 (.ref x)) r H Q)) := sw_A_step (cc := cL_times) rfl dL_times_10 rfl ls st H Q
theorem r146_12 : sw_A 146 12 ls st H Q = (sw_ldi False ls 4 fun x => sw_A 146 14 ls (.int x :: st) H Q) := sw_A_step (cc := cL_times) rfl dL_times_12 rfl ls st H Q
theorem r146_14 : sw_A 146 14 ls st H Q = (sw_A 146 16 ls (.int (Int32.ofInt 36) :: st) H Q) := sw_A_step (cc := cL_times) rfl dL_times_14 rfl ls st H Q
theorem r146_16 : sw_A 146 16 ls st H Q = (sw_pop False 2 st [] fun args r => sw_ck False r (sw_M 16 args H (sw_K 146 19 none ls r Q))) := sw_A_step (cc := cL_times) rfl dL_times_16 rfl ls st H Q
theorem r146_19 : sw_A 146 19 ls st H Q = (sw_has1 False ls 8 (sw_i1 False st fun x r => sw_A 146 21 (sw_set1 ls 8 (.int x)) r H Q)) := sw_A_step (cc := cL_times) rfl dL_times_19 rfl ls st H Q
theorem r146_21 : sw_A 146 21 ls st H Q = (sw_ldi False ls 8 fun x => sw_A 146 23 ls (.int x :: st) H Q) := sw_A_step (cc := cL_times) rfl dL_times_21 rfl ls st H Q
theorem r146_23 : sw_A 146 23 ls st H Q = (sw_A 146 24 ls (.int (Int32.ofInt 1) :: st) H Q) := sw_A_step (cc := cL_times) rfl dL_times_23 rfl ls st H Q
theorem r146_24 : sw_A 146 24 ls st H Q = (sw_i2 False st fun x y r => sw_A 146 25 ls (.int (x + y) :: r) H Q) := sw_A_step (cc := cL_times) rfl dL_times_24 rfl ls st H Q
theorem r146_25 : sw_A 146 25 ls st H Q = (sw_ldi False ls 5 fun x => sw_A 146 27 ls (.int x :: st) H Q) := sw_A_step (cc := cL_times) rfl dL_times_25 rfl ls st H Q
theorem r146_27 : sw_A 146 27 ls st H Q = (sw_A 146 29 ls (.int (Int32.ofInt 35) :: st) H Q) := sw_A_step (cc := cL_times) rfl dL_times_27 rfl ls st H Q
theorem r146_29 : sw_A 146 29 ls st H Q = (sw_pop False 2 st [] fun args r => sw_ck False r (sw_M 16 args H (sw_K 146 32 none ls r Q))) := sw_A_step (cc := cL_times) rfl dL_times_29 rfl ls st H Q
theorem r146_32 : sw_A 146 32 ls st H Q = (sw_i2 False st fun x y r => sw_A 146 33 ls (.int (x + y) :: r) H Q) := sw_A_step (cc := cL_times) rfl dL_times_32 rfl ls st H Q
theorem r146_33 : sw_A 146 33 ls st H Q = (sw_A 146 35 ls (.int (Int32.ofInt 36) :: st) H Q) := sw_A_step (cc := cL_times) rfl dL_times_33 rfl ls st H Q
theorem r146_35 : sw_A 146 35 ls st H Q = (sw_i2 False st fun x y r => if y = 0 then False else sw_A 146 36 ls (.int (x - x / y * y) :: r) H Q) := sw_A_step (cc := cL_times) rfl dL_times_35 rfl ls st H Q
theorem r146_36 : sw_A 146 36 ls st H Q = (sw_has1 False ls 9 (sw_i1 False st fun x r => sw_A 146 38 (sw_set1 ls 9 (.int x)) r H Q)) := sw_A_step (cc := cL_times) rfl dL_times_36 rfl ls st H Q
theorem r146_38 : sw_A 146 38 ls st H Q = (sw_lda False ls 1 fun x => sw_A 146 39 ls (.ref x :: st) H Q) := sw_A_step (cc := cL_times) rfl dL_times_38 rfl ls st H Q
theorem r146_39 : sw_A 146 39 ls st H Q = (sw_ldl False ls 2 fun x => sw_A 146 40 ls (.long x :: st) H Q) := sw_A_step (cc := cL_times) rfl dL_times_39 rfl ls st H Q
theorem r146_40 : sw_A 146 40 ls st H Q = (sw_ldi False ls 8 fun x => sw_A 146 42 ls (.int x :: st) H Q) := sw_A_step (cc := cL_times) rfl dL_times_40 rfl ls st H Q
theorem r146_42 : sw_A 146 42 ls st H Q = (sw_lda False ls 6 fun x => sw_A 146 44 ls (.ref x :: st) H Q) := sw_A_step (cc := cL_times) rfl dL_times_42 rfl ls st H Q
theorem r146_44 : sw_A 146 44 ls st H Q = (sw_pop False 4 st [] fun args r => sw_ck False r (sw_M 132 args H (sw_K 146 47 none ls r Q))) := sw_A_step (cc := cL_times) rfl dL_times_44 rfl ls st H Q
theorem r146_47 : sw_A 146 47 ls st H Q = (sw_lda False ls 1 fun x => sw_A 146 48 ls (.ref x :: st) H Q) := sw_A_step (cc := cL_times) rfl dL_times_47 rfl ls st H Q
theorem r146_48 : sw_A 146 48 ls st H Q = (sw_ldl False ls 2 fun x => sw_A 146 49 ls (.long x :: st) H Q) := sw_A_step (cc := cL_times) rfl dL_times_48 rfl ls st H Q
theorem r146_49 : sw_A 146 49 ls st H Q = (sw_ldi False ls 9 fun x => sw_A 146 51 ls (.int x :: st) H Q) := sw_A_step (cc := cL_times) rfl dL_times_49 rfl ls st H Q
theorem r146_51 : sw_A 146 51 ls st H Q = (sw_lda False ls 7 fun x => sw_A 146 53 ls (.ref x :: st) H Q) := sw_A_step (cc := cL_times) rfl dL_times_51 rfl ls st H Q
theorem r146_53 : sw_A 146 53 ls st H Q = (sw_pop False 4 st [] fun args r => sw_ck False r (sw_M 132 args H (sw_K 146 56 none ls r Q))) := sw_A_step (cc := cL_times) rfl dL_times_53 rfl ls st H Q
theorem r146_56 : sw_A 146 56 ls st H Q = (sw_ldi False ls 5 fun x => sw_A 146 58 ls (.int x :: st) H Q) := sw_A_step (cc := cL_times) rfl dL_times_56 rfl ls st H Q
theorem r146_58 : sw_A 146 58 ls st H Q = (sw_A 146 59 ls (.int (Int32.ofInt 3) :: st) H Q) := sw_A_step (cc := cL_times) rfl dL_times_58 rfl ls st H Q
theorem r146_59 : sw_A 146 59 ls st H Q = (sw_i2 False st fun x y r => sw_A 146 60 ls (.int (x >>> (y &&& 31)) :: r) H Q) := sw_A_step (cc := cL_times) rfl dL_times_59 rfl ls st H Q
theorem r146_60 : sw_A 146 60 ls st H Q = (sw_A 146 63 ls (.int (Int32.ofInt 3000) :: st) H Q) := sw_A_step (cc := cL_times) rfl dL_times_60 rfl ls st H Q
theorem r146_63 : sw_A 146 63 ls st H Q = (sw_pop False 2 st [] fun args r => sw_ck False r (sw_M 16 args H (sw_K 146 66 none ls r Q))) := sw_A_step (cc := cL_times) rfl dL_times_63 rfl ls st H Q
theorem r146_66 : sw_A 146 66 ls st H Q = (sw_has1 False ls 10 (sw_i1 False st fun x r => sw_A 146 68 (sw_set1 ls 10 (.int x)) r H Q)) := sw_A_step (cc := cL_times) rfl dL_times_66 rfl ls st H Q
theorem r146_68 : sw_A 146 68 ls st H Q = (sw_A 146 69 ls (.int (Int32.ofInt 0) :: st) H Q) := sw_A_step (cc := cL_times) rfl dL_times_68 rfl ls st H Q
theorem r146_69 : sw_A 146 69 ls st H Q = (sw_has1 False ls 11 (sw_i1 False st fun x r => sw_A 146 71 (sw_set1 ls 11 (.int x)) r H Q)) := sw_A_step (cc := cL_times) rfl dL_times_69 rfl ls st H Q
theorem r146_71 : sw_A 146 71 ls st H Q = (sw_A 146 72 ls (.int (Int32.ofInt 0) :: st) H Q) := sw_A_step (cc := cL_times) rfl dL_times_71 rfl ls st H Q
theorem r146_72 : sw_A 146 72 ls st H Q = (sw_has1 False ls 12 (sw_i1 False st fun x r => sw_A 146 74 (sw_set1 ls 12 (.int x)) r H Q)) := sw_A_step (cc := cL_times) rfl dL_times_72 rfl ls st H Q
theorem r146_74 : sw_A 146 74 ls st H Q = (sw_ldi False ls 12 fun x => sw_A 146 76 ls (.int x :: st) H Q) := sw_A_step (cc := cL_times) rfl dL_times_74 rfl ls st H Q
theorem r146_76 : sw_A 146 76 ls st H Q = (sw_A 146 78 ls (.int (Int32.ofInt 36) :: st) H Q) := sw_A_step (cc := cL_times) rfl dL_times_76 rfl ls st H Q
theorem r146_78 : sw_A 146 78 ls st H Q = (sw_i2 False st fun x y r => if y ≤ x then sw_A 146 223 ls r H Q else sw_A 146 81 ls r H Q) := sw_A_step (cc := cL_times) rfl dL_times_78 rfl ls st H Q
theorem r146_81 : sw_A 146 81 ls st H Q = (sw_lda False ls 0 fun x => sw_A 146 82 ls (.ref x :: st) H Q) := sw_A_step (cc := cL_times) rfl dL_times_81 rfl ls st H Q
theorem r146_82 : sw_A 146 82 ls st H Q = (sw_ldi False ls 8 fun x => sw_A 146 84 ls (.int x :: st) H Q) := sw_A_step (cc := cL_times) rfl dL_times_82 rfl ls st H Q
theorem r146_84 : sw_A 146 84 ls st H Q = (sw_ldi False ls 12 fun x => sw_A 146 86 ls (.int x :: st) H Q) := sw_A_step (cc := cL_times) rfl dL_times_84 rfl ls st H Q
theorem r146_86 : sw_A 146 86 ls st H Q = (sw_pop False 3 st [] fun args r => sw_ck False r (sw_rc False H (some 11) args (sw_M 134 args H (sw_K 146 89 none ls r Q)))) := sw_A_step (cc := cL_times) rfl dL_times_86 rfl ls st H Q
theorem r146_89 : sw_A 146 89 ls st H Q = (sw_lda False ls 6 fun x => sw_A 146 91 ls (.ref x :: st) H Q) := sw_A_step (cc := cL_times) rfl dL_times_89 rfl ls st H Q
theorem r146_91 : sw_A 146 91 ls st H Q = (sw_ldi False ls 12 fun x => sw_A 146 93 ls (.int x :: st) H Q) := sw_A_step (cc := cL_times) rfl dL_times_91 rfl ls st H Q
theorem r146_93 : sw_A 146 93 ls st H Q = (sw_ri False st fun a i r => sw_ald False H 0 a i fun x => sw_A 146 94 ls (.int x :: r) H Q) := sw_A_step (cc := cL_times) rfl dL_times_93 rfl ls st H Q
theorem r146_94 : sw_A 146 94 ls st H Q = (sw_i2 False st fun x y r => if ¬ x = y then sw_A 146 113 ls r H Q else sw_A 146 97 ls r H Q) := sw_A_step (cc := cL_times) rfl dL_times_94 rfl ls st H Q
theorem r146_97 : sw_A 146 97 ls st H Q = (sw_lda False ls 0 fun x => sw_A 146 98 ls (.ref x :: st) H Q) := sw_A_step (cc := cL_times) rfl dL_times_97 rfl ls st H Q
theorem r146_98 : sw_A 146 98 ls st H Q = (sw_ldi False ls 12 fun x => sw_A 146 100 ls (.int x :: st) H Q) := sw_A_step (cc := cL_times) rfl dL_times_98 rfl ls st H Q
theorem r146_100 : sw_A 146 100 ls st H Q = (sw_ldi False ls 9 fun x => sw_A 146 102 ls (.int x :: st) H Q) := sw_A_step (cc := cL_times) rfl dL_times_100 rfl ls st H Q
theorem r146_102 : sw_A 146 102 ls st H Q = (sw_pop False 3 st [] fun args r => sw_ck False r (sw_rc False H (some 11) args (sw_M 134 args H (sw_K 146 105 none ls r Q)))) := sw_A_step (cc := cL_times) rfl dL_times_102 rfl ls st H Q
theorem r146_105 : sw_A 146 105 ls st H Q = (sw_lda False ls 7 fun x => sw_A 146 107 ls (.ref x :: st) H Q) := sw_A_step (cc := cL_times) rfl dL_times_105 rfl ls st H Q
theorem r146_107 : sw_A 146 107 ls st H Q = (sw_ldi False ls 12 fun x => sw_A 146 109 ls (.int x :: st) H Q) := sw_A_step (cc := cL_times) rfl dL_times_107 rfl ls st H Q
theorem r146_109 : sw_A 146 109 ls st H Q = (sw_ri False st fun a i r => sw_ald False H 0 a i fun x => sw_A 146 110 ls (.int x :: r) H Q) := sw_A_step (cc := cL_times) rfl dL_times_109 rfl ls st H Q
theorem r146_110 : sw_A 146 110 ls st H Q = (sw_i2 False st fun x y r => if x = y then sw_A 146 115 ls r H Q else sw_A 146 113 ls r H Q) := sw_A_step (cc := cL_times) rfl dL_times_110 rfl ls st H Q
theorem r146_113 : sw_A 146 113 ls st H Q = (sw_A 146 114 ls (.int (Int32.ofInt 0) :: st) H Q) := sw_A_step (cc := cL_times) rfl dL_times_113 rfl ls st H Q
theorem r146_114 : sw_A 146 114 ls st H Q = (match st with | [.int x] => (if true = false ∨ x = 0 ∨ x = 1 then Q (some (some (.int x))) H else False) | _ => False) := sw_A_step (cc := cL_times) rfl dL_times_114 rfl ls st H Q
theorem r146_115 : sw_A 146 115 ls st H Q = (sw_ldi False ls 11 fun x => sw_A 146 117 ls (.int x :: st) H Q) := sw_A_step (cc := cL_times) rfl dL_times_115 rfl ls st H Q
theorem r146_117 : sw_A 146 117 ls st H Q = (sw_lda False ls 6 fun x => sw_A 146 119 ls (.ref x :: st) H Q) := sw_A_step (cc := cL_times) rfl dL_times_117 rfl ls st H Q
theorem r146_119 : sw_A 146 119 ls st H Q = (sw_ldi False ls 12 fun x => sw_A 146 121 ls (.int x :: st) H Q) := sw_A_step (cc := cL_times) rfl dL_times_119 rfl ls st H Q
theorem r146_121 : sw_A 146 121 ls st H Q = (sw_ri False st fun a i r => sw_ald False H 0 a i fun x => sw_A 146 122 ls (.int x :: r) H Q) := sw_A_step (cc := cL_times) rfl dL_times_121 rfl ls st H Q
theorem r146_122 : sw_A 146 122 ls st H Q = (sw_i1 False st fun x r => if x < 0 then sw_A 146 139 ls r H Q else sw_A 146 125 ls r H Q) := sw_A_step (cc := cL_times) rfl dL_times_122 rfl ls st H Q
theorem r146_125 : sw_A 146 125 ls st H Q = (sw_lda False ls 6 fun x => sw_A 146 127 ls (.ref x :: st) H Q) := sw_A_step (cc := cL_times) rfl dL_times_125 rfl ls st H Q
theorem r146_127 : sw_A 146 127 ls st H Q = (sw_ldi False ls 12 fun x => sw_A 146 129 ls (.int x :: st) H Q) := sw_A_step (cc := cL_times) rfl dL_times_127 rfl ls st H Q
theorem r146_129 : sw_A 146 129 ls st H Q = (sw_ri False st fun a i r => sw_ald False H 0 a i fun x => sw_A 146 130 ls (.int x :: r) H Q) := sw_A_step (cc := cL_times) rfl dL_times_129 rfl ls st H Q
theorem r146_130 : sw_A 146 130 ls st H Q = (sw_ldi False ls 10 fun x => sw_A 146 132 ls (.int x :: st) H Q) := sw_A_step (cc := cL_times) rfl dL_times_130 rfl ls st H Q
theorem r146_132 : sw_A 146 132 ls st H Q = (sw_i2 False st fun x y r => if y < x then sw_A 146 139 ls r H Q else sw_A 146 135 ls r H Q) := sw_A_step (cc := cL_times) rfl dL_times_132 rfl ls st H Q
theorem r146_135 : sw_A 146 135 ls st H Q = (sw_A 146 136 ls (.int (Int32.ofInt 1) :: st) H Q) := sw_A_step (cc := cL_times) rfl dL_times_135 rfl ls st H Q
theorem r146_136 : sw_A 146 136 ls st H Q = (sw_A 146 140 ls st H Q) := sw_A_step (cc := cL_times) rfl dL_times_136 rfl ls st H Q
theorem r146_139 : sw_A 146 139 ls st H Q = (sw_A 146 140 ls (.int (Int32.ofInt 0) :: st) H Q) := sw_A_step (cc := cL_times) rfl dL_times_139 rfl ls st H Q
theorem r146_140 : sw_A 146 140 ls st H Q = (sw_i2 False st fun x y r => sw_A 146 141 ls (.int (x + y) :: r) H Q) := sw_A_step (cc := cL_times) rfl dL_times_140 rfl ls st H Q
theorem r146_141 : sw_A 146 141 ls st H Q = (sw_has1 False ls 11 (sw_i1 False st fun x r => sw_A 146 143 (sw_set1 ls 11 (.int x)) r H Q)) := sw_A_step (cc := cL_times) rfl dL_times_141 rfl ls st H Q
theorem r146_143 : sw_A 146 143 ls st H Q = (sw_lda False ls 6 fun x => sw_A 146 145 ls (.ref x :: st) H Q) := sw_A_step (cc := cL_times) rfl dL_times_143 rfl ls st H Q
theorem r146_145 : sw_A 146 145 ls st H Q = (sw_ldi False ls 12 fun x => sw_A 146 147 ls (.int x :: st) H Q) := sw_A_step (cc := cL_times) rfl dL_times_145 rfl ls st H Q
theorem r146_147 : sw_A 146 147 ls st H Q = (sw_ri False st fun a i r => sw_ald False H 0 a i fun x => sw_A 146 148 ls (.int x :: r) H Q) := sw_A_step (cc := cL_times) rfl dL_times_147 rfl ls st H Q
theorem r146_148 : sw_A 146 148 ls st H Q = (sw_lda False ls 7 fun x => sw_A 146 150 ls (.ref x :: st) H Q) := sw_A_step (cc := cL_times) rfl dL_times_148 rfl ls st H Q
theorem r146_150 : sw_A 146 150 ls st H Q = (sw_ldi False ls 12 fun x => sw_A 146 152 ls (.int x :: st) H Q) := sw_A_step (cc := cL_times) rfl dL_times_150 rfl ls st H Q
theorem r146_152 : sw_A 146 152 ls st H Q = (sw_ri False st fun a i r => sw_ald False H 0 a i fun x => sw_A 146 153 ls (.int x :: r) H Q) := sw_A_step (cc := cL_times) rfl dL_times_152 rfl ls st H Q
theorem r146_153 : sw_A 146 153 ls st H Q = (sw_i2 False st fun x y r => if ¬ x = y then sw_A 146 160 ls r H Q else sw_A 146 156 ls r H Q) := sw_A_step (cc := cL_times) rfl dL_times_153 rfl ls st H Q
theorem r146_156 : sw_A 146 156 ls st H Q = (sw_A 146 157 ls (.int (Int32.ofInt (-1)) :: st) H Q) := sw_A_step (cc := cL_times) rfl dL_times_156 rfl ls st H Q
theorem r146_157 : sw_A 146 157 ls st H Q = (sw_A 146 198 ls st H Q) := sw_A_step (cc := cL_times) rfl dL_times_157 rfl ls st H Q
theorem r146_160 : sw_A 146 160 ls st H Q = (sw_lda False ls 6 fun x => sw_A 146 162 ls (.ref x :: st) H Q) := sw_A_step (cc := cL_times) rfl dL_times_160 rfl ls st H Q
theorem r146_162 : sw_A 146 162 ls st H Q = (sw_ldi False ls 12 fun x => sw_A 146 164 ls (.int x :: st) H Q) := sw_A_step (cc := cL_times) rfl dL_times_162 rfl ls st H Q
theorem r146_164 : sw_A 146 164 ls st H Q = (sw_ri False st fun a i r => sw_ald False H 0 a i fun x => sw_A 146 165 ls (.int x :: r) H Q) := sw_A_step (cc := cL_times) rfl dL_times_164 rfl ls st H Q
theorem r146_165 : sw_A 146 165 ls st H Q = (sw_i1 False st fun x r => if 0 ≤ x then sw_A 146 172 ls r H Q else sw_A 146 168 ls r H Q) := sw_A_step (cc := cL_times) rfl dL_times_165 rfl ls st H Q
theorem r146_168 : sw_A 146 168 ls st H Q = (sw_A 146 169 ls (.int (Int32.ofInt 1) :: st) H Q) := sw_A_step (cc := cL_times) rfl dL_times_168 rfl ls st H Q
theorem r146_169 : sw_A 146 169 ls st H Q = (sw_A 146 198 ls st H Q) := sw_A_step (cc := cL_times) rfl dL_times_169 rfl ls st H Q
theorem r146_172 : sw_A 146 172 ls st H Q = (sw_lda False ls 7 fun x => sw_A 146 174 ls (.ref x :: st) H Q) := sw_A_step (cc := cL_times) rfl dL_times_172 rfl ls st H Q
theorem r146_174 : sw_A 146 174 ls st H Q = (sw_ldi False ls 12 fun x => sw_A 146 176 ls (.int x :: st) H Q) := sw_A_step (cc := cL_times) rfl dL_times_174 rfl ls st H Q
theorem r146_176 : sw_A 146 176 ls st H Q = (sw_ri False st fun a i r => sw_ald False H 0 a i fun x => sw_A 146 177 ls (.int x :: r) H Q) := sw_A_step (cc := cL_times) rfl dL_times_176 rfl ls st H Q
theorem r146_177 : sw_A 146 177 ls st H Q = (sw_i1 False st fun x r => if x < 0 then sw_A 146 193 ls r H Q else sw_A 146 180 ls r H Q) := sw_A_step (cc := cL_times) rfl dL_times_177 rfl ls st H Q
theorem r146_180 : sw_A 146 180 ls st H Q = (sw_lda False ls 6 fun x => sw_A 146 182 ls (.ref x :: st) H Q) := sw_A_step (cc := cL_times) rfl dL_times_180 rfl ls st H Q
theorem r146_182 : sw_A 146 182 ls st H Q = (sw_ldi False ls 12 fun x => sw_A 146 184 ls (.int x :: st) H Q) := sw_A_step (cc := cL_times) rfl dL_times_182 rfl ls st H Q
theorem r146_184 : sw_A 146 184 ls st H Q = (sw_ri False st fun a i r => sw_ald False H 0 a i fun x => sw_A 146 185 ls (.int x :: r) H Q) := sw_A_step (cc := cL_times) rfl dL_times_184 rfl ls st H Q
theorem r146_185 : sw_A 146 185 ls st H Q = (sw_lda False ls 7 fun x => sw_A 146 187 ls (.ref x :: st) H Q) := sw_A_step (cc := cL_times) rfl dL_times_185 rfl ls st H Q
theorem r146_187 : sw_A 146 187 ls st H Q = (sw_ldi False ls 12 fun x => sw_A 146 189 ls (.int x :: st) H Q) := sw_A_step (cc := cL_times) rfl dL_times_187 rfl ls st H Q
theorem r146_189 : sw_A 146 189 ls st H Q = (sw_ri False st fun a i r => sw_ald False H 0 a i fun x => sw_A 146 190 ls (.int x :: r) H Q) := sw_A_step (cc := cL_times) rfl dL_times_189 rfl ls st H Q
theorem r146_190 : sw_A 146 190 ls st H Q = (sw_i2 False st fun x y r => if y ≤ x then sw_A 146 197 ls r H Q else sw_A 146 193 ls r H Q) := sw_A_step (cc := cL_times) rfl dL_times_190 rfl ls st H Q
theorem r146_193 : sw_A 146 193 ls st H Q = (sw_A 146 194 ls (.int (Int32.ofInt 0) :: st) H Q) := sw_A_step (cc := cL_times) rfl dL_times_193 rfl ls st H Q
theorem r146_194 : sw_A 146 194 ls st H Q = (sw_A 146 198 ls st H Q) := sw_A_step (cc := cL_times) rfl dL_times_194 rfl ls st H Q
theorem r146_197 : sw_A 146 197 ls st H Q = (sw_A 146 198 ls (.int (Int32.ofInt 1) :: st) H Q) := sw_A_step (cc := cL_times) rfl dL_times_197 rfl ls st H Q
theorem r146_198 : sw_A 146 198 ls st H Q = (sw_has1 False ls 13 (sw_i1 False st fun x r => sw_A 146 200 (sw_set1 ls 13 (.int x)) r H Q)) := sw_A_step (cc := cL_times) rfl dL_times_198 rfl ls st H Q
theorem r146_200 : sw_A 146 200 ls st H Q = (sw_lda False ls 0 fun x => sw_A 146 201 ls (.ref x :: st) H Q) := sw_A_step (cc := cL_times) rfl dL_times_200 rfl ls st H Q
theorem r146_201 : sw_A 146 201 ls st H Q = (sw_ldi False ls 8 fun x => sw_A 146 203 ls (.int x :: st) H Q) := sw_A_step (cc := cL_times) rfl dL_times_201 rfl ls st H Q
theorem r146_203 : sw_A 146 203 ls st H Q = (sw_ldi False ls 9 fun x => sw_A 146 205 ls (.int x :: st) H Q) := sw_A_step (cc := cL_times) rfl dL_times_203 rfl ls st H Q
theorem r146_205 : sw_A 146 205 ls st H Q = (sw_ldi False ls 12 fun x => sw_A 146 207 ls (.int x :: st) H Q) := sw_A_step (cc := cL_times) rfl dL_times_205 rfl ls st H Q
theorem r146_207 : sw_A 146 207 ls st H Q = (sw_pop False 4 st [] fun args r => sw_ck False r (sw_rc False H (some 11) args (sw_M 135 args H (sw_K 146 210 none ls r Q)))) := sw_A_step (cc := cL_times) rfl dL_times_207 rfl ls st H Q
theorem r146_210 : sw_A 146 210 ls st H Q = (sw_ldi False ls 13 fun x => sw_A 146 212 ls (.int x :: st) H Q) := sw_A_step (cc := cL_times) rfl dL_times_210 rfl ls st H Q
theorem r146_212 : sw_A 146 212 ls st H Q = (sw_i2 False st fun x y r => if x = y then sw_A 146 217 ls r H Q else sw_A 146 215 ls r H Q) := sw_A_step (cc := cL_times) rfl dL_times_212 rfl ls st H Q
theorem r146_215 : sw_A 146 215 ls st H Q = (sw_A 146 216 ls (.int (Int32.ofInt 0) :: st) H Q) := sw_A_step (cc := cL_times) rfl dL_times_215 rfl ls st H Q
theorem r146_216 : sw_A 146 216 ls st H Q = (match st with | [.int x] => (if true = false ∨ x = 0 ∨ x = 1 then Q (some (some (.int x))) H else False) | _ => False) := sw_A_step (cc := cL_times) rfl dL_times_216 rfl ls st H Q
theorem r146_217 : sw_A 146 217 ls st H Q = (sw_ldi False ls 12 fun x => sw_A 146 220 (sw_set1 ls 12 (.int (x + Int32.ofInt 1))) st H Q) := sw_A_step (cc := cL_times) rfl dL_times_217 rfl ls st H Q
theorem r146_220 : sw_A 146 220 ls st H Q = (sw_A 146 74 ls st H Q) := sw_A_step (cc := cL_times) rfl dL_times_220 rfl ls st H Q
theorem r146_223 : sw_A 146 223 ls st H Q = (sw_lda False ls 0 fun x => sw_A 146 224 ls (.ref x :: st) H Q) := sw_A_step (cc := cL_times) rfl dL_times_223 rfl ls st H Q
theorem r146_224 : sw_A 146 224 ls st H Q = (sw_ldi False ls 8 fun x => sw_A 146 226 ls (.int x :: st) H Q) := sw_A_step (cc := cL_times) rfl dL_times_224 rfl ls st H Q
theorem r146_226 : sw_A 146 226 ls st H Q = (sw_ldi False ls 10 fun x => sw_A 146 228 ls (.int x :: st) H Q) := sw_A_step (cc := cL_times) rfl dL_times_226 rfl ls st H Q
theorem r146_228 : sw_A 146 228 ls st H Q = (sw_pop False 3 st [] fun args r => sw_ck False r (sw_rc False H (some 11) args (sw_M 137 args H (sw_K 146 231 none ls r Q)))) := sw_A_step (cc := cL_times) rfl dL_times_228 rfl ls st H Q
theorem r146_231 : sw_A 146 231 ls st H Q = (sw_ldi False ls 11 fun x => sw_A 146 233 ls (.int x :: st) H Q) := sw_A_step (cc := cL_times) rfl dL_times_231 rfl ls st H Q
theorem r146_233 : sw_A 146 233 ls st H Q = (sw_i2 False st fun x y r => if ¬ x = y then sw_A 146 251 ls r H Q else sw_A 146 236 ls r H Q) := sw_A_step (cc := cL_times) rfl dL_times_233 rfl ls st H Q
theorem r146_236 : sw_A 146 236 ls st H Q = (sw_lda False ls 0 fun x => sw_A 146 237 ls (.ref x :: st) H Q) := sw_A_step (cc := cL_times) rfl dL_times_236 rfl ls st H Q
theorem r146_237 : sw_A 146 237 ls st H Q = (sw_lda False ls 1 fun x => sw_A 146 238 ls (.ref x :: st) H Q) := sw_A_step (cc := cL_times) rfl dL_times_237 rfl ls st H Q
theorem r146_238 : sw_A 146 238 ls st H Q = (sw_ldl False ls 2 fun x => sw_A 146 239 ls (.long x :: st) H Q) := sw_A_step (cc := cL_times) rfl dL_times_238 rfl ls st H Q
theorem r146_239 : sw_A 146 239 ls st H Q = (sw_ldi False ls 8 fun x => sw_A 146 241 ls (.int x :: st) H Q) := sw_A_step (cc := cL_times) rfl dL_times_239 rfl ls st H Q
theorem r146_241 : sw_A 146 241 ls st H Q = (sw_pop False 4 st [] fun args r => sw_ck False r (sw_M 145 args H (sw_K 146 244 none ls r Q))) := sw_A_step (cc := cL_times) rfl dL_times_241 rfl ls st H Q
theorem r146_244 : sw_A 146 244 ls st H Q = (sw_i1 False st fun x r => if x = 0 then sw_A 146 251 ls r H Q else sw_A 146 247 ls r H Q) := sw_A_step (cc := cL_times) rfl dL_times_244 rfl ls st H Q
theorem r146_247 : sw_A 146 247 ls st H Q = (sw_A 146 248 ls (.int (Int32.ofInt 1) :: st) H Q) := sw_A_step (cc := cL_times) rfl dL_times_247 rfl ls st H Q
theorem r146_248 : sw_A 146 248 ls st H Q = (sw_A 146 252 ls st H Q) := sw_A_step (cc := cL_times) rfl dL_times_248 rfl ls st H Q
theorem r146_251 : sw_A 146 251 ls st H Q = (sw_A 146 252 ls (.int (Int32.ofInt 0) :: st) H Q) := sw_A_step (cc := cL_times) rfl dL_times_251 rfl ls st H Q
theorem r146_252 : sw_A 146 252 ls st H Q = (match st with | [.int x] => (if true = false ∨ x = 0 ∨ x = 1 then Q (some (some (.int x))) H else False) | _ => False) := sw_A_step (cc := cL_times) rfl dL_times_252 rfl ls st H Q
theorem r147_0 : sw_A 147 0 ls st H Q = (sw_lda False ls 0 fun x => sw_A 147 1 ls (.ref x :: st) H Q) := sw_A_step (cc := cX5_countTrapped) rfl dX5_countTrapped_0 rfl ls st H Q
theorem r147_1 : sw_A 147 1 ls st H Q = (sw_lda False ls 1 fun x => sw_A 147 2 ls (.ref x :: st) H Q) := sw_A_step (cc := cX5_countTrapped) rfl dX5_countTrapped_1 rfl ls st H Q
theorem r147_2 : sw_A 147 2 ls st H Q = (sw_pop False 2 st [] fun args r => sw_ck False r (sw_rc False H (some 5) args (sw_M 74 args H (sw_K 147 5 none ls r Q)))) := sw_A_step (cc := cX5_countTrapped) rfl dX5_countTrapped_2 rfl ls st H Q
theorem r147_5 : sw_A 147 5 ls st H Q = (sw_A 147 6 ls (.int (Int32.ofInt 0) :: st) H Q) := sw_A_step (cc := cX5_countTrapped) rfl dX5_countTrapped_5 rfl ls st H Q
theorem r147_6 : sw_A 147 6 ls st H Q = (sw_has1 False ls 3 (sw_i1 False st fun x r => sw_A 147 7 (sw_set1 ls 3 (.int x)) r H Q)) := sw_A_step (cc := cX5_countTrapped) rfl dX5_countTrapped_6 rfl ls st H Q
theorem r147_7 : sw_A 147 7 ls st H Q = (sw_A 147 8 ls (.int (Int32.ofInt 0) :: st) H Q) := sw_A_step (cc := cX5_countTrapped) rfl dX5_countTrapped_7 rfl ls st H Q
theorem r147_8 : sw_A 147 8 ls st H Q = (sw_has1 False ls 4 (sw_i1 False st fun x r => sw_A 147 10 (sw_set1 ls 4 (.int x)) r H Q)) := sw_A_step (cc := cX5_countTrapped) rfl dX5_countTrapped_8 rfl ls st H Q
theorem r147_10 : sw_A 147 10 ls st H Q = (sw_ldi False ls 4 fun x => sw_A 147 12 ls (.int x :: st) H Q) := sw_A_step (cc := cX5_countTrapped) rfl dX5_countTrapped_10 rfl ls st H Q
theorem r147_12 : sw_A 147 12 ls st H Q = (sw_A 147 14 ls (.int (Int32.ofInt 36) :: st) H Q) := sw_A_step (cc := cX5_countTrapped) rfl dX5_countTrapped_12 rfl ls st H Q
theorem r147_14 : sw_A 147 14 ls st H Q = (sw_i2 False st fun x y r => if y ≤ x then sw_A 147 54 ls r H Q else sw_A 147 17 ls r H Q) := sw_A_step (cc := cX5_countTrapped) rfl dX5_countTrapped_14 rfl ls st H Q
theorem r147_17 : sw_A 147 17 ls st H Q = (sw_lda False ls 1 fun x => sw_A 147 18 ls (.ref x :: st) H Q) := sw_A_step (cc := cX5_countTrapped) rfl dX5_countTrapped_17 rfl ls st H Q
theorem r147_18 : sw_A 147 18 ls st H Q = (sw_ldi False ls 4 fun x => sw_A 147 20 ls (.int x :: st) H Q) := sw_A_step (cc := cX5_countTrapped) rfl dX5_countTrapped_18 rfl ls st H Q
theorem r147_20 : sw_A 147 20 ls st H Q = (sw_ri False st fun a i r => sw_ald False H 1 a i fun x => sw_A 147 21 ls (.int x :: r) H Q) := sw_A_step (cc := cX5_countTrapped) rfl dX5_countTrapped_20 rfl ls st H Q
theorem r147_21 : sw_A 147 21 ls st H Q = (sw_i1 False st fun x r => if ¬ x = 0 then sw_A 147 48 ls r H Q else sw_A 147 24 ls r H Q) := sw_A_step (cc := cX5_countTrapped) rfl dX5_countTrapped_21 rfl ls st H Q
theorem r147_24 : sw_A 147 24 ls st H Q = (sw_lda False ls 0 fun x => sw_A 147 25 ls (.ref x :: st) H Q) := sw_A_step (cc := cX5_countTrapped) rfl dX5_countTrapped_24 rfl ls st H Q
theorem r147_25 : sw_A 147 25 ls st H Q = (sw_r1 False st fun a r => sw_gf False H (some (5, 0, 1)) a fun v => sw_A 147 28 ls (v :: r) H Q) := sw_A_step (cc := cX5_countTrapped) rfl dX5_countTrapped_25 rfl ls st H Q
theorem r147_28 : sw_A 147 28 ls st H Q = (sw_ldi False ls 4 fun x => sw_A 147 30 ls (.int x :: st) H Q) := sw_A_step (cc := cX5_countTrapped) rfl dX5_countTrapped_28 rfl ls st H Q
theorem r147_30 : sw_A 147 30 ls st H Q = (sw_ri False st fun a i r => sw_ald False H 1 a i fun x => sw_A 147 31 ls (.int x :: r) H Q) := sw_A_step (cc := cX5_countTrapped) rfl dX5_countTrapped_30 rfl ls st H Q
theorem r147_31 : sw_A 147 31 ls st H Q = (sw_ldi False ls 2 fun x => sw_A 147 32 ls (.int x :: st) H Q) := sw_A_step (cc := cX5_countTrapped) rfl dX5_countTrapped_31 rfl ls st H Q
theorem r147_32 : sw_A 147 32 ls st H Q = (sw_i2 False st fun x y r => if ¬ x = y then sw_A 147 48 ls r H Q else sw_A 147 35 ls r H Q) := sw_A_step (cc := cX5_countTrapped) rfl dX5_countTrapped_32 rfl ls st H Q
theorem r147_35 : sw_A 147 35 ls st H Q = (sw_lda False ls 0 fun x => sw_A 147 36 ls (.ref x :: st) H Q) := sw_A_step (cc := cX5_countTrapped) rfl dX5_countTrapped_35 rfl ls st H Q
theorem r147_36 : sw_A 147 36 ls st H Q = (sw_r1 False st fun a r => sw_gf False H (some (5, 1, 1)) a fun v => sw_A 147 39 ls (v :: r) H Q) := sw_A_step (cc := cX5_countTrapped) rfl dX5_countTrapped_36 rfl ls st H Q
theorem r147_39 : sw_A 147 39 ls st H Q = (sw_ldi False ls 4 fun x => sw_A 147 41 ls (.int x :: st) H Q) := sw_A_step (cc := cX5_countTrapped) rfl dX5_countTrapped_39 rfl ls st H Q
theorem r147_41 : sw_A 147 41 ls st H Q = (sw_ri False st fun a i r => sw_ald False H 1 a i fun x => sw_A 147 42 ls (.int x :: r) H Q) := sw_A_step (cc := cX5_countTrapped) rfl dX5_countTrapped_41 rfl ls st H Q
theorem r147_42 : sw_A 147 42 ls st H Q = (sw_i1 False st fun x r => if ¬ x = 0 then sw_A 147 48 ls r H Q else sw_A 147 45 ls r H Q) := sw_A_step (cc := cX5_countTrapped) rfl dX5_countTrapped_42 rfl ls st H Q
theorem r147_45 : sw_A 147 45 ls st H Q = (sw_ldi False ls 3 fun x => sw_A 147 48 (sw_set1 ls 3 (.int (x + Int32.ofInt 1))) st H Q) := sw_A_step (cc := cX5_countTrapped) rfl dX5_countTrapped_45 rfl ls st H Q
theorem r147_48 : sw_A 147 48 ls st H Q = (sw_ldi False ls 4 fun x => sw_A 147 51 (sw_set1 ls 4 (.int (x + Int32.ofInt 1))) st H Q) := sw_A_step (cc := cX5_countTrapped) rfl dX5_countTrapped_48 rfl ls st H Q
theorem r147_51 : sw_A 147 51 ls st H Q = (sw_A 147 10 ls st H Q) := sw_A_step (cc := cX5_countTrapped) rfl dX5_countTrapped_51 rfl ls st H Q
theorem r147_54 : sw_A 147 54 ls st H Q = (sw_ldi False ls 3 fun x => sw_A 147 55 ls (.int x :: st) H Q) := sw_A_step (cc := cX5_countTrapped) rfl dX5_countTrapped_54 rfl ls st H Q
theorem r147_55 : sw_A 147 55 ls st H Q = (match st with | [.int x] => Q (some (some (.int x))) H | _ => False) := sw_A_step (cc := cX5_countTrapped) rfl dX5_countTrapped_55 rfl ls st H Q
theorem r148_0 : sw_A 148 0 ls st H Q = (sw_lda False ls 0 fun x => sw_A 148 1 ls (.ref x :: st) H Q) := sw_A_step (cc := cX11_trapped) rfl dX11_trapped_0 rfl ls st H Q
theorem r148_1 : sw_A 148 1 ls st H Q = (sw_r1 False st fun a r => sw_gf False H (some (11, 10, 1)) a fun v => sw_A 148 4 ls (v :: r) H Q) := sw_A_step (cc := cX11_trapped) rfl dX11_trapped_1 rfl ls st H Q
theorem r148_4 : sw_A 148 4 ls st H Q = (sw_lda False ls 0 fun x => sw_A 148 5 ls (.ref x :: st) H Q) := sw_A_step (cc := cX11_trapped) rfl dX11_trapped_4 rfl ls st H Q
theorem r148_5 : sw_A 148 5 ls st H Q = (sw_r1 False st fun a r => sw_gf False H (some (11, 2, 1)) a fun v => sw_A 148 8 ls (v :: r) H Q) := sw_A_step (cc := cX11_trapped) rfl dX11_trapped_5 rfl ls st H Q
theorem r148_8 : sw_A 148 8 ls st H Q = (sw_r1 False st fun a r => sw_gf False H (some (7, 0, 1)) a fun v => sw_A 148 11 ls (v :: r) H Q) := sw_A_step (cc := cX11_trapped) rfl dX11_trapped_8 rfl ls st H Q
theorem r148_11 : sw_A 148 11 ls st H Q = (sw_ldi False ls 1 fun x => sw_A 148 12 ls (.int x :: st) H Q) := sw_A_step (cc := cX11_trapped) rfl dX11_trapped_11 rfl ls st H Q
theorem r148_12 : sw_A 148 12 ls st H Q = (sw_pop False 3 st [] fun args r => sw_ck False r (sw_rc False H (some 5) args (sw_M 147 args H (sw_K 148 15 none ls r Q)))) := sw_A_step (cc := cX11_trapped) rfl dX11_trapped_12 rfl ls st H Q
theorem r148_15 : sw_A 148 15 ls st H Q = (match st with | [.int x] => Q (some (some (.int x))) H | _ => False) := sw_A_step (cc := cX11_trapped) rfl dX11_trapped_15 rfl ls st H Q
theorem r149_0 : sw_A 149 0 ls st H Q = (sw_ldi False ls 1 fun x => sw_A 149 1 ls (.int x :: st) H Q) := sw_A_step (cc := cX11_count) rfl dX11_count_0 rfl ls st H Q
theorem r149_1 : sw_A 149 1 ls st H Q = (sw_i1 False st fun x r => sw_ts False 1 x 87 0 4 #[35, 46, 57, 68, 79] fun t => sw_A 149 t ls r H Q) := sw_A_step (cc := cX11_count) rfl dX11_count_1 rfl ls st H Q
theorem r149_36 : sw_A 149 36 ls st H Q = (sw_lda False ls 0 fun x => sw_A 149 37 ls (.ref x :: st) H Q) := sw_A_step (cc := cX11_count) rfl dX11_count_36 rfl ls st H Q
theorem r149_37 : sw_A 149 37 ls st H Q = (sw_r1 False st fun a r => sw_gf False H (some (11, 2, 1)) a fun v => sw_A 149 40 ls (v :: r) H Q) := sw_A_step (cc := cX11_count) rfl dX11_count_37 rfl ls st H Q
theorem r149_40 : sw_A 149 40 ls st H Q = (sw_r1 False st fun a r => sw_gf False H (some (7, 0, 1)) a fun v => sw_A 149 43 ls (v :: r) H Q) := sw_A_step (cc := cX11_count) rfl dX11_count_40 rfl ls st H Q
theorem r149_43 : sw_A 149 43 ls st H Q = (sw_pop False 1 st [] fun args r => sw_ck False r (sw_M 35 args H (sw_K 149 46 none ls r Q))) := sw_A_step (cc := cX11_count) rfl dX11_count_43 rfl ls st H Q
theorem r149_46 : sw_A 149 46 ls st H Q = (match st with | [.int x] => Q (some (some (.int x))) H | _ => False) := sw_A_step (cc := cX11_count) rfl dX11_count_46 rfl ls st H Q
theorem r149_47 : sw_A 149 47 ls st H Q = (sw_lda False ls 0 fun x => sw_A 149 48 ls (.ref x :: st) H Q) := sw_A_step (cc := cX11_count) rfl dX11_count_47 rfl ls st H Q
theorem r149_48 : sw_A 149 48 ls st H Q = (sw_r1 False st fun a r => sw_gf False H (some (11, 2, 1)) a fun v => sw_A 149 51 ls (v :: r) H Q) := sw_A_step (cc := cX11_count) rfl dX11_count_48 rfl ls st H Q
theorem r149_51 : sw_A 149 51 ls st H Q = (sw_r1 False st fun a r => sw_gf False H (some (7, 2, 1)) a fun v => sw_A 149 54 ls (v :: r) H Q) := sw_A_step (cc := cX11_count) rfl dX11_count_51 rfl ls st H Q
theorem r149_54 : sw_A 149 54 ls st H Q = (sw_pop False 1 st [] fun args r => sw_ck False r (sw_M 35 args H (sw_K 149 57 none ls r Q))) := sw_A_step (cc := cX11_count) rfl dX11_count_54 rfl ls st H Q
theorem r149_57 : sw_A 149 57 ls st H Q = (match st with | [.int x] => Q (some (some (.int x))) H | _ => False) := sw_A_step (cc := cX11_count) rfl dX11_count_57 rfl ls st H Q
theorem r149_58 : sw_A 149 58 ls st H Q = (sw_lda False ls 0 fun x => sw_A 149 59 ls (.ref x :: st) H Q) := sw_A_step (cc := cX11_count) rfl dX11_count_58 rfl ls st H Q
theorem r149_59 : sw_A 149 59 ls st H Q = (sw_r1 False st fun a r => sw_gf False H (some (11, 2, 1)) a fun v => sw_A 149 62 ls (v :: r) H Q) := sw_A_step (cc := cX11_count) rfl dX11_count_59 rfl ls st H Q
theorem r149_62 : sw_A 149 62 ls st H Q = (sw_r1 False st fun a r => sw_gf False H (some (7, 1, 1)) a fun v => sw_A 149 65 ls (v :: r) H Q) := sw_A_step (cc := cX11_count) rfl dX11_count_62 rfl ls st H Q
theorem r149_65 : sw_A 149 65 ls st H Q = (sw_pop False 1 st [] fun args r => sw_ck False r (sw_M 35 args H (sw_K 149 68 none ls r Q))) := sw_A_step (cc := cX11_count) rfl dX11_count_65 rfl ls st H Q
theorem r149_68 : sw_A 149 68 ls st H Q = (match st with | [.int x] => Q (some (some (.int x))) H | _ => False) := sw_A_step (cc := cX11_count) rfl dX11_count_68 rfl ls st H Q
theorem r149_69 : sw_A 149 69 ls st H Q = (sw_lda False ls 0 fun x => sw_A 149 70 ls (.ref x :: st) H Q) := sw_A_step (cc := cX11_count) rfl dX11_count_69 rfl ls st H Q
theorem r149_70 : sw_A 149 70 ls st H Q = (sw_r1 False st fun a r => sw_gf False H (some (11, 10, 1)) a fun v => sw_A 149 73 ls (v :: r) H Q) := sw_A_step (cc := cX11_count) rfl dX11_count_70 rfl ls st H Q
theorem r149_73 : sw_A 149 73 ls st H Q = (sw_r1 False st fun a r => sw_gf False H (some (5, 0, 1)) a fun v => sw_A 149 76 ls (v :: r) H Q) := sw_A_step (cc := cX11_count) rfl dX11_count_73 rfl ls st H Q
theorem r149_76 : sw_A 149 76 ls st H Q = (sw_pop False 1 st [] fun args r => sw_ck False r (sw_M 35 args H (sw_K 149 79 none ls r Q))) := sw_A_step (cc := cX11_count) rfl dX11_count_76 rfl ls st H Q
theorem r149_79 : sw_A 149 79 ls st H Q = (match st with | [.int x] => Q (some (some (.int x))) H | _ => False) := sw_A_step (cc := cX11_count) rfl dX11_count_79 rfl ls st H Q
theorem r149_80 : sw_A 149 80 ls st H Q = (sw_lda False ls 0 fun x => sw_A 149 81 ls (.ref x :: st) H Q) := sw_A_step (cc := cX11_count) rfl dX11_count_80 rfl ls st H Q
theorem r149_81 : sw_A 149 81 ls st H Q = (sw_r1 False st fun a r => sw_gf False H (some (11, 11, 1)) a fun v => sw_A 149 84 ls (v :: r) H Q) := sw_A_step (cc := cX11_count) rfl dX11_count_81 rfl ls st H Q
theorem r149_84 : sw_A 149 84 ls st H Q = (False) := sw_A_step (cc := cX11_count) rfl dX11_count_84 rfl ls st H Q
theorem r149_87 : sw_A 149 87 ls st H Q = (match st with | [.int x] => Q (some (some (.int x))) H | _ => False) := sw_A_step (cc := cX11_count) rfl dX11_count_87 rfl ls st H Q
theorem r149_88 : sw_A 149 88 ls st H Q = (False) := sw_A_step (cc := cX11_count) rfl dX11_count_88 rfl ls st H Q
theorem r149_91 : sw_A 149 91 ls st H Q = (sw_r1 False st fun a r => sw_A 149 92 ls (.ref a :: .ref a :: r) H Q) := sw_A_step (cc := cX11_count) rfl dX11_count_91 rfl ls st H Q
theorem r149_92 : sw_A 149 92 ls st H Q = (False) := sw_A_step (cc := cX11_count) rfl dX11_count_92 rfl ls st H Q
theorem r149_95 : sw_A 149 95 ls st H Q = (False) := sw_A_step (cc := cX11_count) rfl dX11_count_95 rfl ls st H Q
theorem r149_98 : sw_A 149 98 ls st H Q = (False) := sw_A_step (cc := cX11_count) rfl dX11_count_98 rfl ls st H Q
theorem r150_0 : sw_A 150 0 ls st H Q = (sw_ldi False ls 2 fun x => sw_A 150 1 ls (.int x :: st) H Q) := sw_A_step (cc := cX11_numberOf) rfl dX11_numberOf_0 rfl ls st H Q
theorem r150_1 : sw_A 150 1 ls st H Q = (sw_pop False 1 st [] fun args r => sw_ck False r (sw_M 23 args H (sw_K 150 4 none ls r Q))) := sw_A_step (cc := cX11_numberOf) rfl dX11_numberOf_1 rfl ls st H Q
theorem r150_4 : sw_A 150 4 ls st H Q = (sw_ldi False ls 1 fun x => sw_A 150 5 ls (.int x :: st) H Q) := sw_A_step (cc := cX11_numberOf) rfl dX11_numberOf_4 rfl ls st H Q
theorem r150_5 : sw_A 150 5 ls st H Q = (sw_pop False 1 st [] fun args r => sw_ck False r (sw_M 85 args H (sw_K 150 8 none ls r Q))) := sw_A_step (cc := cX11_numberOf) rfl dX11_numberOf_5 rfl ls st H Q
theorem r150_8 : sw_A 150 8 ls st H Q = (sw_lda False ls 0 fun x => sw_A 150 9 ls (.ref x :: st) H Q) := sw_A_step (cc := cX11_numberOf) rfl dX11_numberOf_8 rfl ls st H Q
theorem r150_9 : sw_A 150 9 ls st H Q = (sw_r1 False st fun a r => sw_gf False H (some (11, 0, 1)) a fun v => sw_A 150 12 ls (v :: r) H Q) := sw_A_step (cc := cX11_numberOf) rfl dX11_numberOf_9 rfl ls st H Q
theorem r150_12 : sw_A 150 12 ls st H Q = (sw_ldi False ls 1 fun x => sw_A 150 13 ls (.int x :: st) H Q) := sw_A_step (cc := cX11_numberOf) rfl dX11_numberOf_12 rfl ls st H Q
theorem r150_13 : sw_A 150 13 ls st H Q = (sw_ldi False ls 2 fun x => sw_A 150 14 ls (.int x :: st) H Q) := sw_A_step (cc := cX11_numberOf) rfl dX11_numberOf_13 rfl ls st H Q
theorem r150_14 : sw_A 150 14 ls st H Q = (sw_pop False 3 st [] fun args r => sw_ck False r (sw_rc False H (some 8) args (sw_M 106 args H (sw_K 150 17 none ls r Q)))) := sw_A_step (cc := cX11_numberOf) rfl dX11_numberOf_14 rfl ls st H Q
theorem r150_17 : sw_A 150 17 ls st H Q = (match st with | [.int x] => Q (some (some (.int x))) H | _ => False) := sw_A_step (cc := cX11_numberOf) rfl dX11_numberOf_17 rfl ls st H Q
end sw_R
