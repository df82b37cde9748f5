section sw_R
variable (ls : sw_LS) (st : List Value) (H : sw_HS) (Q : sw_Ot → sw_HS → Prop)
theorem r0_0 : sw_A 0 0 ls st H Q = (sw_lda False ls 0 fun x => sw_A 0 1 ls (.ref x :: st) H Q) := sw_A_step (cc := cX8_init) rfl dX8_init_0 rfl ls st H Q
theorem r0_1 : sw_A 0 1 ls st H Q = (sw_r1 False st fun _ r => sw_ck False r (sw_A 0 4 ls r H Q)) := sw_A_step (cc := cX8_init) rfl dX8_init_1 rfl ls st H Q
theorem r0_4 : sw_A 0 4 ls st H Q = (sw_lda False ls 0 fun x => sw_A 0 5 ls (.ref x :: st) H Q) := sw_A_step (cc := cX8_init) rfl dX8_init_4 rfl ls st H Q
theorem r0_5 : sw_A 0 5 ls st H Q = (sw_A 0 7 ls (.int (Int32.ofInt 60) :: st) H Q) := sw_A_step (cc := cX8_init) rfl dX8_init_5 rfl ls st H Q
theorem r0_7 : sw_A 0 7 ls st H Q = (sw_i1 False st fun n r => sw_nw False H 0 n fun H1 => sw_A 0 9 ls (.ref H.2.1 :: r) H1 Q) := sw_A_step (cc := cX8_init) rfl dX8_init_7 rfl ls st H Q
theorem r0_9 : sw_A 0 9 ls st H Q = (sw_rv False st fun a v r => sw_pf False H (some (8, 0, 1)) 2 a v fun H1 => sw_A 0 12 ls r H1 Q) := sw_A_step (cc := cX8_init) rfl dX8_init_9 rfl ls st H Q
theorem r0_12 : sw_A 0 12 ls st H Q = (sw_lda False ls 0 fun x => sw_A 0 13 ls (.ref x :: st) H Q) := sw_A_step (cc := cX8_init) rfl dX8_init_12 rfl ls st H Q
theorem r0_13 : sw_A 0 13 ls st H Q = (sw_A 0 15 ls (.int (Int32.ofInt 36) :: st) H Q) := sw_A_step (cc := cX8_init) rfl dX8_init_13 rfl ls st H Q
theorem r0_15 : sw_A 0 15 ls st H Q = (sw_i1 False st fun n r => sw_nw False H 0 n fun H1 => sw_A 0 17 ls (.ref H.2.1 :: r) H1 Q) := sw_A_step (cc := cX8_init) rfl dX8_init_15 rfl ls st H Q
theorem r0_17 : sw_A 0 17 ls st H Q = (sw_rv False st fun a v r => sw_pf False H (some (8, 1, 1)) 2 a v fun H1 => sw_A 0 20 ls r H1 Q) := sw_A_step (cc := cX8_init) rfl dX8_init_17 rfl ls st H Q
theorem r0_20 : sw_A 0 20 ls st H Q = (match st with | [] => Q (some none) H | _ => False) := sw_A_step (cc := cX8_init) rfl dX8_init_20 rfl ls st H Q
theorem r1_0 : sw_A 1 0 ls st H Q = (sw_lda False ls 0 fun x => sw_A 1 1 ls (.ref x :: st) H Q) := sw_A_step (cc := cX10_init) rfl dX10_init_0 rfl ls st H Q
theorem r1_1 : sw_A 1 1 ls st H Q = (sw_r1 False st fun _ r => sw_ck False r (sw_A 1 4 ls r H Q)) := sw_A_step (cc := cX10_init) rfl dX10_init_1 rfl ls st H Q
theorem r1_4 : sw_A 1 4 ls st H Q = (sw_lda False ls 0 fun x => sw_A 1 5 ls (.ref x :: st) H Q) := sw_A_step (cc := cX10_init) rfl dX10_init_4 rfl ls st H Q
theorem r1_5 : sw_A 1 5 ls st H Q = (sw_A 1 7 ls (.int (Int32.ofInt 36) :: st) H Q) := sw_A_step (cc := cX10_init) rfl dX10_init_5 rfl ls st H Q
theorem r1_7 : sw_A 1 7 ls st H Q = (sw_i1 False st fun n r => sw_nw False H 0 n fun H1 => sw_A 1 9 ls (.ref H.2.1 :: r) H1 Q) := sw_A_step (cc := cX10_init) rfl dX10_init_7 rfl ls st H Q
theorem r1_9 : sw_A 1 9 ls st H Q = (sw_rv False st fun a v r => sw_pf False H (some (10, 0, 1)) 2 a v fun H1 => sw_A 1 12 ls r H1 Q) := sw_A_step (cc := cX10_init) rfl dX10_init_9 rfl ls st H Q
theorem r1_12 : sw_A 1 12 ls st H Q = (match st with | [] => Q (some none) H | _ => False) := sw_A_step (cc := cX10_init) rfl dX10_init_12 rfl ls st H Q
theorem r2_0 : sw_A 2 0 ls st H Q = (sw_lda False ls 0 fun x => sw_A 2 1 ls (.ref x :: st) H Q) := sw_A_step (cc := cX7_init) rfl dX7_init_0 rfl ls st H Q
theorem r2_1 : sw_A 2 1 ls st H Q = (sw_r1 False st fun _ r => sw_ck False r (sw_A 2 4 ls r H Q)) := sw_A_step (cc := cX7_init) rfl dX7_init_1 rfl ls st H Q
theorem r2_4 : sw_A 2 4 ls st H Q = (sw_lda False ls 0 fun x => sw_A 2 5 ls (.ref x :: st) H Q) := sw_A_step (cc := cX7_init) rfl dX7_init_4 rfl ls st H Q
theorem r2_5 : sw_A 2 5 ls st H Q = (sw_A 2 7 ls (.int (Int32.ofInt 36) :: st) H Q) := sw_A_step (cc := cX7_init) rfl dX7_init_5 rfl ls st H Q
theorem r2_7 : sw_A 2 7 ls st H Q = (sw_i1 False st fun n r => sw_nw False H 1 n fun H1 => sw_A 2 9 ls (.ref H.2.1 :: r) H1 Q) := sw_A_step (cc := cX7_init) rfl dX7_init_7 rfl ls st H Q
theorem r2_9 : sw_A 2 9 ls st H Q = (sw_rv False st fun a v r => sw_pf False H (some (7, 0, 1)) 2 a v fun H1 => sw_A 2 12 ls r H1 Q) := sw_A_step (cc := cX7_init) rfl dX7_init_9 rfl ls st H Q
theorem r2_12 : sw_A 2 12 ls st H Q = (sw_lda False ls 0 fun x => sw_A 2 13 ls (.ref x :: st) H Q) := sw_A_step (cc := cX7_init) rfl dX7_init_12 rfl ls st H Q
theorem r2_13 : sw_A 2 13 ls st H Q = (sw_A 2 15 ls (.int (Int32.ofInt 36) :: st) H Q) := sw_A_step (cc := cX7_init) rfl dX7_init_13 rfl ls st H Q
theorem r2_15 : sw_A 2 15 ls st H Q = (sw_i1 False st fun n r => sw_nw False H 1 n fun H1 => sw_A 2 17 ls (.ref H.2.1 :: r) H1 Q) := sw_A_step (cc := cX7_init) rfl dX7_init_15 rfl ls st H Q
theorem r2_17 : sw_A 2 17 ls st H Q = (sw_rv False st fun a v r => sw_pf False H (some (7, 1, 1)) 2 a v fun H1 => sw_A 2 20 ls r H1 Q) := sw_A_step (cc := cX7_init) rfl dX7_init_17 rfl ls st H Q
theorem r2_20 : sw_A 2 20 ls st H Q = (sw_lda False ls 0 fun x => sw_A 2 21 ls (.ref x :: st) H Q) := sw_A_step (cc := cX7_init) rfl dX7_init_20 rfl ls st H Q
theorem r2_21 : sw_A 2 21 ls st H Q = (sw_A 2 23 ls (.int (Int32.ofInt 36) :: st) H Q) := sw_A_step (cc := cX7_init) rfl dX7_init_21 rfl ls st H Q
theorem r2_23 : sw_A 2 23 ls st H Q = (sw_i1 False st fun n r => sw_nw False H 1 n fun H1 => sw_A 2 25 ls (.ref H.2.1 :: r) H1 Q) := sw_A_step (cc := cX7_init) rfl dX7_init_23 rfl ls st H Q
theorem r2_25 : sw_A 2 25 ls st H Q = (sw_rv False st fun a v r => sw_pf False H (some (7, 2, 1)) 2 a v fun H1 => sw_A 2 28 ls r H1 Q) := sw_A_step (cc := cX7_init) rfl dX7_init_25 rfl ls st H Q
theorem r2_28 : sw_A 2 28 ls st H Q = (sw_lda False ls 0 fun x => sw_A 2 29 ls (.ref x :: st) H Q) := sw_A_step (cc := cX7_init) rfl dX7_init_28 rfl ls st H Q
theorem r2_29 : sw_A 2 29 ls st H Q = (sw_A 2 31 ls (.int (Int32.ofInt 36) :: st) H Q) := sw_A_step (cc := cX7_init) rfl dX7_init_29 rfl ls st H Q
theorem r2_31 : sw_A 2 31 ls st H Q = (sw_i1 False st fun n r => sw_nw False H 1 n fun H1 => sw_A 2 33 ls (.ref H.2.1 :: r) H1 Q) := sw_A_step (cc := cX7_init) rfl dX7_init_31 rfl ls st H Q
theorem r2_33 : sw_A 2 33 ls st H Q = (sw_rv False st fun a v r => sw_pf False H (some (7, 4, 1)) 2 a v fun H1 => sw_A 2 36 ls r H1 Q) := sw_A_step (cc := cX7_init) rfl dX7_init_33 rfl ls st H Q
theorem r2_36 : sw_A 2 36 ls st H Q = (sw_lda False ls 0 fun x => sw_A 2 37 ls (.ref x :: st) H Q) := sw_A_step (cc := cX7_init) rfl dX7_init_36 rfl ls st H Q
theorem r2_37 : sw_A 2 37 ls st H Q = (sw_A 2 39 ls (.int (Int32.ofInt 36) :: st) H Q) := sw_A_step (cc := cX7_init) rfl dX7_init_37 rfl ls st H Q
theorem r2_39 : sw_A 2 39 ls st H Q = (sw_i1 False st fun n r => sw_nw False H 1 n fun H1 => sw_A 2 41 ls (.ref H.2.1 :: r) H1 Q) := sw_A_step (cc := cX7_init) rfl dX7_init_39 rfl ls st H Q
theorem r2_41 : sw_A 2 41 ls st H Q = (sw_rv False st fun a v r => sw_pf False H (some (7, 5, 1)) 2 a v fun H1 => sw_A 2 44 ls r H1 Q) := sw_A_step (cc := cX7_init) rfl dX7_init_41 rfl ls st H Q
theorem r2_44 : sw_A 2 44 ls st H Q = (sw_lda False ls 0 fun x => sw_A 2 45 ls (.ref x :: st) H Q) := sw_A_step (cc := cX7_init) rfl dX7_init_44 rfl ls st H Q
theorem r2_45 : sw_A 2 45 ls st H Q = (sw_A 2 48 ls (.ref H.2.1 :: st) (sw_mk H (.inl (10, sw_df 10)) 3) Q) := sw_A_step (cc := cX7_init) rfl dX7_init_45 rfl ls st H Q
theorem r2_48 : sw_A 2 48 ls st H Q = (sw_r1 False st fun a r => sw_A 2 49 ls (.ref a :: .ref a :: r) H Q) := sw_A_step (cc := cX7_init) rfl dX7_init_48 rfl ls st H Q
theorem r2_49 : sw_A 2 49 ls st H Q = (sw_pop False 1 st [] fun args r => sw_ck False r (sw_rr False args (sw_M 1 args H (sw_K 2 52 none ls r Q)))) := sw_A_step (cc := cX7_init) rfl dX7_init_49 rfl ls st H Q
theorem r2_52 : sw_A 2 52 ls st H Q = (sw_rv False st fun a v r => sw_pf False H (some (7, 8, 1)) 2 a v fun H1 => sw_A 2 55 ls r H1 Q) := sw_A_step (cc := cX7_init) rfl dX7_init_52 rfl ls st H Q
theorem r2_55 : sw_A 2 55 ls st H Q = (match st with | [] => Q (some none) H | _ => False) := sw_A_step (cc := cX7_init) rfl dX7_init_55 rfl ls st H Q
theorem r3_0 : sw_A 3 0 ls st H Q = (sw_lda False ls 0 fun x => sw_A 3 1 ls (.ref x :: st) H Q) := sw_A_step (cc := cX9_init) rfl dX9_init_0 rfl ls st H Q
theorem r3_1 : sw_A 3 1 ls st H Q = (sw_r1 False st fun _ r => sw_ck False r (sw_A 3 4 ls r H Q)) := sw_A_step (cc := cX9_init) rfl dX9_init_1 rfl ls st H Q
theorem r3_4 : sw_A 3 4 ls st H Q = (sw_lda False ls 0 fun x => sw_A 3 5 ls (.ref x :: st) H Q) := sw_A_step (cc := cX9_init) rfl dX9_init_4 rfl ls st H Q
theorem r3_5 : sw_A 3 5 ls st H Q = (sw_A 3 7 ls (.int (Int32.ofInt 36) :: st) H Q) := sw_A_step (cc := cX9_init) rfl dX9_init_5 rfl ls st H Q
theorem r3_7 : sw_A 3 7 ls st H Q = (sw_i1 False st fun n r => sw_nw False H 1 n fun H1 => sw_A 3 9 ls (.ref H.2.1 :: r) H1 Q) := sw_A_step (cc := cX9_init) rfl dX9_init_7 rfl ls st H Q
theorem r3_9 : sw_A 3 9 ls st H Q = (sw_rv False st fun a v r => sw_pf False H (some (9, 0, 1)) 2 a v fun H1 => sw_A 3 12 ls r H1 Q) := sw_A_step (cc := cX9_init) rfl dX9_init_9 rfl ls st H Q
theorem r3_12 : sw_A 3 12 ls st H Q = (sw_lda False ls 0 fun x => sw_A 3 13 ls (.ref x :: st) H Q) := sw_A_step (cc := cX9_init) rfl dX9_init_12 rfl ls st H Q
theorem r3_13 : sw_A 3 13 ls st H Q = (sw_A 3 15 ls (.int (Int32.ofInt 60) :: st) H Q) := sw_A_step (cc := cX9_init) rfl dX9_init_13 rfl ls st H Q
theorem r3_15 : sw_A 3 15 ls st H Q = (sw_i1 False st fun n r => sw_nw False H 1 n fun H1 => sw_A 3 17 ls (.ref H.2.1 :: r) H1 Q) := sw_A_step (cc := cX9_init) rfl dX9_init_15 rfl ls st H Q
theorem r3_17 : sw_A 3 17 ls st H Q = (sw_rv False st fun a v r => sw_pf False H (some (9, 1, 1)) 2 a v fun H1 => sw_A 3 20 ls r H1 Q) := sw_A_step (cc := cX9_init) rfl dX9_init_17 rfl ls st H Q
theorem r3_20 : sw_A 3 20 ls st H Q = (sw_lda False ls 0 fun x => sw_A 3 21 ls (.ref x :: st) H Q) := sw_A_step (cc := cX9_init) rfl dX9_init_20 rfl ls st H Q
theorem r3_21 : sw_A 3 21 ls st H Q = (sw_A 3 23 ls (.int (Int32.ofInt 36) :: st) H Q) := sw_A_step (cc := cX9_init) rfl dX9_init_21 rfl ls st H Q
theorem r3_23 : sw_A 3 23 ls st H Q = (sw_i1 False st fun n r => sw_nw False H 0 n fun H1 => sw_A 3 25 ls (.ref H.2.1 :: r) H1 Q) := sw_A_step (cc := cX9_init) rfl dX9_init_23 rfl ls st H Q
theorem r3_25 : sw_A 3 25 ls st H Q = (sw_rv False st fun a v r => sw_pf False H (some (9, 2, 1)) 2 a v fun H1 => sw_A 3 28 ls r H1 Q) := sw_A_step (cc := cX9_init) rfl dX9_init_25 rfl ls st H Q
theorem r3_28 : sw_A 3 28 ls st H Q = (sw_lda False ls 0 fun x => sw_A 3 29 ls (.ref x :: st) H Q) := sw_A_step (cc := cX9_init) rfl dX9_init_28 rfl ls st H Q
theorem r3_29 : sw_A 3 29 ls st H Q = (sw_A 3 32 ls (.ref H.2.1 :: st) (sw_mk H (.inl (10, sw_df 10)) 3) Q) := sw_A_step (cc := cX9_init) rfl dX9_init_29 rfl ls st H Q
theorem r3_32 : sw_A 3 32 ls st H Q = (sw_r1 False st fun a r => sw_A 3 33 ls (.ref a :: .ref a :: r) H Q) := sw_A_step (cc := cX9_init) rfl dX9_init_32 rfl ls st H Q
theorem r3_33 : sw_A 3 33 ls st H Q = (sw_pop False 1 st [] fun args r => sw_ck False r (sw_rr False args (sw_M 1 args H (sw_K 3 36 none ls r Q)))) := sw_A_step (cc := cX9_init) rfl dX9_init_33 rfl ls st H Q
theorem r3_36 : sw_A 3 36 ls st H Q = (sw_rv False st fun a v r => sw_pf False H (some (9, 3, 1)) 2 a v fun H1 => sw_A 3 39 ls r H1 Q) := sw_A_step (cc := cX9_init) rfl dX9_init_36 rfl ls st H Q
theorem r3_39 : sw_A 3 39 ls st H Q = (match st with | [] => Q (some none) H | _ => False) := sw_A_step (cc := cX9_init) rfl dX9_init_39 rfl ls st H Q
theorem r4_0 : sw_A 4 0 ls st H Q = (sw_lda False ls 0 fun x => sw_A 4 1 ls (.ref x :: st) H Q) := sw_A_step (cc := cX4_init) rfl dX4_init_0 rfl ls st H Q
theorem r4_1 : sw_A 4 1 ls st H Q = (sw_r1 False st fun _ r => sw_ck False r (sw_A 4 4 ls r H Q)) := sw_A_step (cc := cX4_init) rfl dX4_init_1 rfl ls st H Q
theorem r4_4 : sw_A 4 4 ls st H Q = (sw_lda False ls 0 fun x => sw_A 4 5 ls (.ref x :: st) H Q) := sw_A_step (cc := cX4_init) rfl dX4_init_4 rfl ls st H Q
theorem r4_5 : sw_A 4 5 ls st H Q = (sw_A 4 7 ls (.int (Int32.ofInt 60) :: st) H Q) := sw_A_step (cc := cX4_init) rfl dX4_init_5 rfl ls st H Q
theorem r4_7 : sw_A 4 7 ls st H Q = (sw_i1 False st fun n r => sw_nw False H 0 n fun H1 => sw_A 4 9 ls (.ref H.2.1 :: r) H1 Q) := sw_A_step (cc := cX4_init) rfl dX4_init_7 rfl ls st H Q
theorem r4_9 : sw_A 4 9 ls st H Q = (sw_rv False st fun a v r => sw_pf False H (some (4, 0, 1)) 2 a v fun H1 => sw_A 4 12 ls r H1 Q) := sw_A_step (cc := cX4_init) rfl dX4_init_9 rfl ls st H Q
theorem r4_12 : sw_A 4 12 ls st H Q = (sw_lda False ls 0 fun x => sw_A 4 13 ls (.ref x :: st) H Q) := sw_A_step (cc := cX4_init) rfl dX4_init_12 rfl ls st H Q
theorem r4_13 : sw_A 4 13 ls st H Q = (sw_A 4 15 ls (.int (Int32.ofInt 36) :: st) H Q) := sw_A_step (cc := cX4_init) rfl dX4_init_13 rfl ls st H Q
theorem r4_15 : sw_A 4 15 ls st H Q = (sw_i1 False st fun n r => sw_nw False H 1 n fun H1 => sw_A 4 17 ls (.ref H.2.1 :: r) H1 Q) := sw_A_step (cc := cX4_init) rfl dX4_init_15 rfl ls st H Q
theorem r4_17 : sw_A 4 17 ls st H Q = (sw_rv False st fun a v r => sw_pf False H (some (4, 1, 1)) 2 a v fun H1 => sw_A 4 20 ls r H1 Q) := sw_A_step (cc := cX4_init) rfl dX4_init_17 rfl ls st H Q
theorem r4_20 : sw_A 4 20 ls st H Q = (sw_lda False ls 0 fun x => sw_A 4 21 ls (.ref x :: st) H Q) := sw_A_step (cc := cX4_init) rfl dX4_init_20 rfl ls st H Q
theorem r4_21 : sw_A 4 21 ls st H Q = (sw_A 4 23 ls (.int (Int32.ofInt 36) :: st) H Q) := sw_A_step (cc := cX4_init) rfl dX4_init_21 rfl ls st H Q
theorem r4_23 : sw_A 4 23 ls st H Q = (sw_i1 False st fun n r => sw_nw False H 0 n fun H1 => sw_A 4 25 ls (.ref H.2.1 :: r) H1 Q) := sw_A_step (cc := cX4_init) rfl dX4_init_23 rfl ls st H Q
theorem r4_25 : sw_A 4 25 ls st H Q = (sw_rv False st fun a v r => sw_pf False H (some (4, 2, 1)) 2 a v fun H1 => sw_A 4 28 ls r H1 Q) := sw_A_step (cc := cX4_init) rfl dX4_init_25 rfl ls st H Q
theorem r4_28 : sw_A 4 28 ls st H Q = (sw_lda False ls 0 fun x => sw_A 4 29 ls (.ref x :: st) H Q) := sw_A_step (cc := cX4_init) rfl dX4_init_28 rfl ls st H Q
theorem r4_29 : sw_A 4 29 ls st H Q = (sw_A 4 32 ls (.ref H.2.1 :: st) (sw_mk H (.inl (10, sw_df 10)) 3) Q) := sw_A_step (cc := cX4_init) rfl dX4_init_29 rfl ls st H Q
theorem r4_32 : sw_A 4 32 ls st H Q = (sw_r1 False st fun a r => sw_A 4 33 ls (.ref a :: .ref a :: r) H Q) := sw_A_step (cc := cX4_init) rfl dX4_init_32 rfl ls st H Q
theorem r4_33 : sw_A 4 33 ls st H Q = (sw_pop False 1 st [] fun args r => sw_ck False r (sw_rr False args (sw_M 1 args H (sw_K 4 36 none ls r Q)))) := sw_A_step (cc := cX4_init) rfl dX4_init_33 rfl ls st H Q
theorem r4_36 : sw_A 4 36 ls st H Q = (sw_rv False st fun a v r => sw_pf False H (some (4, 3, 1)) 2 a v fun H1 => sw_A 4 39 ls r H1 Q) := sw_A_step (cc := cX4_init) rfl dX4_init_36 rfl ls st H Q
theorem r4_39 : sw_A 4 39 ls st H Q = (match st with | [] => Q (some none) H | _ => False) := sw_A_step (cc := cX4_init) rfl dX4_init_39 rfl ls st H Q
theorem r5_0 : sw_A 5 0 ls st H Q = (sw_lda False ls 0 fun x => sw_A 5 1 ls (.ref x :: st) H Q) := sw_A_step (cc := cX3_init) rfl dX3_init_0 rfl ls st H Q
theorem r5_1 : sw_A 5 1 ls st H Q = (sw_r1 False st fun _ r => sw_ck False r (sw_A 5 4 ls r H Q)) := sw_A_step (cc := cX3_init) rfl dX3_init_1 rfl ls st H Q
theorem r5_4 : sw_A 5 4 ls st H Q = (sw_lda False ls 0 fun x => sw_A 5 5 ls (.ref x :: st) H Q) := sw_A_step (cc := cX3_init) rfl dX3_init_4 rfl ls st H Q
theorem r5_5 : sw_A 5 5 ls st H Q = (sw_A 5 7 ls (.int (Int32.ofInt 36) :: st) H Q) := sw_A_step (cc := cX3_init) rfl dX3_init_5 rfl ls st H Q
theorem r5_7 : sw_A 5 7 ls st H Q = (sw_i1 False st fun n r => sw_nw False H 0 n fun H1 => sw_A 5 9 ls (.ref H.2.1 :: r) H1 Q) := sw_A_step (cc := cX3_init) rfl dX3_init_7 rfl ls st H Q
theorem r5_9 : sw_A 5 9 ls st H Q = (sw_rv False st fun a v r => sw_pf False H (some (3, 0, 1)) 2 a v fun H1 => sw_A 5 12 ls r H1 Q) := sw_A_step (cc := cX3_init) rfl dX3_init_9 rfl ls st H Q
theorem r5_12 : sw_A 5 12 ls st H Q = (sw_lda False ls 0 fun x => sw_A 5 13 ls (.ref x :: st) H Q) := sw_A_step (cc := cX3_init) rfl dX3_init_12 rfl ls st H Q
theorem r5_13 : sw_A 5 13 ls st H Q = (sw_A 5 15 ls (.int (Int32.ofInt 36) :: st) H Q) := sw_A_step (cc := cX3_init) rfl dX3_init_13 rfl ls st H Q
theorem r5_15 : sw_A 5 15 ls st H Q = (sw_i1 False st fun n r => sw_nw False H 1 n fun H1 => sw_A 5 17 ls (.ref H.2.1 :: r) H1 Q) := sw_A_step (cc := cX3_init) rfl dX3_init_15 rfl ls st H Q
theorem r5_17 : sw_A 5 17 ls st H Q = (sw_rv False st fun a v r => sw_pf False H (some (3, 1, 1)) 2 a v fun H1 => sw_A 5 20 ls r H1 Q) := sw_A_step (cc := cX3_init) rfl dX3_init_17 rfl ls st H Q
theorem r5_20 : sw_A 5 20 ls st H Q = (match st with | [] => Q (some none) H | _ => False) := sw_A_step (cc := cX3_init) rfl dX3_init_20 rfl ls st H Q
theorem r6_0 : sw_A 6 0 ls st H Q = (sw_lda False ls 0 fun x => sw_A 6 1 ls (.ref x :: st) H Q) := sw_A_step (cc := cX2_init) rfl dX2_init_0 rfl ls st H Q
theorem r6_1 : sw_A 6 1 ls st H Q = (sw_r1 False st fun _ r => sw_ck False r (sw_A 6 4 ls r H Q)) := sw_A_step (cc := cX2_init) rfl dX2_init_1 rfl ls st H Q
theorem r6_4 : sw_A 6 4 ls st H Q = (sw_lda False ls 0 fun x => sw_A 6 5 ls (.ref x :: st) H Q) := sw_A_step (cc := cX2_init) rfl dX2_init_4 rfl ls st H Q
theorem r6_5 : sw_A 6 5 ls st H Q = (sw_A 6 7 ls (.int (Int32.ofInt 38) :: st) H Q) := sw_A_step (cc := cX2_init) rfl dX2_init_5 rfl ls st H Q
theorem r6_7 : sw_A 6 7 ls st H Q = (sw_i1 False st fun n r => sw_nw False H 0 n fun H1 => sw_A 6 9 ls (.ref H.2.1 :: r) H1 Q) := sw_A_step (cc := cX2_init) rfl dX2_init_7 rfl ls st H Q
theorem r6_9 : sw_A 6 9 ls st H Q = (sw_rv False st fun a v r => sw_pf False H (some (2, 0, 1)) 2 a v fun H1 => sw_A 6 12 ls r H1 Q) := sw_A_step (cc := cX2_init) rfl dX2_init_9 rfl ls st H Q
theorem r6_12 : sw_A 6 12 ls st H Q = (sw_lda False ls 0 fun x => sw_A 6 13 ls (.ref x :: st) H Q) := sw_A_step (cc := cX2_init) rfl dX2_init_12 rfl ls st H Q
theorem r6_13 : sw_A 6 13 ls st H Q = (sw_A 6 15 ls (.int (Int32.ofInt 60) :: st) H Q) := sw_A_step (cc := cX2_init) rfl dX2_init_13 rfl ls st H Q
theorem r6_15 : sw_A 6 15 ls st H Q = (sw_i1 False st fun n r => sw_nw False H 1 n fun H1 => sw_A 6 17 ls (.ref H.2.1 :: r) H1 Q) := sw_A_step (cc := cX2_init) rfl dX2_init_15 rfl ls st H Q
theorem r6_17 : sw_A 6 17 ls st H Q = (sw_rv False st fun a v r => sw_pf False H (some (2, 1, 1)) 2 a v fun H1 => sw_A 6 20 ls r H1 Q) := sw_A_step (cc := cX2_init) rfl dX2_init_17 rfl ls st H Q
theorem r6_20 : sw_A 6 20 ls st H Q = (sw_lda False ls 0 fun x => sw_A 6 21 ls (.ref x :: st) H Q) := sw_A_step (cc := cX2_init) rfl dX2_init_20 rfl ls st H Q
theorem r6_21 : sw_A 6 21 ls st H Q = (sw_A 6 24 ls (.ref H.2.1 :: st) (sw_mk H (.inl (3, sw_df 3)) 2) Q) := sw_A_step (cc := cX2_init) rfl dX2_init_21 rfl ls st H Q
theorem r6_24 : sw_A 6 24 ls st H Q = (sw_r1 False st fun a r => sw_A 6 25 ls (.ref a :: .ref a :: r) H Q) := sw_A_step (cc := cX2_init) rfl dX2_init_24 rfl ls st H Q
theorem r6_25 : sw_A 6 25 ls st H Q = (sw_pop False 1 st [] fun args r => sw_ck False r (sw_rr False args (sw_M 5 args H (sw_K 6 28 none ls r Q)))) := sw_A_step (cc := cX2_init) rfl dX2_init_25 rfl ls st H Q
theorem r6_28 : sw_A 6 28 ls st H Q = (sw_rv False st fun a v r => sw_pf False H (some (2, 2, 1)) 2 a v fun H1 => sw_A 6 31 ls r H1 Q) := sw_A_step (cc := cX2_init) rfl dX2_init_28 rfl ls st H Q
theorem r6_31 : sw_A 6 31 ls st H Q = (match st with | [] => Q (some none) H | _ => False) := sw_A_step (cc := cX2_init) rfl dX2_init_31 rfl ls st H Q
theorem r7_0 : sw_A 7 0 ls st H Q = (sw_lda False ls 0 fun x => sw_A 7 1 ls (.ref x :: st) H Q) := sw_A_step (cc := cX0_init) rfl dX0_init_0 rfl ls st H Q
theorem r7_1 : sw_A 7 1 ls st H Q = (sw_r1 False st fun _ r => sw_ck False r (sw_A 7 4 ls r H Q)) := sw_A_step (cc := cX0_init) rfl dX0_init_1 rfl ls st H Q
theorem r7_4 : sw_A 7 4 ls st H Q = (sw_lda False ls 0 fun x => sw_A 7 5 ls (.ref x :: st) H Q) := sw_A_step (cc := cX0_init) rfl dX0_init_4 rfl ls st H Q
theorem r7_5 : sw_A 7 5 ls st H Q = (sw_A 7 7 ls (.int (Int32.ofInt 24) :: st) H Q) := sw_A_step (cc := cX0_init) rfl dX0_init_5 rfl ls st H Q
theorem r7_7 : sw_A 7 7 ls st H Q = (sw_i1 False st fun n r => sw_nw False H 0 n fun H1 => sw_A 7 9 ls (.ref H.2.1 :: r) H1 Q) := sw_A_step (cc := cX0_init) rfl dX0_init_7 rfl ls st H Q
theorem r7_9 : sw_A 7 9 ls st H Q = (sw_rv False st fun a v r => sw_pf False H (some (0, 0, 1)) 2 a v fun H1 => sw_A 7 12 ls r H1 Q) := sw_A_step (cc := cX0_init) rfl dX0_init_9 rfl ls st H Q
theorem r7_12 : sw_A 7 12 ls st H Q = (sw_lda False ls 0 fun x => sw_A 7 13 ls (.ref x :: st) H Q) := sw_A_step (cc := cX0_init) rfl dX0_init_12 rfl ls st H Q
theorem r7_13 : sw_A 7 13 ls st H Q = (sw_A 7 15 ls (.int (Int32.ofInt 16) :: st) H Q) := sw_A_step (cc := cX0_init) rfl dX0_init_13 rfl ls st H Q
theorem r7_15 : sw_A 7 15 ls st H Q = (sw_i1 False st fun n r => sw_nw False H 0 n fun H1 => sw_A 7 17 ls (.ref H.2.1 :: r) H1 Q) := sw_A_step (cc := cX0_init) rfl dX0_init_15 rfl ls st H Q
theorem r7_17 : sw_A 7 17 ls st H Q = (sw_rv False st fun a v r => sw_pf False H (some (0, 1, 1)) 2 a v fun H1 => sw_A 7 20 ls r H1 Q) := sw_A_step (cc := cX0_init) rfl dX0_init_17 rfl ls st H Q
theorem r7_20 : sw_A 7 20 ls st H Q = (match st with | [] => Q (some none) H | _ => False) := sw_A_step (cc := cX0_init) rfl dX0_init_20 rfl ls st H Q
theorem r8_0 : sw_A 8 0 ls st H Q = (sw_lda False ls 0 fun x => sw_A 8 1 ls (.ref x :: st) H Q) := sw_A_step (cc := cX6_init) rfl dX6_init_0 rfl ls st H Q
theorem r8_1 : sw_A 8 1 ls st H Q = (sw_r1 False st fun _ r => sw_ck False r (sw_A 8 4 ls r H Q)) := sw_A_step (cc := cX6_init) rfl dX6_init_1 rfl ls st H Q
theorem r8_4 : sw_A 8 4 ls st H Q = (sw_lda False ls 0 fun x => sw_A 8 5 ls (.ref x :: st) H Q) := sw_A_step (cc := cX6_init) rfl dX6_init_4 rfl ls st H Q
theorem r8_5 : sw_A 8 5 ls st H Q = (sw_A 8 7 ls (.int (Int32.ofInt 36) :: st) H Q) := sw_A_step (cc := cX6_init) rfl dX6_init_5 rfl ls st H Q
theorem r8_7 : sw_A 8 7 ls st H Q = (sw_i1 False st fun n r => sw_nw False H 1 n fun H1 => sw_A 8 9 ls (.ref H.2.1 :: r) H1 Q) := sw_A_step (cc := cX6_init) rfl dX6_init_7 rfl ls st H Q
theorem r8_9 : sw_A 8 9 ls st H Q = (sw_rv False st fun a v r => sw_pf False H (some (6, 0, 1)) 2 a v fun H1 => sw_A 8 12 ls r H1 Q) := sw_A_step (cc := cX6_init) rfl dX6_init_9 rfl ls st H Q
theorem r8_12 : sw_A 8 12 ls st H Q = (match st with | [] => Q (some none) H | _ => False) := sw_A_step (cc := cX6_init) rfl dX6_init_12 rfl ls st H Q
theorem r9_0 : sw_A 9 0 ls st H Q = (sw_A 9 1 ls (.int (Int32.ofInt 0) :: st) H Q) := sw_A_step (cc := cJ7_fill_53178) rfl dJ7_fill_53178_0 rfl ls st H Q
theorem r9_1 : sw_A 9 1 ls st H Q = (sw_has1 False ls 2 (sw_i1 False st fun x r => sw_A 9 2 (sw_set1 ls 2 (.int x)) r H Q)) := sw_A_step (cc := cJ7_fill_53178) rfl dJ7_fill_53178_1 rfl ls st H Q
theorem r9_2 : sw_A 9 2 ls st H Q = (sw_lda False ls 0 fun x => sw_A 9 3 ls (.ref x :: st) H Q) := sw_A_step (cc := cJ7_fill_53178) rfl dJ7_fill_53178_2 rfl ls st H Q
theorem r9_3 : sw_A 9 3 ls st H Q = (sw_r1 False st fun a r => sw_aln False H a fun x => sw_A 9 4 ls (.int x :: r) H Q) := sw_A_step (cc := cJ7_fill_53178) rfl dJ7_fill_53178_3 rfl ls st H Q
theorem r9_4 : sw_A 9 4 ls st H Q = (sw_has1 False ls 3 (sw_i1 False st fun x r => sw_A 9 5 (sw_set1 ls 3 (.int x)) r H Q)) := sw_A_step (cc := cJ7_fill_53178) rfl dJ7_fill_53178_4 rfl ls st H Q
theorem r9_5 : sw_A 9 5 ls st H Q = (sw_ldi False ls 2 fun x => sw_A 9 6 ls (.int x :: st) H Q) := sw_A_step (cc := cJ7_fill_53178) rfl dJ7_fill_53178_5 rfl ls st H Q
theorem r9_6 : sw_A 9 6 ls st H Q = (sw_ldi False ls 3 fun x => sw_A 9 7 ls (.int x :: st) H Q) := sw_A_step (cc := cJ7_fill_53178) rfl dJ7_fill_53178_6 rfl ls st H Q
theorem r9_7 : sw_A 9 7 ls st H Q = (sw_i2 False st fun x y r => if y ≤ x then sw_A 9 20 ls r H Q else sw_A 9 10 ls r H Q) := sw_A_step (cc := cJ7_fill_53178) rfl dJ7_fill_53178_7 rfl ls st H Q
theorem r9_10 : sw_A 9 10 ls st H Q = (sw_lda False ls 0 fun x => sw_A 9 11 ls (.ref x :: st) H Q) := sw_A_step (cc := cJ7_fill_53178) rfl dJ7_fill_53178_10 rfl ls st H Q
theorem r9_11 : sw_A 9 11 ls st H Q = (sw_ldi False ls 2 fun x => sw_A 9 12 ls (.int x :: st) H Q) := sw_A_step (cc := cJ7_fill_53178) rfl dJ7_fill_53178_11 rfl ls st H Q
theorem r9_12 : sw_A 9 12 ls st H Q = (sw_ldi False ls 1 fun x => sw_A 9 13 ls (.int x :: st) H Q) := sw_A_step (cc := cJ7_fill_53178) rfl dJ7_fill_53178_12 rfl ls st H Q
theorem r9_13 : sw_A 9 13 ls st H Q = (sw_rix False st fun a i x r => sw_ast False H 0 a i x fun H1 => sw_A 9 14 ls r H1 Q) := sw_A_step (cc := cJ7_fill_53178) rfl dJ7_fill_53178_13 rfl ls st H Q
theorem r9_14 : sw_A 9 14 ls st H Q = (sw_ldi False ls 2 fun x => sw_A 9 17 (sw_set1 ls 2 (.int (x + Int32.ofInt 1))) st H Q) := sw_A_step (cc := cJ7_fill_53178) rfl dJ7_fill_53178_14 rfl ls st H Q
theorem r9_17 : sw_A 9 17 ls st H Q = (sw_A 9 5 ls st H Q) := sw_A_step (cc := cJ7_fill_53178) rfl dJ7_fill_53178_17 rfl ls st H Q
theorem r9_20 : sw_A 9 20 ls st H Q = (match st with | [] => Q (some none) H | _ => False) := sw_A_step (cc := cJ7_fill_53178) rfl dJ7_fill_53178_20 rfl ls st H Q
theorem r10_0 : sw_A 10 0 ls st H Q = (sw_lda False ls 0 fun x => sw_A 10 1 ls (.ref x :: st) H Q) := sw_A_step (cc := cX1_init) rfl dX1_init_0 rfl ls st H Q
theorem r10_1 : sw_A 10 1 ls st H Q = (sw_r1 False st fun _ r => sw_ck False r (sw_A 10 4 ls r H Q)) := sw_A_step (cc := cX1_init) rfl dX1_init_1 rfl ls st H Q
theorem r10_4 : sw_A 10 4 ls st H Q = (sw_lda False ls 0 fun x => sw_A 10 5 ls (.ref x :: st) H Q) := sw_A_step (cc := cX1_init) rfl dX1_init_4 rfl ls st H Q
theorem r10_5 : sw_A 10 5 ls st H Q = (sw_A 10 7 ls (.int (Int32.ofInt 12) :: st) H Q) := sw_A_step (cc := cX1_init) rfl dX1_init_5 rfl ls st H Q
theorem r10_7 : sw_A 10 7 ls st H Q = (sw_i1 False st fun n r => sw_nw False H 0 n fun H1 => sw_A 10 9 ls (.ref H.2.1 :: r) H1 Q) := sw_A_step (cc := cX1_init) rfl dX1_init_7 rfl ls st H Q
theorem r10_9 : sw_A 10 9 ls st H Q = (sw_rv False st fun a v r => sw_pf False H (some (1, 0, 1)) 2 a v fun H1 => sw_A 10 12 ls r H1 Q) := sw_A_step (cc := cX1_init) rfl dX1_init_9 rfl ls st H Q
theorem r10_12 : sw_A 10 12 ls st H Q = (sw_lda False ls 0 fun x => sw_A 10 13 ls (.ref x :: st) H Q) := sw_A_step (cc := cX1_init) rfl dX1_init_12 rfl ls st H Q
theorem r10_13 : sw_A 10 13 ls st H Q = (sw_A 10 15 ls (.int (Int32.ofInt 12) :: st) H Q) := sw_A_step (cc := cX1_init) rfl dX1_init_13 rfl ls st H Q
theorem r10_15 : sw_A 10 15 ls st H Q = (sw_i1 False st fun n r => sw_nw False H 1 n fun H1 => sw_A 10 17 ls (.ref H.2.1 :: r) H1 Q) := sw_A_step (cc := cX1_init) rfl dX1_init_15 rfl ls st H Q
theorem r10_17 : sw_A 10 17 ls st H Q = (sw_rv False st fun a v r => sw_pf False H (some (1, 1, 1)) 2 a v fun H1 => sw_A 10 20 ls r H1 Q) := sw_A_step (cc := cX1_init) rfl dX1_init_17 rfl ls st H Q
theorem r10_20 : sw_A 10 20 ls st H Q = (sw_lda False ls 0 fun x => sw_A 10 21 ls (.ref x :: st) H Q) := sw_A_step (cc := cX1_init) rfl dX1_init_20 rfl ls st H Q
theorem r10_21 : sw_A 10 21 ls st H Q = (sw_A 10 23 ls (.int (Int32.ofInt 12) :: st) H Q) := sw_A_step (cc := cX1_init) rfl dX1_init_21 rfl ls st H Q
theorem r10_23 : sw_A 10 23 ls st H Q = (sw_i1 False st fun n r => sw_nw False H 1 n fun H1 => sw_A 10 25 ls (.ref H.2.1 :: r) H1 Q) := sw_A_step (cc := cX1_init) rfl dX1_init_23 rfl ls st H Q
theorem r10_25 : sw_A 10 25 ls st H Q = (sw_rv False st fun a v r => sw_pf False H (some (1, 2, 1)) 2 a v fun H1 => sw_A 10 28 ls r H1 Q) := sw_A_step (cc := cX1_init) rfl dX1_init_25 rfl ls st H Q
theorem r10_28 : sw_A 10 28 ls st H Q = (sw_lda False ls 0 fun x => sw_A 10 29 ls (.ref x :: st) H Q) := sw_A_step (cc := cX1_init) rfl dX1_init_28 rfl ls st H Q
theorem r10_29 : sw_A 10 29 ls st H Q = (sw_A 10 31 ls (.int (Int32.ofInt 12) :: st) H Q) := sw_A_step (cc := cX1_init) rfl dX1_init_29 rfl ls st H Q
theorem r10_31 : sw_A 10 31 ls st H Q = (sw_i1 False st fun n r => sw_nw False H 0 n fun H1 => sw_A 10 33 ls (.ref H.2.1 :: r) H1 Q) := sw_A_step (cc := cX1_init) rfl dX1_init_31 rfl ls st H Q
theorem r10_33 : sw_A 10 33 ls st H Q = (sw_rv False st fun a v r => sw_pf False H (some (1, 3, 1)) 2 a v fun H1 => sw_A 10 36 ls r H1 Q) := sw_A_step (cc := cX1_init) rfl dX1_init_33 rfl ls st H Q
theorem r10_36 : sw_A 10 36 ls st H Q = (sw_lda False ls 0 fun x => sw_A 10 37 ls (.ref x :: st) H Q) := sw_A_step (cc := cX1_init) rfl dX1_init_36 rfl ls st H Q
theorem r10_37 : sw_A 10 37 ls st H Q = (sw_r1 False st fun a r => sw_gf False H (some (1, 0, 1)) a fun v => sw_A 10 40 ls (v :: r) H Q) := sw_A_step (cc := cX1_init) rfl dX1_init_37 rfl ls st H Q
theorem r10_40 : sw_A 10 40 ls st H Q = (sw_A 10 42 ls (.int (Int32.ofInt 100) :: st) H Q) := sw_A_step (cc := cX1_init) rfl dX1_init_40 rfl ls st H Q
theorem r10_42 : sw_A 10 42 ls st H Q = (sw_pop False 2 st [] fun args r => sw_ck False r (sw_M 9 args H (sw_K 10 45 none ls r Q))) := sw_A_step (cc := cX1_init) rfl dX1_init_42 rfl ls st H Q
theorem r10_45 : sw_A 10 45 ls st H Q = (match st with | [] => Q (some none) H | _ => False) := sw_A_step (cc := cX1_init) rfl dX1_init_45 rfl ls st H Q
theorem r11_0 : sw_A 11 0 ls st H Q = (sw_lda False ls 0 fun x => sw_A 11 1 ls (.ref x :: st) H Q) := sw_A_step (cc := cX5_init) rfl dX5_init_0 rfl ls st H Q
theorem r11_1 : sw_A 11 1 ls st H Q = (sw_r1 False st fun _ r => sw_ck False r (sw_A 11 4 ls r H Q)) := sw_A_step (cc := cX5_init) rfl dX5_init_1 rfl ls st H Q
theorem r11_4 : sw_A 11 4 ls st H Q = (sw_lda False ls 0 fun x => sw_A 11 5 ls (.ref x :: st) H Q) := sw_A_step (cc := cX5_init) rfl dX5_init_4 rfl ls st H Q
theorem r11_5 : sw_A 11 5 ls st H Q = (sw_A 11 7 ls (.int (Int32.ofInt 36) :: st) H Q) := sw_A_step (cc := cX5_init) rfl dX5_init_5 rfl ls st H Q
theorem r11_7 : sw_A 11 7 ls st H Q = (sw_i1 False st fun n r => sw_nw False H 1 n fun H1 => sw_A 11 9 ls (.ref H.2.1 :: r) H1 Q) := sw_A_step (cc := cX5_init) rfl dX5_init_7 rfl ls st H Q
theorem r11_9 : sw_A 11 9 ls st H Q = (sw_rv False st fun a v r => sw_pf False H (some (5, 0, 1)) 2 a v fun H1 => sw_A 11 12 ls r H1 Q) := sw_A_step (cc := cX5_init) rfl dX5_init_9 rfl ls st H Q
theorem r11_12 : sw_A 11 12 ls st H Q = (sw_lda False ls 0 fun x => sw_A 11 13 ls (.ref x :: st) H Q) := sw_A_step (cc := cX5_init) rfl dX5_init_12 rfl ls st H Q
theorem r11_13 : sw_A 11 13 ls st H Q = (sw_A 11 15 ls (.int (Int32.ofInt 36) :: st) H Q) := sw_A_step (cc := cX5_init) rfl dX5_init_13 rfl ls st H Q
theorem r11_15 : sw_A 11 15 ls st H Q = (sw_i1 False st fun n r => sw_nw False H 1 n fun H1 => sw_A 11 17 ls (.ref H.2.1 :: r) H1 Q) := sw_A_step (cc := cX5_init) rfl dX5_init_15 rfl ls st H Q
theorem r11_17 : sw_A 11 17 ls st H Q = (sw_rv False st fun a v r => sw_pf False H (some (5, 1, 1)) 2 a v fun H1 => sw_A 11 20 ls r H1 Q) := sw_A_step (cc := cX5_init) rfl dX5_init_17 rfl ls st H Q
theorem r11_20 : sw_A 11 20 ls st H Q = (sw_lda False ls 0 fun x => sw_A 11 21 ls (.ref x :: st) H Q) := sw_A_step (cc := cX5_init) rfl dX5_init_20 rfl ls st H Q
theorem r11_21 : sw_A 11 21 ls st H Q = (sw_A 11 24 ls (.ref H.2.1 :: st) (sw_mk H (.inl (10, sw_df 10)) 3) Q) := sw_A_step (cc := cX5_init) rfl dX5_init_21 rfl ls st H Q
theorem r11_24 : sw_A 11 24 ls st H Q = (sw_r1 False st fun a r => sw_A 11 25 ls (.ref a :: .ref a :: r) H Q) := sw_A_step (cc := cX5_init) rfl dX5_init_24 rfl ls st H Q
theorem r11_25 : sw_A 11 25 ls st H Q = (sw_pop False 1 st [] fun args r => sw_ck False r (sw_rr False args (sw_M 1 args H (sw_K 11 28 none ls r Q)))) := sw_A_step (cc := cX5_init) rfl dX5_init_25 rfl ls st H Q
theorem r11_28 : sw_A 11 28 ls st H Q = (sw_rv False st fun a v r => sw_pf False H (some (5, 2, 1)) 2 a v fun H1 => sw_A 11 31 ls r H1 Q) := sw_A_step (cc := cX5_init) rfl dX5_init_28 rfl ls st H Q
theorem r11_31 : sw_A 11 31 ls st H Q = (match st with | [] => Q (some none) H | _ => False) := sw_A_step (cc := cX5_init) rfl dX5_init_31 rfl ls st H Q
theorem r12_0 : sw_A 12 0 ls st H Q = (sw_lda False ls 0 fun x => sw_A 12 1 ls (.ref x :: st) H Q) := sw_A_step (cc := cJ5_init_d00df) rfl dJ5_init_d00df_0 rfl ls st H Q
theorem r12_1 : sw_A 12 1 ls st H Q = (sw_r1 False st fun _ r => sw_ck False r (sw_A 12 4 ls r H Q)) := sw_A_step (cc := cJ5_init_d00df) rfl dJ5_init_d00df_1 rfl ls st H Q
theorem r12_4 : sw_A 12 4 ls st H Q = (sw_A 12 7 ls (.int 1 :: st) H Q) := sw_A_step (cc := cJ5_init_d00df) rfl dJ5_init_d00df_4 rfl ls st H Q
theorem r12_7 : sw_A 12 7 ls st H Q = (sw_i1 False st fun x r => if x = 0 then sw_A 12 25 ls r H Q else sw_A 12 10 ls r H Q) := sw_A_step (cc := cJ5_init_d00df) rfl dJ5_init_d00df_7 rfl ls st H Q
theorem r12_10 : sw_A 12 10 ls st H Q = (sw_lda False ls 0 fun x => sw_A 12 11 ls (.ref x :: st) H Q) := sw_A_step (cc := cJ5_init_d00df) rfl dJ5_init_d00df_10 rfl ls st H Q
theorem r12_11 : sw_A 12 11 ls st H Q = (sw_ldi False ls 1 fun x => sw_A 12 12 ls (.int x :: st) H Q) := sw_A_step (cc := cJ5_init_d00df) rfl dJ5_init_d00df_11 rfl ls st H Q
theorem r12_12 : sw_A 12 12 ls st H Q = (sw_i1 False st fun n r => sw_nw False H 2 n fun H1 => sw_A 12 14 ls (.ref H.2.1 :: r) H1 Q) := sw_A_step (cc := cJ5_init_d00df) rfl dJ5_init_d00df_12 rfl ls st H Q
theorem r12_14 : sw_A 12 14 ls st H Q = (sw_rv False st fun a v r => sw_pf False H (some (12, 0, 4)) 2 a v fun H1 => sw_A 12 17 ls r H1 Q) := sw_A_step (cc := cJ5_init_d00df) rfl dJ5_init_d00df_14 rfl ls st H Q
theorem r12_17 : sw_A 12 17 ls st H Q = (sw_lda False ls 0 fun x => sw_A 12 18 ls (.ref x :: st) H Q) := sw_A_step (cc := cJ5_init_d00df) rfl dJ5_init_d00df_17 rfl ls st H Q
theorem r12_18 : sw_A 12 18 ls st H Q = (sw_A 12 19 ls (.int (Int32.ofInt 0) :: st) H Q) := sw_A_step (cc := cJ5_init_d00df) rfl dJ5_init_d00df_18 rfl ls st H Q
theorem r12_19 : sw_A 12 19 ls st H Q = (sw_rv False st fun a v r => sw_pf False H (some (12, 1, 2)) 2 a v fun H1 => sw_A 12 22 ls r H1 Q) := sw_A_step (cc := cJ5_init_d00df) rfl dJ5_init_d00df_19 rfl ls st H Q
theorem r12_22 : sw_A 12 22 ls st H Q = (sw_A 12 38 ls st H Q) := sw_A_step (cc := cJ5_init_d00df) rfl dJ5_init_d00df_22 rfl ls st H Q
theorem r12_25 : sw_A 12 25 ls st H Q = (sw_lda False ls 0 fun x => sw_A 12 26 ls (.ref x :: st) H Q) := sw_A_step (cc := cJ5_init_d00df) rfl dJ5_init_d00df_25 rfl ls st H Q
theorem r12_26 : sw_A 12 26 ls st H Q = (sw_ldi False ls 1 fun x => sw_A 12 27 ls (.int x :: st) H Q) := sw_A_step (cc := cJ5_init_d00df) rfl dJ5_init_d00df_26 rfl ls st H Q
theorem r12_27 : sw_A 12 27 ls st H Q = (False) := sw_A_step (cc := cJ5_init_d00df) rfl dJ5_init_d00df_27 rfl ls st H Q
theorem r12_30 : sw_A 12 30 ls st H Q = (sw_rv False st fun a v r => sw_pf False H (some (12, 0, 4)) 2 a v fun H1 => sw_A 12 33 ls r H1 Q) := sw_A_step (cc := cJ5_init_d00df) rfl dJ5_init_d00df_30 rfl ls st H Q
theorem r12_33 : sw_A 12 33 ls st H Q = (sw_lda False ls 0 fun x => sw_A 12 34 ls (.ref x :: st) H Q) := sw_A_step (cc := cJ5_init_d00df) rfl dJ5_init_d00df_33 rfl ls st H Q
theorem r12_34 : sw_A 12 34 ls st H Q = (sw_A 12 35 ls (.int (Int32.ofInt 1) :: st) H Q) := sw_A_step (cc := cJ5_init_d00df) rfl dJ5_init_d00df_34 rfl ls st H Q
theorem r12_35 : sw_A 12 35 ls st H Q = (sw_rv False st fun a v r => sw_pf False H (some (12, 1, 2)) 2 a v fun H1 => sw_A 12 38 ls r H1 Q) := sw_A_step (cc := cJ5_init_d00df) rfl dJ5_init_d00df_35 rfl ls st H Q
theorem r12_38 : sw_A 12 38 ls st H Q = (match st with | [] => Q (some none) H | _ => False) := sw_A_step (cc := cJ5_init_d00df) rfl dJ5_init_d00df_38 rfl ls st H Q
theorem r13_0 : sw_A 13 0 ls st H Q = (sw_lda False ls 0 fun x => sw_A 13 1 ls (.ref x :: st) H Q) := sw_A_step (cc := cJ4_init_da8c8) rfl dJ4_init_da8c8_0 rfl ls st H Q
theorem r13_1 : sw_A 13 1 ls st H Q = (sw_A 13 3 ls (.int (Int32.ofInt 16) :: st) H Q) := sw_A_step (cc := cJ4_init_da8c8) rfl dJ4_init_da8c8_1 rfl ls st H Q
theorem r13_3 : sw_A 13 3 ls st H Q = (sw_pop False 2 st [] fun args r => sw_ck False r (sw_rr False args (sw_M 12 args H (sw_K 13 6 none ls r Q)))) := sw_A_step (cc := cJ4_init_da8c8) rfl dJ4_init_da8c8_3 rfl ls st H Q
theorem r13_6 : sw_A 13 6 ls st H Q = (match st with | [] => Q (some none) H | _ => False) := sw_A_step (cc := cJ4_init_da8c8) rfl dJ4_init_da8c8_6 rfl ls st H Q
theorem r14_0 : sw_A 14 0 ls st H Q = (sw_lda False ls 0 fun x => sw_A 14 1 ls (.ref x :: st) H Q) := sw_A_step (cc := cX11_init) rfl dX11_init_0 rfl ls st H Q
theorem r14_1 : sw_A 14 1 ls st H Q = (sw_r1 False st fun _ r => sw_ck False r (sw_A 14 4 ls r H Q)) := sw_A_step (cc := cX11_init) rfl dX11_init_1 rfl ls st H Q
theorem r14_4 : sw_A 14 4 ls st H Q = (sw_lda False ls 0 fun x => sw_A 14 5 ls (.ref x :: st) H Q) := sw_A_step (cc := cX11_init) rfl dX11_init_4 rfl ls st H Q
theorem r14_5 : sw_A 14 5 ls st H Q = (sw_A 14 8 ls (.ref H.2.1 :: st) (sw_mk H (.inl (8, sw_df 8)) 2) Q) := sw_A_step (cc := cX11_init) rfl dX11_init_5 rfl ls st H Q
theorem r14_8 : sw_A 14 8 ls st H Q = (sw_r1 False st fun a r => sw_A 14 9 ls (.ref a :: .ref a :: r) H Q) := sw_A_step (cc := cX11_init) rfl dX11_init_8 rfl ls st H Q
theorem r14_9 : sw_A 14 9 ls st H Q = (sw_pop False 1 st [] fun args r => sw_ck False r (sw_rr False args (sw_M 0 args H (sw_K 14 12 none ls r Q)))) := sw_A_step (cc := cX11_init) rfl dX11_init_9 rfl ls st H Q
theorem r14_12 : sw_A 14 12 ls st H Q = (sw_rv False st fun a v r => sw_pf False H (some (11, 0, 1)) 2 a v fun H1 => sw_A 14 15 ls r H1 Q) := sw_A_step (cc := cX11_init) rfl dX11_init_12 rfl ls st H Q
theorem r14_15 : sw_A 14 15 ls st H Q = (sw_lda False ls 0 fun x => sw_A 14 16 ls (.ref x :: st) H Q) := sw_A_step (cc := cX11_init) rfl dX11_init_15 rfl ls st H Q
theorem r14_16 : sw_A 14 16 ls st H Q = (sw_A 14 19 ls (.ref H.2.1 :: st) (sw_mk H (.inl (8, sw_df 8)) 2) Q) := sw_A_step (cc := cX11_init) rfl dX11_init_16 rfl ls st H Q
theorem r14_19 : sw_A 14 19 ls st H Q = (sw_r1 False st fun a r => sw_A 14 20 ls (.ref a :: .ref a :: r) H Q) := sw_A_step (cc := cX11_init) rfl dX11_init_19 rfl ls st H Q
theorem r14_20 : sw_A 14 20 ls st H Q = (sw_pop False 1 st [] fun args r => sw_ck False r (sw_rr False args (sw_M 0 args H (sw_K 14 23 none ls r Q)))) := sw_A_step (cc := cX11_init) rfl dX11_init_20 rfl ls st H Q
theorem r14_23 : sw_A 14 23 ls st H Q = (sw_rv False st fun a v r => sw_pf False H (some (11, 1, 1)) 2 a v fun H1 => sw_A 14 26 ls r H1 Q) := sw_A_step (cc := cX11_init) rfl dX11_init_23 rfl ls st H Q
theorem r14_26 : sw_A 14 26 ls st H Q = (sw_lda False ls 0 fun x => sw_A 14 27 ls (.ref x :: st) H Q) := sw_A_step (cc := cX11_init) rfl dX11_init_26 rfl ls st H Q
theorem r14_27 : sw_A 14 27 ls st H Q = (sw_A 14 30 ls (.ref H.2.1 :: st) (sw_mk H (.inl (7, sw_df 7)) 9) Q) := sw_A_step (cc := cX11_init) rfl dX11_init_27 rfl ls st H Q
theorem r14_30 : sw_A 14 30 ls st H Q = (sw_r1 False st fun a r => sw_A 14 31 ls (.ref a :: .ref a :: r) H Q) := sw_A_step (cc := cX11_init) rfl dX11_init_30 rfl ls st H Q
theorem r14_31 : sw_A 14 31 ls st H Q = (sw_pop False 1 st [] fun args r => sw_ck False r (sw_rr False args (sw_M 2 args H (sw_K 14 34 none ls r Q)))) := sw_A_step (cc := cX11_init) rfl dX11_init_31 rfl ls st H Q
theorem r14_34 : sw_A 14 34 ls st H Q = (sw_rv False st fun a v r => sw_pf False H (some (11, 2, 1)) 2 a v fun H1 => sw_A 14 37 ls r H1 Q) := sw_A_step (cc := cX11_init) rfl dX11_init_34 rfl ls st H Q
theorem r14_37 : sw_A 14 37 ls st H Q = (sw_lda False ls 0 fun x => sw_A 14 38 ls (.ref x :: st) H Q) := sw_A_step (cc := cX11_init) rfl dX11_init_37 rfl ls st H Q
theorem r14_38 : sw_A 14 38 ls st H Q = (sw_A 14 41 ls (.ref H.2.1 :: st) (sw_mk H (.inl (9, sw_df 9)) 7) Q) := sw_A_step (cc := cX11_init) rfl dX11_init_38 rfl ls st H Q
theorem r14_41 : sw_A 14 41 ls st H Q = (sw_r1 False st fun a r => sw_A 14 42 ls (.ref a :: .ref a :: r) H Q) := sw_A_step (cc := cX11_init) rfl dX11_init_41 rfl ls st H Q
theorem r14_42 : sw_A 14 42 ls st H Q = (sw_pop False 1 st [] fun args r => sw_ck False r (sw_rr False args (sw_M 3 args H (sw_K 14 45 none ls r Q)))) := sw_A_step (cc := cX11_init) rfl dX11_init_42 rfl ls st H Q
theorem r14_45 : sw_A 14 45 ls st H Q = (sw_rv False st fun a v r => sw_pf False H (some (11, 3, 1)) 2 a v fun H1 => sw_A 14 48 ls r H1 Q) := sw_A_step (cc := cX11_init) rfl dX11_init_45 rfl ls st H Q
theorem r14_48 : sw_A 14 48 ls st H Q = (sw_lda False ls 0 fun x => sw_A 14 49 ls (.ref x :: st) H Q) := sw_A_step (cc := cX11_init) rfl dX11_init_48 rfl ls st H Q
theorem r14_49 : sw_A 14 49 ls st H Q = (sw_A 14 52 ls (.ref H.2.1 :: st) (sw_mk H (.inl (4, sw_df 4)) 4) Q) := sw_A_step (cc := cX11_init) rfl dX11_init_49 rfl ls st H Q
theorem r14_52 : sw_A 14 52 ls st H Q = (sw_r1 False st fun a r => sw_A 14 53 ls (.ref a :: .ref a :: r) H Q) := sw_A_step (cc := cX11_init) rfl dX11_init_52 rfl ls st H Q
theorem r14_53 : sw_A 14 53 ls st H Q = (sw_pop False 1 st [] fun args r => sw_ck False r (sw_rr False args (sw_M 4 args H (sw_K 14 56 none ls r Q)))) := sw_A_step (cc := cX11_init) rfl dX11_init_53 rfl ls st H Q
theorem r14_56 : sw_A 14 56 ls st H Q = (sw_rv False st fun a v r => sw_pf False H (some (11, 4, 1)) 2 a v fun H1 => sw_A 14 59 ls r H1 Q) := sw_A_step (cc := cX11_init) rfl dX11_init_56 rfl ls st H Q
theorem r14_59 : sw_A 14 59 ls st H Q = (sw_lda False ls 0 fun x => sw_A 14 60 ls (.ref x :: st) H Q) := sw_A_step (cc := cX11_init) rfl dX11_init_59 rfl ls st H Q
theorem r14_60 : sw_A 14 60 ls st H Q = (sw_A 14 63 ls (.ref H.2.1 :: st) (sw_mk H (.inl (2, sw_df 2)) 3) Q) := sw_A_step (cc := cX11_init) rfl dX11_init_60 rfl ls st H Q
theorem r14_63 : sw_A 14 63 ls st H Q = (sw_r1 False st fun a r => sw_A 14 64 ls (.ref a :: .ref a :: r) H Q) := sw_A_step (cc := cX11_init) rfl dX11_init_63 rfl ls st H Q
theorem r14_64 : sw_A 14 64 ls st H Q = (sw_pop False 1 st [] fun args r => sw_ck False r (sw_rr False args (sw_M 6 args H (sw_K 14 67 none ls r Q)))) := sw_A_step (cc := cX11_init) rfl dX11_init_64 rfl ls st H Q
theorem r14_67 : sw_A 14 67 ls st H Q = (sw_rv False st fun a v r => sw_pf False H (some (11, 5, 1)) 2 a v fun H1 => sw_A 14 70 ls r H1 Q) := sw_A_step (cc := cX11_init) rfl dX11_init_67 rfl ls st H Q
theorem r14_70 : sw_A 14 70 ls st H Q = (sw_lda False ls 0 fun x => sw_A 14 71 ls (.ref x :: st) H Q) := sw_A_step (cc := cX11_init) rfl dX11_init_70 rfl ls st H Q
theorem r14_71 : sw_A 14 71 ls st H Q = (sw_A 14 74 ls (.ref H.2.1 :: st) (sw_mk H (.inl (0, sw_df 0)) 6) Q) := sw_A_step (cc := cX11_init) rfl dX11_init_71 rfl ls st H Q
theorem r14_74 : sw_A 14 74 ls st H Q = (sw_r1 False st fun a r => sw_A 14 75 ls (.ref a :: .ref a :: r) H Q) := sw_A_step (cc := cX11_init) rfl dX11_init_74 rfl ls st H Q
theorem r14_75 : sw_A 14 75 ls st H Q = (sw_pop False 1 st [] fun args r => sw_ck False r (sw_rr False args (sw_M 7 args H (sw_K 14 78 none ls r Q)))) := sw_A_step (cc := cX11_init) rfl dX11_init_75 rfl ls st H Q
theorem r14_78 : sw_A 14 78 ls st H Q = (sw_rv False st fun a v r => sw_pf False H (some (11, 6, 1)) 2 a v fun H1 => sw_A 14 81 ls r H1 Q) := sw_A_step (cc := cX11_init) rfl dX11_init_78 rfl ls st H Q
theorem r14_81 : sw_A 14 81 ls st H Q = (sw_lda False ls 0 fun x => sw_A 14 82 ls (.ref x :: st) H Q) := sw_A_step (cc := cX11_init) rfl dX11_init_81 rfl ls st H Q
theorem r14_82 : sw_A 14 82 ls st H Q = (sw_A 14 85 ls (.ref H.2.1 :: st) (sw_mk H (.inl (3, sw_df 3)) 2) Q) := sw_A_step (cc := cX11_init) rfl dX11_init_82 rfl ls st H Q
theorem r14_85 : sw_A 14 85 ls st H Q = (sw_r1 False st fun a r => sw_A 14 86 ls (.ref a :: .ref a :: r) H Q) := sw_A_step (cc := cX11_init) rfl dX11_init_85 rfl ls st H Q
theorem r14_86 : sw_A 14 86 ls st H Q = (sw_pop False 1 st [] fun args r => sw_ck False r (sw_rr False args (sw_M 5 args H (sw_K 14 89 none ls r Q)))) := sw_A_step (cc := cX11_init) rfl dX11_init_86 rfl ls st H Q
theorem r14_89 : sw_A 14 89 ls st H Q = (sw_rv False st fun a v r => sw_pf False H (some (11, 7, 1)) 2 a v fun H1 => sw_A 14 92 ls r H1 Q) := sw_A_step (cc := cX11_init) rfl dX11_init_89 rfl ls st H Q
theorem r14_92 : sw_A 14 92 ls st H Q = (sw_lda False ls 0 fun x => sw_A 14 93 ls (.ref x :: st) H Q) := sw_A_step (cc := cX11_init) rfl dX11_init_92 rfl ls st H Q
theorem r14_93 : sw_A 14 93 ls st H Q = (sw_A 14 96 ls (.ref H.2.1 :: st) (sw_mk H (.inl (6, sw_df 6)) 3) Q) := sw_A_step (cc := cX11_init) rfl dX11_init_93 rfl ls st H Q
theorem r14_96 : sw_A 14 96 ls st H Q = (sw_r1 False st fun a r => sw_A 14 97 ls (.ref a :: .ref a :: r) H Q) := sw_A_step (cc := cX11_init) rfl dX11_init_96 rfl ls st H Q
theorem r14_97 : sw_A 14 97 ls st H Q = (sw_pop False 1 st [] fun args r => sw_ck False r (sw_rr False args (sw_M 8 args H (sw_K 14 100 none ls r Q)))) := sw_A_step (cc := cX11_init) rfl dX11_init_97 rfl ls st H Q
theorem r14_100 : sw_A 14 100 ls st H Q = (sw_rv False st fun a v r => sw_pf False H (some (11, 8, 1)) 2 a v fun H1 => sw_A 14 103 ls r H1 Q) := sw_A_step (cc := cX11_init) rfl dX11_init_100 rfl ls st H Q
theorem r14_103 : sw_A 14 103 ls st H Q = (sw_lda False ls 0 fun x => sw_A 14 104 ls (.ref x :: st) H Q) := sw_A_step (cc := cX11_init) rfl dX11_init_103 rfl ls st H Q
theorem r14_104 : sw_A 14 104 ls st H Q = (sw_A 14 107 ls (.ref H.2.1 :: st) (sw_mk H (.inl (1, sw_df 1)) 5) Q) := sw_A_step (cc := cX11_init) rfl dX11_init_104 rfl ls st H Q
theorem r14_107 : sw_A 14 107 ls st H Q = (sw_r1 False st fun a r => sw_A 14 108 ls (.ref a :: .ref a :: r) H Q) := sw_A_step (cc := cX11_init) rfl dX11_init_107 rfl ls st H Q
theorem r14_108 : sw_A 14 108 ls st H Q = (sw_pop False 1 st [] fun args r => sw_ck False r (sw_rr False args (sw_M 10 args H (sw_K 14 111 none ls r Q)))) := sw_A_step (cc := cX11_init) rfl dX11_init_108 rfl ls st H Q
theorem r14_111 : sw_A 14 111 ls st H Q = (sw_rv False st fun a v r => sw_pf False H (some (11, 9, 1)) 2 a v fun H1 => sw_A 14 114 ls r H1 Q) := sw_A_step (cc := cX11_init) rfl dX11_init_111 rfl ls st H Q
theorem r14_114 : sw_A 14 114 ls st H Q = (sw_lda False ls 0 fun x => sw_A 14 115 ls (.ref x :: st) H Q) := sw_A_step (cc := cX11_init) rfl dX11_init_114 rfl ls st H Q
theorem r14_115 : sw_A 14 115 ls st H Q = (sw_A 14 118 ls (.ref H.2.1 :: st) (sw_mk H (.inl (5, sw_df 5)) 3) Q) := sw_A_step (cc := cX11_init) rfl dX11_init_115 rfl ls st H Q
theorem r14_118 : sw_A 14 118 ls st H Q = (sw_r1 False st fun a r => sw_A 14 119 ls (.ref a :: .ref a :: r) H Q) := sw_A_step (cc := cX11_init) rfl dX11_init_118 rfl ls st H Q
theorem r14_119 : sw_A 14 119 ls st H Q = (sw_pop False 1 st [] fun args r => sw_ck False r (sw_rr False args (sw_M 11 args H (sw_K 14 122 none ls r Q)))) := sw_A_step (cc := cX11_init) rfl dX11_init_119 rfl ls st H Q
theorem r14_122 : sw_A 14 122 ls st H Q = (sw_rv False st fun a v r => sw_pf False H (some (11, 10, 1)) 2 a v fun H1 => sw_A 14 125 ls r H1 Q) := sw_A_step (cc := cX11_init) rfl dX11_init_122 rfl ls st H Q
theorem r14_125 : sw_A 14 125 ls st H Q = (sw_lda False ls 0 fun x => sw_A 14 126 ls (.ref x :: st) H Q) := sw_A_step (cc := cX11_init) rfl dX11_init_125 rfl ls st H Q
theorem r14_126 : sw_A 14 126 ls st H Q = (sw_A 14 129 ls (.ref H.2.1 :: st) (sw_mk H (.inl (12, sw_df 12)) 4) Q) := sw_A_step (cc := cX11_init) rfl dX11_init_126 rfl ls st H Q
theorem r14_129 : sw_A 14 129 ls st H Q = (sw_r1 False st fun a r => sw_A 14 130 ls (.ref a :: .ref a :: r) H Q) := sw_A_step (cc := cX11_init) rfl dX11_init_129 rfl ls st H Q
theorem r14_130 : sw_A 14 130 ls st H Q = (sw_pop False 1 st [] fun args r => sw_ck False r (sw_rr False args (sw_M 13 args H (sw_K 14 133 none ls r Q)))) := sw_A_step (cc := cX11_init) rfl dX11_init_130 rfl ls st H Q
theorem r14_133 : sw_A 14 133 ls st H Q = (sw_rv False st fun a v r => sw_pf False H (some (11, 11, 1)) 2 a v fun H1 => sw_A 14 136 ls r H1 Q) := sw_A_step (cc := cX11_init) rfl dX11_init_133 rfl ls st H Q
theorem r14_136 : sw_A 14 136 ls st H Q = (match st with | [] => Q (some none) H | _ => False) := sw_A_step (cc := cX11_init) rfl dX11_init_136 rfl ls st H Q
theorem r15_0 : sw_A 15 0 ls st H Q = (sw_ldi False ls 1 fun x => sw_A 15 1 ls (.int x :: st) H Q) := sw_A_step (cc := cL_cell) rfl dL_cell_0 rfl ls st H Q
theorem r15_1 : sw_A 15 1 ls st H Q = (sw_lda False ls 0 fun x => sw_A 15 2 ls (.ref x :: st) H Q) := sw_A_step (cc := cL_cell) rfl dL_cell_1 rfl ls st H Q
theorem r15_2 : sw_A 15 2 ls st H Q = (sw_r1 False st fun a r => sw_aln False H a fun x => sw_A 15 3 ls (.int x :: r) H Q) := sw_A_step (cc := cL_cell) rfl dL_cell_2 rfl ls st H Q
theorem r15_3 : sw_A 15 3 ls st H Q = (sw_i2 False st fun x y r => if y ≤ x then sw_A 15 12 ls r H Q else sw_A 15 6 ls r H Q) := sw_A_step (cc := cL_cell) rfl dL_cell_3 rfl ls st H Q
theorem r15_6 : sw_A 15 6 ls st H Q = (sw_lda False ls 0 fun x => sw_A 15 7 ls (.ref x :: st) H Q) := sw_A_step (cc := cL_cell) rfl dL_cell_6 rfl ls st H Q
theorem r15_7 : sw_A 15 7 ls st H Q = (sw_ldi False ls 1 fun x => sw_A 15 8 ls (.int x :: st) H Q) := sw_A_step (cc := cL_cell) rfl dL_cell_7 rfl ls st H Q
theorem r15_8 : sw_A 15 8 ls st H Q = (sw_ri False st fun a i r => sw_ald False H 0 a i fun x => sw_A 15 9 ls (.int x :: r) H Q) := sw_A_step (cc := cL_cell) rfl dL_cell_8 rfl ls st H Q
theorem r15_9 : sw_A 15 9 ls st H Q = (sw_A 15 21 ls st H Q) := sw_A_step (cc := cL_cell) rfl dL_cell_9 rfl ls st H Q
theorem r15_12 : sw_A 15 12 ls st H Q = (sw_A 15 14 ls (.int (Int32.ofInt 1000308347) :: st) H Q) := sw_A_step (cc := cL_cell) rfl dL_cell_12 rfl ls st H Q
theorem r15_14 : sw_A 15 14 ls st H Q = (sw_ldi False ls 1 fun x => sw_A 15 15 ls (.int x :: st) H Q) := sw_A_step (cc := cL_cell) rfl dL_cell_14 rfl ls st H Q
theorem r15_15 : sw_A 15 15 ls st H Q = (sw_A 15 16 ls (.int (Int32.ofInt 1) :: st) H Q) := sw_A_step (cc := cL_cell) rfl dL_cell_15 rfl ls st H Q
theorem r15_16 : sw_A 15 16 ls st H Q = (sw_i2 False st fun x y r => sw_A 15 17 ls (.int (x + y) :: r) H Q) := sw_A_step (cc := cL_cell) rfl dL_cell_16 rfl ls st H Q
theorem r15_17 : sw_A 15 17 ls st H Q = (sw_i2 False st fun x y r => sw_A 15 18 ls (.int (x * y) :: r) H Q) := sw_A_step (cc := cL_cell) rfl dL_cell_17 rfl ls st H Q
theorem r15_18 : sw_A 15 18 ls st H Q = (sw_A 15 20 ls (.int (Int32.ofInt 751363521) :: st) H Q) := sw_A_step (cc := cL_cell) rfl dL_cell_18 rfl ls st H Q
theorem r15_20 : sw_A 15 20 ls st H Q = (sw_i2 False st fun x y r => sw_A 15 21 ls (.int (x + y) :: r) H Q) := sw_A_step (cc := cL_cell) rfl dL_cell_20 rfl ls st H Q
theorem r15_21 : sw_A 15 21 ls st H Q = (match st with | [.int x] => Q (some (some (.int x))) H | _ => False) := sw_A_step (cc := cL_cell) rfl dL_cell_21 rfl ls st H Q
theorem r16_0 : sw_A 16 0 ls st H Q = (sw_ldi False ls 0 fun x => sw_A 16 1 ls (.int x :: st) H Q) := sw_A_step (cc := cL_low) rfl dL_low_0 rfl ls st H Q
theorem r16_1 : sw_A 16 1 ls st H Q = (sw_A 16 3 ls (.int (Int32.ofInt 2147483647) :: st) H Q) := sw_A_step (cc := cL_low) rfl dL_low_1 rfl ls st H Q
theorem r16_3 : sw_A 16 3 ls st H Q = (sw_i2 False st fun x y r => sw_A 16 4 ls (.int (x &&& y) :: r) H Q) := sw_A_step (cc := cL_low) rfl dL_low_3 rfl ls st H Q
theorem r16_4 : sw_A 16 4 ls st H Q = (sw_ldi False ls 1 fun x => sw_A 16 5 ls (.int x :: st) H Q) := sw_A_step (cc := cL_low) rfl dL_low_4 rfl ls st H Q
theorem r16_5 : sw_A 16 5 ls st H Q = (sw_i2 False st fun x y r => if y = 0 then False else sw_A 16 6 ls (.int (x - x / y * y) :: r) H Q) := sw_A_step (cc := cL_low) rfl dL_low_5 rfl ls st H Q
theorem r16_6 : sw_A 16 6 ls st H Q = (match st with | [.int x] => Q (some (some (.int x))) H | _ => False) := sw_A_step (cc := cL_low) rfl dL_low_6 rfl ls st H Q
theorem r17_0 : sw_A 17 0 ls st H Q = (sw_ldi False ls 0 fun x => sw_A 17 1 ls (.int x :: st) H Q) := sw_A_step (cc := cX11_needRange) rfl dX11_needRange_0 rfl ls st H Q
theorem r17_1 : sw_A 17 1 ls st H Q = (sw_ldi False ls 1 fun x => sw_A 17 2 ls (.int x :: st) H Q) := sw_A_step (cc := cX11_needRange) rfl dX11_needRange_1 rfl ls st H Q
theorem r17_2 : sw_A 17 2 ls st H Q = (sw_i2 False st fun x y r => if x < y then sw_A 17 10 ls r H Q else sw_A 17 5 ls r H Q) := sw_A_step (cc := cX11_needRange) rfl dX11_needRange_2 rfl ls st H Q
theorem r17_5 : sw_A 17 5 ls st H Q = (sw_ldi False ls 0 fun x => sw_A 17 6 ls (.int x :: st) H Q) := sw_A_step (cc := cX11_needRange) rfl dX11_needRange_5 rfl ls st H Q
theorem r17_6 : sw_A 17 6 ls st H Q = (sw_ldi False ls 2 fun x => sw_A 17 7 ls (.int x :: st) H Q) := sw_A_step (cc := cX11_needRange) rfl dX11_needRange_6 rfl ls st H Q
theorem r17_7 : sw_A 17 7 ls st H Q = (sw_i2 False st fun x y r => if x ≤ y then sw_A 17 21 ls r H Q else sw_A 17 10 ls r H Q) := sw_A_step (cc := cX11_needRange) rfl dX11_needRange_7 rfl ls st H Q
theorem r17_10 : sw_A 17 10 ls st H Q = (False) := sw_A_step (cc := cX11_needRange) rfl dX11_needRange_10 rfl ls st H Q
theorem r17_13 : sw_A 17 13 ls st H Q = (sw_r1 False st fun a r => sw_A 17 14 ls (.ref a :: .ref a :: r) H Q) := sw_A_step (cc := cX11_needRange) rfl dX11_needRange_13 rfl ls st H Q
theorem r17_14 : sw_A 17 14 ls st H Q = (False) := sw_A_step (cc := cX11_needRange) rfl dX11_needRange_14 rfl ls st H Q
theorem r17_17 : sw_A 17 17 ls st H Q = (False) := sw_A_step (cc := cX11_needRange) rfl dX11_needRange_17 rfl ls st H Q
theorem r17_20 : sw_A 17 20 ls st H Q = (False) := sw_A_step (cc := cX11_needRange) rfl dX11_needRange_20 rfl ls st H Q
theorem r17_21 : sw_A 17 21 ls st H Q = (match st with | [] => Q (some none) H | _ => False) := sw_A_step (cc := cX11_needRange) rfl dX11_needRange_21 rfl ls st H Q
theorem r18_0 : sw_A 18 0 ls st H Q = (sw_A 18 3 ls (.int (Int32.ofInt 25173) :: st) H Q) := sw_A_step (cc := cX11_nextDraw) rfl dX11_nextDraw_0 rfl ls st H Q
theorem r18_3 : sw_A 18 3 ls st H Q = (sw_ldi False ls 0 fun x => sw_A 18 4 ls (.int x :: st) H Q) := sw_A_step (cc := cX11_nextDraw) rfl dX11_nextDraw_3 rfl ls st H Q
theorem r18_4 : sw_A 18 4 ls st H Q = (sw_i2 False st fun x y r => sw_A 18 5 ls (.int (x * y) :: r) H Q) := sw_A_step (cc := cX11_nextDraw) rfl dX11_nextDraw_4 rfl ls st H Q
theorem r18_5 : sw_A 18 5 ls st H Q = (sw_A 18 8 ls (.int (Int32.ofInt 13849) :: st) H Q) := sw_A_step (cc := cX11_nextDraw) rfl dX11_nextDraw_5 rfl ls st H Q
theorem r18_8 : sw_A 18 8 ls st H Q = (sw_i2 False st fun x y r => sw_A 18 9 ls (.int (x + y) :: r) H Q) := sw_A_step (cc := cX11_nextDraw) rfl dX11_nextDraw_8 rfl ls st H Q
theorem r18_9 : sw_A 18 9 ls st H Q = (sw_A 18 12 ls (.int (Int32.ofInt 65536) :: st) H Q) := sw_A_step (cc := cX11_nextDraw) rfl dX11_nextDraw_9 rfl ls st H Q
theorem r18_12 : sw_A 18 12 ls st H Q = (sw_i2 False st fun x y r => if y = 0 then False else sw_A 18 13 ls (.int (x - x / y * y) :: r) H Q) := sw_A_step (cc := cX11_nextDraw) rfl dX11_nextDraw_12 rfl ls st H Q
theorem r18_13 : sw_A 18 13 ls st H Q = (match st with | [.int x] => Q (some (some (.int x))) H | _ => False) := sw_A_step (cc := cX11_nextDraw) rfl dX11_nextDraw_13 rfl ls st H Q
theorem r19_0 : sw_A 19 0 ls st H Q = (sw_ldi False ls 1 fun x => sw_A 19 1 ls (.int x :: st) H Q) := sw_A_step (cc := cX8_drawAll) rfl dX8_drawAll_0 rfl ls st H Q
theorem r19_1 : sw_A 19 1 ls st H Q = (sw_has1 False ls 2 (sw_i1 False st fun x r => sw_A 19 2 (sw_set1 ls 2 (.int x)) r H Q)) := sw_A_step (cc := cX8_drawAll) rfl dX8_drawAll_1 rfl ls st H Q
theorem r19_2 : sw_A 19 2 ls st H Q = (sw_A 19 3 ls (.int (Int32.ofInt 0) :: st) H Q) := sw_A_step (cc := cX8_drawAll) rfl dX8_drawAll_2 rfl ls st H Q
theorem r19_3 : sw_A 19 3 ls st H Q = (sw_has1 False ls 3 (sw_i1 False st fun x r => sw_A 19 4 (sw_set1 ls 3 (.int x)) r H Q)) := sw_A_step (cc := cX8_drawAll) rfl dX8_drawAll_3 rfl ls st H Q
theorem r19_4 : sw_A 19 4 ls st H Q = (sw_ldi False ls 3 fun x => sw_A 19 5 ls (.int x :: st) H Q) := sw_A_step (cc := cX8_drawAll) rfl dX8_drawAll_4 rfl ls st H Q
theorem r19_5 : sw_A 19 5 ls st H Q = (sw_A 19 7 ls (.int (Int32.ofInt 60) :: st) H Q) := sw_A_step (cc := cX8_drawAll) rfl dX8_drawAll_5 rfl ls st H Q
theorem r19_7 : sw_A 19 7 ls st H Q = (sw_i2 False st fun x y r => if y ≤ x then sw_A 19 32 ls r H Q else sw_A 19 10 ls r H Q) := sw_A_step (cc := cX8_drawAll) rfl dX8_drawAll_7 rfl ls st H Q
theorem r19_10 : sw_A 19 10 ls st H Q = (sw_ldi False ls 2 fun x => sw_A 19 11 ls (.int x :: st) H Q) := sw_A_step (cc := cX8_drawAll) rfl dX8_drawAll_10 rfl ls st H Q
theorem r19_11 : sw_A 19 11 ls st H Q = (sw_pop False 1 st [] fun args r => sw_ck False r (sw_M 18 args H (sw_K 19 14 none ls r Q))) := sw_A_step (cc := cX8_drawAll) rfl dX8_drawAll_11 rfl ls st H Q
theorem r19_14 : sw_A 19 14 ls st H Q = (sw_has1 False ls 2 (sw_i1 False st fun x r => sw_A 19 15 (sw_set1 ls 2 (.int x)) r H Q)) := sw_A_step (cc := cX8_drawAll) rfl dX8_drawAll_14 rfl ls st H Q
theorem r19_15 : sw_A 19 15 ls st H Q = (sw_lda False ls 0 fun x => sw_A 19 16 ls (.ref x :: st) H Q) := sw_A_step (cc := cX8_drawAll) rfl dX8_drawAll_15 rfl ls st H Q
theorem r19_16 : sw_A 19 16 ls st H Q = (sw_r1 False st fun a r => sw_gf False H (some (8, 0, 1)) a fun v => sw_A 19 19 ls (v :: r) H Q) := sw_A_step (cc := cX8_drawAll) rfl dX8_drawAll_16 rfl ls st H Q
theorem r19_19 : sw_A 19 19 ls st H Q = (sw_ldi False ls 3 fun x => sw_A 19 20 ls (.int x :: st) H Q) := sw_A_step (cc := cX8_drawAll) rfl dX8_drawAll_19 rfl ls st H Q
theorem r19_20 : sw_A 19 20 ls st H Q = (sw_ldi False ls 2 fun x => sw_A 19 21 ls (.int x :: st) H Q) := sw_A_step (cc := cX8_drawAll) rfl dX8_drawAll_20 rfl ls st H Q
theorem r19_21 : sw_A 19 21 ls st H Q = (sw_A 19 24 ls (.int (Int32.ofInt 1000) :: st) H Q) := sw_A_step (cc := cX8_drawAll) rfl dX8_drawAll_21 rfl ls st H Q
theorem r19_24 : sw_A 19 24 ls st H Q = (sw_i2 False st fun x y r => if y = 0 then False else sw_A 19 25 ls (.int (x - x / y * y) :: r) H Q) := sw_A_step (cc := cX8_drawAll) rfl dX8_drawAll_24 rfl ls st H Q
theorem r19_25 : sw_A 19 25 ls st H Q = (sw_rix False st fun a i x r => sw_ast False H 0 a i x fun H1 => sw_A 19 26 ls r H1 Q) := sw_A_step (cc := cX8_drawAll) rfl dX8_drawAll_25 rfl ls st H Q
theorem r19_26 : sw_A 19 26 ls st H Q = (sw_ldi False ls 3 fun x => sw_A 19 29 (sw_set1 ls 3 (.int (x + Int32.ofInt 1))) st H Q) := sw_A_step (cc := cX8_drawAll) rfl dX8_drawAll_26 rfl ls st H Q
theorem r19_29 : sw_A 19 29 ls st H Q = (sw_A 19 4 ls st H Q) := sw_A_step (cc := cX8_drawAll) rfl dX8_drawAll_29 rfl ls st H Q
theorem r19_32 : sw_A 19 32 ls st H Q = (sw_A 19 33 ls (.int (Int32.ofInt 0) :: st) H Q) := sw_A_step (cc := cX8_drawAll) rfl dX8_drawAll_32 rfl ls st H Q
theorem r19_33 : sw_A 19 33 ls st H Q = (sw_has1 False ls 3 (sw_i1 False st fun x r => sw_A 19 34 (sw_set1 ls 3 (.int x)) r H Q)) := sw_A_step (cc := cX8_drawAll) rfl dX8_drawAll_33 rfl ls st H Q
theorem r19_34 : sw_A 19 34 ls st H Q = (sw_ldi False ls 3 fun x => sw_A 19 35 ls (.int x :: st) H Q) := sw_A_step (cc := cX8_drawAll) rfl dX8_drawAll_34 rfl ls st H Q
theorem r19_35 : sw_A 19 35 ls st H Q = (sw_A 19 37 ls (.int (Int32.ofInt 36) :: st) H Q) := sw_A_step (cc := cX8_drawAll) rfl dX8_drawAll_35 rfl ls st H Q
theorem r19_37 : sw_A 19 37 ls st H Q = (sw_i2 False st fun x y r => if y ≤ x then sw_A 19 62 ls r H Q else sw_A 19 40 ls r H Q) := sw_A_step (cc := cX8_drawAll) rfl dX8_drawAll_37 rfl ls st H Q
theorem r19_40 : sw_A 19 40 ls st H Q = (sw_ldi False ls 2 fun x => sw_A 19 41 ls (.int x :: st) H Q) := sw_A_step (cc := cX8_drawAll) rfl dX8_drawAll_40 rfl ls st H Q
theorem r19_41 : sw_A 19 41 ls st H Q = (sw_pop False 1 st [] fun args r => sw_ck False r (sw_M 18 args H (sw_K 19 44 none ls r Q))) := sw_A_step (cc := cX8_drawAll) rfl dX8_drawAll_41 rfl ls st H Q
theorem r19_44 : sw_A 19 44 ls st H Q = (sw_has1 False ls 2 (sw_i1 False st fun x r => sw_A 19 45 (sw_set1 ls 2 (.int x)) r H Q)) := sw_A_step (cc := cX8_drawAll) rfl dX8_drawAll_44 rfl ls st H Q
theorem r19_45 : sw_A 19 45 ls st H Q = (sw_lda False ls 0 fun x => sw_A 19 46 ls (.ref x :: st) H Q) := sw_A_step (cc := cX8_drawAll) rfl dX8_drawAll_45 rfl ls st H Q
theorem r19_46 : sw_A 19 46 ls st H Q = (sw_r1 False st fun a r => sw_gf False H (some (8, 1, 1)) a fun v => sw_A 19 49 ls (v :: r) H Q) := sw_A_step (cc := cX8_drawAll) rfl dX8_drawAll_46 rfl ls st H Q
theorem r19_49 : sw_A 19 49 ls st H Q = (sw_ldi False ls 3 fun x => sw_A 19 50 ls (.int x :: st) H Q) := sw_A_step (cc := cX8_drawAll) rfl dX8_drawAll_49 rfl ls st H Q
theorem r19_50 : sw_A 19 50 ls st H Q = (sw_ldi False ls 2 fun x => sw_A 19 51 ls (.int x :: st) H Q) := sw_A_step (cc := cX8_drawAll) rfl dX8_drawAll_50 rfl ls st H Q
theorem r19_51 : sw_A 19 51 ls st H Q = (sw_A 19 54 ls (.int (Int32.ofInt 1000) :: st) H Q) := sw_A_step (cc := cX8_drawAll) rfl dX8_drawAll_51 rfl ls st H Q
theorem r19_54 : sw_A 19 54 ls st H Q = (sw_i2 False st fun x y r => if y = 0 then False else sw_A 19 55 ls (.int (x - x / y * y) :: r) H Q) := sw_A_step (cc := cX8_drawAll) rfl dX8_drawAll_54 rfl ls st H Q
theorem r19_55 : sw_A 19 55 ls st H Q = (sw_rix False st fun a i x r => sw_ast False H 0 a i x fun H1 => sw_A 19 56 ls r H1 Q) := sw_A_step (cc := cX8_drawAll) rfl dX8_drawAll_55 rfl ls st H Q
theorem r19_56 : sw_A 19 56 ls st H Q = (sw_ldi False ls 3 fun x => sw_A 19 59 (sw_set1 ls 3 (.int (x + Int32.ofInt 1))) st H Q) := sw_A_step (cc := cX8_drawAll) rfl dX8_drawAll_56 rfl ls st H Q
theorem r19_59 : sw_A 19 59 ls st H Q = (sw_A 19 34 ls st H Q) := sw_A_step (cc := cX8_drawAll) rfl dX8_drawAll_59 rfl ls st H Q
theorem r19_62 : sw_A 19 62 ls st H Q = (match st with | [] => Q (some none) H | _ => False) := sw_A_step (cc := cX8_drawAll) rfl dX8_drawAll_62 rfl ls st H Q
theorem r20_0 : sw_A 20 0 ls st H Q = (sw_ldi False ls 1 fun x => sw_A 20 1 ls (.int x :: st) H Q) := sw_A_step (cc := cX11_seed) rfl dX11_seed_0 rfl ls st H Q
theorem r20_1 : sw_A 20 1 ls st H Q = (sw_A 20 2 ls (.int (Int32.ofInt 0) :: st) H Q) := sw_A_step (cc := cX11_seed) rfl dX11_seed_1 rfl ls st H Q
theorem r20_2 : sw_A 20 2 ls st H Q = (sw_A 20 4 ls (.int (Int32.ofInt 65535) :: st) H Q) := sw_A_step (cc := cX11_seed) rfl dX11_seed_2 rfl ls st H Q
theorem r20_4 : sw_A 20 4 ls st H Q = (sw_pop False 3 st [] fun args r => sw_ck False r (sw_M 17 args H (sw_K 20 7 none ls r Q))) := sw_A_step (cc := cX11_seed) rfl dX11_seed_4 rfl ls st H Q
theorem r20_7 : sw_A 20 7 ls st H Q = (sw_lda False ls 0 fun x => sw_A 20 8 ls (.ref x :: st) H Q) := sw_A_step (cc := cX11_seed) rfl dX11_seed_7 rfl ls st H Q
theorem r20_8 : sw_A 20 8 ls st H Q = (sw_r1 False st fun a r => sw_gf False H (some (11, 0, 1)) a fun v => sw_A 20 11 ls (v :: r) H Q) := sw_A_step (cc := cX11_seed) rfl dX11_seed_8 rfl ls st H Q
theorem r20_11 : sw_A 20 11 ls st H Q = (sw_ldi False ls 1 fun x => sw_A 20 12 ls (.int x :: st) H Q) := sw_A_step (cc := cX11_seed) rfl dX11_seed_11 rfl ls st H Q
theorem r20_12 : sw_A 20 12 ls st H Q = (sw_pop False 2 st [] fun args r => sw_ck False r (sw_rc False H (some 8) args (sw_M 19 args H (sw_K 20 15 none ls r Q)))) := sw_A_step (cc := cX11_seed) rfl dX11_seed_12 rfl ls st H Q
theorem r20_15 : sw_A 20 15 ls st H Q = (match st with | [] => Q (some none) H | _ => False) := sw_A_step (cc := cX11_seed) rfl dX11_seed_15 rfl ls st H Q
theorem r21_0 : sw_A 21 0 ls st H Q = (sw_A 21 3 ls (.int (Int32.ofInt 25173) :: st) H Q) := sw_A_step (cc := cL_drawn) rfl dL_drawn_0 rfl ls st H Q
theorem r21_3 : sw_A 21 3 ls st H Q = (sw_ldi False ls 0 fun x => sw_A 21 4 ls (.int x :: st) H Q) := sw_A_step (cc := cL_drawn) rfl dL_drawn_3 rfl ls st H Q
theorem r21_4 : sw_A 21 4 ls st H Q = (sw_i2 False st fun x y r => sw_A 21 5 ls (.int (x * y) :: r) H Q) := sw_A_step (cc := cL_drawn) rfl dL_drawn_4 rfl ls st H Q
theorem r21_5 : sw_A 21 5 ls st H Q = (sw_A 21 8 ls (.int (Int32.ofInt 13849) :: st) H Q) := sw_A_step (cc := cL_drawn) rfl dL_drawn_5 rfl ls st H Q
theorem r21_8 : sw_A 21 8 ls st H Q = (sw_i2 False st fun x y r => sw_A 21 9 ls (.int (x + y) :: r) H Q) := sw_A_step (cc := cL_drawn) rfl dL_drawn_8 rfl ls st H Q
theorem r21_9 : sw_A 21 9 ls st H Q = (sw_A 21 11 ls (.int (Int32.ofInt 65536) :: st) H Q) := sw_A_step (cc := cL_drawn) rfl dL_drawn_9 rfl ls st H Q
theorem r21_11 : sw_A 21 11 ls st H Q = (sw_i2 False st fun x y r => if y = 0 then False else sw_A 21 12 ls (.int (x - x / y * y) :: r) H Q) := sw_A_step (cc := cL_drawn) rfl dL_drawn_11 rfl ls st H Q
theorem r21_12 : sw_A 21 12 ls st H Q = (match st with | [.int x] => Q (some (some (.int x))) H | _ => False) := sw_A_step (cc := cL_drawn) rfl dL_drawn_12 rfl ls st H Q
theorem r22_0 : sw_A 22 0 ls st H Q = (sw_ldi False ls 0 fun x => sw_A 22 1 ls (.int x :: st) H Q) := sw_A_step (cc := cL_draws) rfl dL_draws_0 rfl ls st H Q
theorem r22_1 : sw_A 22 1 ls st H Q = (sw_has1 False ls 3 (sw_i1 False st fun x r => sw_A 22 2 (sw_set1 ls 3 (.int x)) r H Q)) := sw_A_step (cc := cL_draws) rfl dL_draws_1 rfl ls st H Q
theorem r22_2 : sw_A 22 2 ls st H Q = (sw_A 22 3 ls (.int (Int32.ofInt 0) :: st) H Q) := sw_A_step (cc := cL_draws) rfl dL_draws_2 rfl ls st H Q
theorem r22_3 : sw_A 22 3 ls st H Q = (sw_has1 False ls 4 (sw_i1 False st fun x r => sw_A 22 5 (sw_set1 ls 4 (.int x)) r H Q)) := sw_A_step (cc := cL_draws) rfl dL_draws_3 rfl ls st H Q
theorem r22_5 : sw_A 22 5 ls st H Q = (sw_ldi False ls 4 fun x => sw_A 22 7 ls (.int x :: st) H Q) := sw_A_step (cc := cL_draws) rfl dL_draws_5 rfl ls st H Q
theorem r22_7 : sw_A 22 7 ls st H Q = (sw_A 22 9 ls (.int (Int32.ofInt 96) :: st) H Q) := sw_A_step (cc := cL_draws) rfl dL_draws_7 rfl ls st H Q
theorem r22_9 : sw_A 22 9 ls st H Q = (sw_i2 False st fun x y r => if y ≤ x then sw_A 22 54 ls r H Q else sw_A 22 12 ls r H Q) := sw_A_step (cc := cL_draws) rfl dL_draws_9 rfl ls st H Q
theorem r22_12 : sw_A 22 12 ls st H Q = (sw_ldi False ls 3 fun x => sw_A 22 13 ls (.int x :: st) H Q) := sw_A_step (cc := cL_draws) rfl dL_draws_12 rfl ls st H Q
theorem r22_13 : sw_A 22 13 ls st H Q = (sw_pop False 1 st [] fun args r => sw_ck False r (sw_M 21 args H (sw_K 22 16 none ls r Q))) := sw_A_step (cc := cL_draws) rfl dL_draws_13 rfl ls st H Q
theorem r22_16 : sw_A 22 16 ls st H Q = (sw_has1 False ls 3 (sw_i1 False st fun x r => sw_A 22 17 (sw_set1 ls 3 (.int x)) r H Q)) := sw_A_step (cc := cL_draws) rfl dL_draws_16 rfl ls st H Q
theorem r22_17 : sw_A 22 17 ls st H Q = (sw_ldi False ls 4 fun x => sw_A 22 19 ls (.int x :: st) H Q) := sw_A_step (cc := cL_draws) rfl dL_draws_17 rfl ls st H Q
theorem r22_19 : sw_A 22 19 ls st H Q = (sw_A 22 21 ls (.int (Int32.ofInt 60) :: st) H Q) := sw_A_step (cc := cL_draws) rfl dL_draws_19 rfl ls st H Q
theorem r22_21 : sw_A 22 21 ls st H Q = (sw_i2 False st fun x y r => if y ≤ x then sw_A 22 36 ls r H Q else sw_A 22 24 ls r H Q) := sw_A_step (cc := cL_draws) rfl dL_draws_21 rfl ls st H Q
theorem r22_24 : sw_A 22 24 ls st H Q = (sw_lda False ls 1 fun x => sw_A 22 25 ls (.ref x :: st) H Q) := sw_A_step (cc := cL_draws) rfl dL_draws_24 rfl ls st H Q
theorem r22_25 : sw_A 22 25 ls st H Q = (sw_ldi False ls 4 fun x => sw_A 22 27 ls (.int x :: st) H Q) := sw_A_step (cc := cL_draws) rfl dL_draws_25 rfl ls st H Q
theorem r22_27 : sw_A 22 27 ls st H Q = (sw_ldi False ls 3 fun x => sw_A 22 28 ls (.int x :: st) H Q) := sw_A_step (cc := cL_draws) rfl dL_draws_27 rfl ls st H Q
theorem r22_28 : sw_A 22 28 ls st H Q = (sw_A 22 31 ls (.int (Int32.ofInt 1000) :: st) H Q) := sw_A_step (cc := cL_draws) rfl dL_draws_28 rfl ls st H Q
theorem r22_31 : sw_A 22 31 ls st H Q = (sw_i2 False st fun x y r => if y = 0 then False else sw_A 22 32 ls (.int (x - x / y * y) :: r) H Q) := sw_A_step (cc := cL_draws) rfl dL_draws_31 rfl ls st H Q
theorem r22_32 : sw_A 22 32 ls st H Q = (sw_rix False st fun a i x r => sw_ast False H 0 a i x fun H1 => sw_A 22 33 ls r H1 Q) := sw_A_step (cc := cL_draws) rfl dL_draws_32 rfl ls st H Q
theorem r22_33 : sw_A 22 33 ls st H Q = (sw_A 22 48 ls st H Q) := sw_A_step (cc := cL_draws) rfl dL_draws_33 rfl ls st H Q
theorem r22_36 : sw_A 22 36 ls st H Q = (sw_lda False ls 2 fun x => sw_A 22 37 ls (.ref x :: st) H Q) := sw_A_step (cc := cL_draws) rfl dL_draws_36 rfl ls st H Q
theorem r22_37 : sw_A 22 37 ls st H Q = (sw_ldi False ls 4 fun x => sw_A 22 39 ls (.int x :: st) H Q) := sw_A_step (cc := cL_draws) rfl dL_draws_37 rfl ls st H Q
theorem r22_39 : sw_A 22 39 ls st H Q = (sw_A 22 41 ls (.int (Int32.ofInt 60) :: st) H Q) := sw_A_step (cc := cL_draws) rfl dL_draws_39 rfl ls st H Q
theorem r22_41 : sw_A 22 41 ls st H Q = (sw_i2 False st fun x y r => sw_A 22 42 ls (.int (x - y) :: r) H Q) := sw_A_step (cc := cL_draws) rfl dL_draws_41 rfl ls st H Q
theorem r22_42 : sw_A 22 42 ls st H Q = (sw_ldi False ls 3 fun x => sw_A 22 43 ls (.int x :: st) H Q) := sw_A_step (cc := cL_draws) rfl dL_draws_42 rfl ls st H Q
theorem r22_43 : sw_A 22 43 ls st H Q = (sw_A 22 46 ls (.int (Int32.ofInt 1000) :: st) H Q) := sw_A_step (cc := cL_draws) rfl dL_draws_43 rfl ls st H Q
theorem r22_46 : sw_A 22 46 ls st H Q = (sw_i2 False st fun x y r => if y = 0 then False else sw_A 22 47 ls (.int (x - x / y * y) :: r) H Q) := sw_A_step (cc := cL_draws) rfl dL_draws_46 rfl ls st H Q
theorem r22_47 : sw_A 22 47 ls st H Q = (sw_rix False st fun a i x r => sw_ast False H 0 a i x fun H1 => sw_A 22 48 ls r H1 Q) := sw_A_step (cc := cL_draws) rfl dL_draws_47 rfl ls st H Q
theorem r22_48 : sw_A 22 48 ls st H Q = (sw_ldi False ls 4 fun x => sw_A 22 51 (sw_set1 ls 4 (.int (x + Int32.ofInt 1))) st H Q) := sw_A_step (cc := cL_draws) rfl dL_draws_48 rfl ls st H Q
theorem r22_51 : sw_A 22 51 ls st H Q = (sw_A 22 5 ls st H Q) := sw_A_step (cc := cL_draws) rfl dL_draws_51 rfl ls st H Q
theorem r22_54 : sw_A 22 54 ls st H Q = (match st with | [] => Q (some none) H | _ => False) := sw_A_step (cc := cL_draws) rfl dL_draws_54 rfl ls st H Q
theorem r23_0 : sw_A 23 0 ls st H Q = (sw_ldi False ls 0 fun x => sw_A 23 1 ls (.int x :: st) H Q) := sw_A_step (cc := cX11_needBond) rfl dX11_needBond_0 rfl ls st H Q
theorem r23_1 : sw_A 23 1 ls st H Q = (sw_i1 False st fun x r => if x < 0 then sw_A 23 10 ls r H Q else sw_A 23 4 ls r H Q) := sw_A_step (cc := cX11_needBond) rfl dX11_needBond_1 rfl ls st H Q
theorem r23_4 : sw_A 23 4 ls st H Q = (sw_ldi False ls 0 fun x => sw_A 23 5 ls (.int x :: st) H Q) := sw_A_step (cc := cX11_needBond) rfl dX11_needBond_4 rfl ls st H Q
theorem r23_5 : sw_A 23 5 ls st H Q = (sw_A 23 7 ls (.int (Int32.ofInt 60) :: st) H Q) := sw_A_step (cc := cX11_needBond) rfl dX11_needBond_5 rfl ls st H Q
theorem r23_7 : sw_A 23 7 ls st H Q = (sw_i2 False st fun x y r => if x < y then sw_A 23 21 ls r H Q else sw_A 23 10 ls r H Q) := sw_A_step (cc := cX11_needBond) rfl dX11_needBond_7 rfl ls st H Q
theorem r23_10 : sw_A 23 10 ls st H Q = (False) := sw_A_step (cc := cX11_needBond) rfl dX11_needBond_10 rfl ls st H Q
theorem r23_13 : sw_A 23 13 ls st H Q = (sw_r1 False st fun a r => sw_A 23 14 ls (.ref a :: .ref a :: r) H Q) := sw_A_step (cc := cX11_needBond) rfl dX11_needBond_13 rfl ls st H Q
theorem r23_14 : sw_A 23 14 ls st H Q = (False) := sw_A_step (cc := cX11_needBond) rfl dX11_needBond_14 rfl ls st H Q
theorem r23_17 : sw_A 23 17 ls st H Q = (False) := sw_A_step (cc := cX11_needBond) rfl dX11_needBond_17 rfl ls st H Q
theorem r23_20 : sw_A 23 20 ls st H Q = (False) := sw_A_step (cc := cX11_needBond) rfl dX11_needBond_20 rfl ls st H Q
theorem r23_21 : sw_A 23 21 ls st H Q = (match st with | [] => Q (some none) H | _ => False) := sw_A_step (cc := cX11_needBond) rfl dX11_needBond_21 rfl ls st H Q
theorem r24_0 : sw_A 24 0 ls st H Q = (sw_ldi False ls 1 fun x => sw_A 24 1 ls (.int x :: st) H Q) := sw_A_step (cc := cX11_bond) rfl dX11_bond_0 rfl ls st H Q
theorem r24_1 : sw_A 24 1 ls st H Q = (sw_pop False 1 st [] fun args r => sw_ck False r (sw_M 23 args H (sw_K 24 4 none ls r Q))) := sw_A_step (cc := cX11_bond) rfl dX11_bond_1 rfl ls st H Q
theorem r24_4 : sw_A 24 4 ls st H Q = (sw_ldi False ls 2 fun x => sw_A 24 5 ls (.int x :: st) H Q) := sw_A_step (cc := cX11_bond) rfl dX11_bond_4 rfl ls st H Q
theorem r24_5 : sw_A 24 5 ls st H Q = (sw_A 24 6 ls (.int (Int32.ofInt 0) :: st) H Q) := sw_A_step (cc := cX11_bond) rfl dX11_bond_5 rfl ls st H Q
theorem r24_6 : sw_A 24 6 ls st H Q = (sw_A 24 9 ls (.int (Int32.ofInt 999) :: st) H Q) := sw_A_step (cc := cX11_bond) rfl dX11_bond_6 rfl ls st H Q
theorem r24_9 : sw_A 24 9 ls st H Q = (sw_pop False 3 st [] fun args r => sw_ck False r (sw_M 17 args H (sw_K 24 12 none ls r Q))) := sw_A_step (cc := cX11_bond) rfl dX11_bond_9 rfl ls st H Q
theorem r24_12 : sw_A 24 12 ls st H Q = (sw_lda False ls 0 fun x => sw_A 24 13 ls (.ref x :: st) H Q) := sw_A_step (cc := cX11_bond) rfl dX11_bond_12 rfl ls st H Q
theorem r24_13 : sw_A 24 13 ls st H Q = (sw_r1 False st fun a r => sw_gf False H (some (11, 0, 1)) a fun v => sw_A 24 16 ls (v :: r) H Q) := sw_A_step (cc := cX11_bond) rfl dX11_bond_13 rfl ls st H Q
theorem r24_16 : sw_A 24 16 ls st H Q = (sw_r1 False st fun a r => sw_gf False H (some (8, 0, 3)) a fun v => sw_A 24 19 ls (v :: r) H Q) := sw_A_step (cc := cX11_bond) rfl dX11_bond_16 rfl ls st H Q
theorem r24_19 : sw_A 24 19 ls st H Q = (sw_ldi False ls 1 fun x => sw_A 24 20 ls (.int x :: st) H Q) := sw_A_step (cc := cX11_bond) rfl dX11_bond_19 rfl ls st H Q
theorem r24_20 : sw_A 24 20 ls st H Q = (sw_ri False st fun a i r => sw_ald False H 0 a i fun x => sw_A 24 21 ls (.int x :: r) H Q) := sw_A_step (cc := cX11_bond) rfl dX11_bond_20 rfl ls st H Q
theorem r24_21 : sw_A 24 21 ls st H Q = (sw_has1 False ls 3 (sw_i1 False st fun x r => sw_A 24 22 (sw_set1 ls 3 (.int x)) r H Q)) := sw_A_step (cc := cX11_bond) rfl dX11_bond_21 rfl ls st H Q
theorem r24_22 : sw_A 24 22 ls st H Q = (sw_lda False ls 0 fun x => sw_A 24 23 ls (.ref x :: st) H Q) := sw_A_step (cc := cX11_bond) rfl dX11_bond_22 rfl ls st H Q
theorem r24_23 : sw_A 24 23 ls st H Q = (sw_r1 False st fun a r => sw_gf False H (some (11, 0, 1)) a fun v => sw_A 24 26 ls (v :: r) H Q) := sw_A_step (cc := cX11_bond) rfl dX11_bond_23 rfl ls st H Q
theorem r24_26 : sw_A 24 26 ls st H Q = (sw_r1 False st fun a r => sw_gf False H (some (8, 0, 3)) a fun v => sw_A 24 29 ls (v :: r) H Q) := sw_A_step (cc := cX11_bond) rfl dX11_bond_26 rfl ls st H Q
theorem r24_29 : sw_A 24 29 ls st H Q = (sw_ldi False ls 1 fun x => sw_A 24 30 ls (.int x :: st) H Q) := sw_A_step (cc := cX11_bond) rfl dX11_bond_29 rfl ls st H Q
theorem r24_30 : sw_A 24 30 ls st H Q = (sw_ldi False ls 2 fun x => sw_A 24 31 ls (.int x :: st) H Q) := sw_A_step (cc := cX11_bond) rfl dX11_bond_30 rfl ls st H Q
theorem r24_31 : sw_A 24 31 ls st H Q = (sw_rix False st fun a i x r => sw_ast False H 0 a i x fun H1 => sw_A 24 32 ls r H1 Q) := sw_A_step (cc := cX11_bond) rfl dX11_bond_31 rfl ls st H Q
theorem r24_32 : sw_A 24 32 ls st H Q = (sw_ldi False ls 3 fun x => sw_A 24 33 ls (.int x :: st) H Q) := sw_A_step (cc := cX11_bond) rfl dX11_bond_32 rfl ls st H Q
theorem r24_33 : sw_A 24 33 ls st H Q = (match st with | [.int x] => Q (some (some (.int x))) H | _ => False) := sw_A_step (cc := cX11_bond) rfl dX11_bond_33 rfl ls st H Q
theorem r25_0 : sw_A 25 0 ls st H Q = (sw_ldi False ls 0 fun x => sw_A 25 1 ls (.int x :: st) H Q) := sw_A_step (cc := cX11_needSite) rfl dX11_needSite_0 rfl ls st H Q
theorem r25_1 : sw_A 25 1 ls st H Q = (sw_i1 False st fun x r => if x < 0 then sw_A 25 10 ls r H Q else sw_A 25 4 ls r H Q) := sw_A_step (cc := cX11_needSite) rfl dX11_needSite_1 rfl ls st H Q
theorem r25_4 : sw_A 25 4 ls st H Q = (sw_ldi False ls 0 fun x => sw_A 25 5 ls (.int x :: st) H Q) := sw_A_step (cc := cX11_needSite) rfl dX11_needSite_4 rfl ls st H Q
theorem r25_5 : sw_A 25 5 ls st H Q = (sw_A 25 7 ls (.int (Int32.ofInt 36) :: st) H Q) := sw_A_step (cc := cX11_needSite) rfl dX11_needSite_5 rfl ls st H Q
theorem r25_7 : sw_A 25 7 ls st H Q = (sw_i2 False st fun x y r => if x < y then sw_A 25 21 ls r H Q else sw_A 25 10 ls r H Q) := sw_A_step (cc := cX11_needSite) rfl dX11_needSite_7 rfl ls st H Q
theorem r25_10 : sw_A 25 10 ls st H Q = (False) := sw_A_step (cc := cX11_needSite) rfl dX11_needSite_10 rfl ls st H Q
theorem r25_13 : sw_A 25 13 ls st H Q = (sw_r1 False st fun a r => sw_A 25 14 ls (.ref a :: .ref a :: r) H Q) := sw_A_step (cc := cX11_needSite) rfl dX11_needSite_13 rfl ls st H Q
theorem r25_14 : sw_A 25 14 ls st H Q = (False) := sw_A_step (cc := cX11_needSite) rfl dX11_needSite_14 rfl ls st H Q
theorem r25_17 : sw_A 25 17 ls st H Q = (False) := sw_A_step (cc := cX11_needSite) rfl dX11_needSite_17 rfl ls st H Q
theorem r25_20 : sw_A 25 20 ls st H Q = (False) := sw_A_step (cc := cX11_needSite) rfl dX11_needSite_20 rfl ls st H Q
theorem r25_21 : sw_A 25 21 ls st H Q = (match st with | [] => Q (some none) H | _ => False) := sw_A_step (cc := cX11_needSite) rfl dX11_needSite_21 rfl ls st H Q
theorem r26_0 : sw_A 26 0 ls st H Q = (sw_ldi False ls 1 fun x => sw_A 26 1 ls (.int x :: st) H Q) := sw_A_step (cc := cX11_site) rfl dX11_site_0 rfl ls st H Q
theorem r26_1 : sw_A 26 1 ls st H Q = (sw_pop False 1 st [] fun args r => sw_ck False r (sw_M 25 args H (sw_K 26 4 none ls r Q))) := sw_A_step (cc := cX11_site) rfl dX11_site_1 rfl ls st H Q
theorem r26_4 : sw_A 26 4 ls st H Q = (sw_ldi False ls 2 fun x => sw_A 26 5 ls (.int x :: st) H Q) := sw_A_step (cc := cX11_site) rfl dX11_site_4 rfl ls st H Q
theorem r26_5 : sw_A 26 5 ls st H Q = (sw_A 26 6 ls (.int (Int32.ofInt 0) :: st) H Q) := sw_A_step (cc := cX11_site) rfl dX11_site_5 rfl ls st H Q
theorem r26_6 : sw_A 26 6 ls st H Q = (sw_A 26 9 ls (.int (Int32.ofInt 999) :: st) H Q) := sw_A_step (cc := cX11_site) rfl dX11_site_6 rfl ls st H Q
theorem r26_9 : sw_A 26 9 ls st H Q = (sw_pop False 3 st [] fun args r => sw_ck False r (sw_M 17 args H (sw_K 26 12 none ls r Q))) := sw_A_step (cc := cX11_site) rfl dX11_site_9 rfl ls st H Q
theorem r26_12 : sw_A 26 12 ls st H Q = (sw_lda False ls 0 fun x => sw_A 26 13 ls (.ref x :: st) H Q) := sw_A_step (cc := cX11_site) rfl dX11_site_12 rfl ls st H Q
theorem r26_13 : sw_A 26 13 ls st H Q = (sw_r1 False st fun a r => sw_gf False H (some (11, 0, 1)) a fun v => sw_A 26 16 ls (v :: r) H Q) := sw_A_step (cc := cX11_site) rfl dX11_site_13 rfl ls st H Q
theorem r26_16 : sw_A 26 16 ls st H Q = (sw_r1 False st fun a r => sw_gf False H (some (8, 1, 3)) a fun v => sw_A 26 19 ls (v :: r) H Q) := sw_A_step (cc := cX11_site) rfl dX11_site_16 rfl ls st H Q
theorem r26_19 : sw_A 26 19 ls st H Q = (sw_ldi False ls 1 fun x => sw_A 26 20 ls (.int x :: st) H Q) := sw_A_step (cc := cX11_site) rfl dX11_site_19 rfl ls st H Q
theorem r26_20 : sw_A 26 20 ls st H Q = (sw_ri False st fun a i r => sw_ald False H 0 a i fun x => sw_A 26 21 ls (.int x :: r) H Q) := sw_A_step (cc := cX11_site) rfl dX11_site_20 rfl ls st H Q
theorem r26_21 : sw_A 26 21 ls st H Q = (sw_has1 False ls 3 (sw_i1 False st fun x r => sw_A 26 22 (sw_set1 ls 3 (.int x)) r H Q)) := sw_A_step (cc := cX11_site) rfl dX11_site_21 rfl ls st H Q
theorem r26_22 : sw_A 26 22 ls st H Q = (sw_lda False ls 0 fun x => sw_A 26 23 ls (.ref x :: st) H Q) := sw_A_step (cc := cX11_site) rfl dX11_site_22 rfl ls st H Q
theorem r26_23 : sw_A 26 23 ls st H Q = (sw_r1 False st fun a r => sw_gf False H (some (11, 0, 1)) a fun v => sw_A 26 26 ls (v :: r) H Q) := sw_A_step (cc := cX11_site) rfl dX11_site_23 rfl ls st H Q
theorem r26_26 : sw_A 26 26 ls st H Q = (sw_r1 False st fun a r => sw_gf False H (some (8, 1, 3)) a fun v => sw_A 26 29 ls (v :: r) H Q) := sw_A_step (cc := cX11_site) rfl dX11_site_26 rfl ls st H Q
theorem r26_29 : sw_A 26 29 ls st H Q = (sw_ldi False ls 1 fun x => sw_A 26 30 ls (.int x :: st) H Q) := sw_A_step (cc := cX11_site) rfl dX11_site_29 rfl ls st H Q
theorem r26_30 : sw_A 26 30 ls st H Q = (sw_ldi False ls 2 fun x => sw_A 26 31 ls (.int x :: st) H Q) := sw_A_step (cc := cX11_site) rfl dX11_site_30 rfl ls st H Q
theorem r26_31 : sw_A 26 31 ls st H Q = (sw_rix False st fun a i x r => sw_ast False H 0 a i x fun H1 => sw_A 26 32 ls r H1 Q) := sw_A_step (cc := cX11_site) rfl dX11_site_31 rfl ls st H Q
theorem r26_32 : sw_A 26 32 ls st H Q = (sw_ldi False ls 3 fun x => sw_A 26 33 ls (.int x :: st) H Q) := sw_A_step (cc := cX11_site) rfl dX11_site_32 rfl ls st H Q
theorem r26_33 : sw_A 26 33 ls st H Q = (match st with | [.int x] => Q (some (some (.int x))) H | _ => False) := sw_A_step (cc := cX11_site) rfl dX11_site_33 rfl ls st H Q
theorem r27_0 : sw_A 27 0 ls st H Q = (sw_lda False ls 0 fun x => sw_A 27 1 ls (.ref x :: st) H Q) := sw_A_step (cc := cX7_close) rfl dX7_close_0 rfl ls st H Q
theorem r27_1 : sw_A 27 1 ls st H Q = (sw_r1 False st fun a r => sw_gf False H (some (7, 0, 1)) a fun v => sw_A 27 4 ls (v :: r) H Q) := sw_A_step (cc := cX7_close) rfl dX7_close_1 rfl ls st H Q
theorem r27_4 : sw_A 27 4 ls st H Q = (sw_ldi False ls 1 fun x => sw_A 27 5 ls (.int x :: st) H Q) := sw_A_step (cc := cX7_close) rfl dX7_close_4 rfl ls st H Q
theorem r27_5 : sw_A 27 5 ls st H Q = (sw_A 27 6 ls (.int (Int32.ofInt 1) :: st) H Q) := sw_A_step (cc := cX7_close) rfl dX7_close_5 rfl ls st H Q
theorem r27_6 : sw_A 27 6 ls st H Q = (sw_rix False st fun a i x r => sw_ast False H 1 a i (x &&& 1) fun H1 => sw_A 27 7 ls r H1 Q) := sw_A_step (cc := cX7_close) rfl dX7_close_6 rfl ls st H Q
theorem r27_7 : sw_A 27 7 ls st H Q = (sw_lda False ls 0 fun x => sw_A 27 8 ls (.ref x :: st) H Q) := sw_A_step (cc := cX7_close) rfl dX7_close_7 rfl ls st H Q
theorem r27_8 : sw_A 27 8 ls st H Q = (sw_r1 False st fun a r => sw_gf False H (some (7, 1, 1)) a fun v => sw_A 27 11 ls (v :: r) H Q) := sw_A_step (cc := cX7_close) rfl dX7_close_8 rfl ls st H Q
theorem r27_11 : sw_A 27 11 ls st H Q = (sw_ldi False ls 1 fun x => sw_A 27 12 ls (.int x :: st) H Q) := sw_A_step (cc := cX7_close) rfl dX7_close_11 rfl ls st H Q
theorem r27_12 : sw_A 27 12 ls st H Q = (sw_A 27 13 ls (.int (Int32.ofInt 0) :: st) H Q) := sw_A_step (cc := cX7_close) rfl dX7_close_12 rfl ls st H Q
theorem r27_13 : sw_A 27 13 ls st H Q = (sw_rix False st fun a i x r => sw_ast False H 1 a i (x &&& 1) fun H1 => sw_A 27 14 ls r H1 Q) := sw_A_step (cc := cX7_close) rfl dX7_close_13 rfl ls st H Q
theorem r27_14 : sw_A 27 14 ls st H Q = (sw_lda False ls 0 fun x => sw_A 27 15 ls (.ref x :: st) H Q) := sw_A_step (cc := cX7_close) rfl dX7_close_14 rfl ls st H Q
theorem r27_15 : sw_A 27 15 ls st H Q = (sw_r1 False st fun a r => sw_gf False H (some (7, 2, 1)) a fun v => sw_A 27 18 ls (v :: r) H Q) := sw_A_step (cc := cX7_close) rfl dX7_close_15 rfl ls st H Q
theorem r27_18 : sw_A 27 18 ls st H Q = (sw_ldi False ls 1 fun x => sw_A 27 19 ls (.int x :: st) H Q) := sw_A_step (cc := cX7_close) rfl dX7_close_18 rfl ls st H Q
theorem r27_19 : sw_A 27 19 ls st H Q = (sw_A 27 20 ls (.int (Int32.ofInt 0) :: st) H Q) := sw_A_step (cc := cX7_close) rfl dX7_close_19 rfl ls st H Q
theorem r27_20 : sw_A 27 20 ls st H Q = (sw_rix False st fun a i x r => sw_ast False H 1 a i (x &&& 1) fun H1 => sw_A 27 21 ls r H1 Q) := sw_A_step (cc := cX7_close) rfl dX7_close_20 rfl ls st H Q
theorem r27_21 : sw_A 27 21 ls st H Q = (match st with | [] => Q (some none) H | _ => False) := sw_A_step (cc := cX7_close) rfl dX7_close_21 rfl ls st H Q
theorem r28_0 : sw_A 28 0 ls st H Q = (sw_lda False ls 0 fun x => sw_A 28 1 ls (.ref x :: st) H Q) := sw_A_step (cc := cX11_close) rfl dX11_close_0 rfl ls st H Q
theorem r28_1 : sw_A 28 1 ls st H Q = (sw_r1 False st fun a r => sw_gf False H (some (11, 2, 1)) a fun v => sw_A 28 4 ls (v :: r) H Q) := sw_A_step (cc := cX11_close) rfl dX11_close_1 rfl ls st H Q
theorem r28_4 : sw_A 28 4 ls st H Q = (sw_ldi False ls 1 fun x => sw_A 28 5 ls (.int x :: st) H Q) := sw_A_step (cc := cX11_close) rfl dX11_close_4 rfl ls st H Q
theorem r28_5 : sw_A 28 5 ls st H Q = (sw_pop False 2 st [] fun args r => sw_ck False r (sw_rc False H (some 7) args (sw_M 27 args H (sw_K 28 8 none ls r Q)))) := sw_A_step (cc := cX11_close) rfl dX11_close_5 rfl ls st H Q
theorem r28_8 : sw_A 28 8 ls st H Q = (sw_lda False ls 0 fun x => sw_A 28 9 ls (.ref x :: st) H Q) := sw_A_step (cc := cX11_close) rfl dX11_close_8 rfl ls st H Q
theorem r28_9 : sw_A 28 9 ls st H Q = (sw_r1 False st fun a r => sw_gf False H (some (11, 10, 1)) a fun v => sw_A 28 12 ls (v :: r) H Q) := sw_A_step (cc := cX11_close) rfl dX11_close_9 rfl ls st H Q
theorem r28_12 : sw_A 28 12 ls st H Q = (sw_r1 False st fun a r => sw_gf False H (some (5, 0, 3)) a fun v => sw_A 28 15 ls (v :: r) H Q) := sw_A_step (cc := cX11_close) rfl dX11_close_12 rfl ls st H Q
theorem r28_15 : sw_A 28 15 ls st H Q = (sw_ldi False ls 1 fun x => sw_A 28 16 ls (.int x :: st) H Q) := sw_A_step (cc := cX11_close) rfl dX11_close_15 rfl ls st H Q
theorem r28_16 : sw_A 28 16 ls st H Q = (sw_A 28 17 ls (.int (Int32.ofInt 0) :: st) H Q) := sw_A_step (cc := cX11_close) rfl dX11_close_16 rfl ls st H Q
theorem r28_17 : sw_A 28 17 ls st H Q = (sw_rix False st fun a i x r => sw_ast False H 1 a i (x &&& 1) fun H1 => sw_A 28 18 ls r H1 Q) := sw_A_step (cc := cX11_close) rfl dX11_close_17 rfl ls st H Q
theorem r28_18 : sw_A 28 18 ls st H Q = (match st with | [] => Q (some none) H | _ => False) := sw_A_step (cc := cX11_close) rfl dX11_close_18 rfl ls st H Q
theorem r29_0 : sw_A 29 0 ls st H Q = (sw_ldi False ls 1 fun x => sw_A 29 1 ls (.int x :: st) H Q) := sw_A_step (cc := cX11_shut) rfl dX11_shut_0 rfl ls st H Q
theorem r29_1 : sw_A 29 1 ls st H Q = (sw_pop False 1 st [] fun args r => sw_ck False r (sw_M 25 args H (sw_K 29 4 none ls r Q))) := sw_A_step (cc := cX11_shut) rfl dX11_shut_1 rfl ls st H Q
theorem r29_4 : sw_A 29 4 ls st H Q = (sw_lda False ls 0 fun x => sw_A 29 5 ls (.ref x :: st) H Q) := sw_A_step (cc := cX11_shut) rfl dX11_shut_4 rfl ls st H Q
theorem r29_5 : sw_A 29 5 ls st H Q = (sw_r1 False st fun a r => sw_gf False H (some (11, 2, 1)) a fun v => sw_A 29 8 ls (v :: r) H Q) := sw_A_step (cc := cX11_shut) rfl dX11_shut_5 rfl ls st H Q
theorem r29_8 : sw_A 29 8 ls st H Q = (sw_r1 False st fun a r => sw_gf False H (some (7, 0, 3)) a fun v => sw_A 29 11 ls (v :: r) H Q) := sw_A_step (cc := cX11_shut) rfl dX11_shut_8 rfl ls st H Q
theorem r29_11 : sw_A 29 11 ls st H Q = (sw_ldi False ls 1 fun x => sw_A 29 12 ls (.int x :: st) H Q) := sw_A_step (cc := cX11_shut) rfl dX11_shut_11 rfl ls st H Q
theorem r29_12 : sw_A 29 12 ls st H Q = (sw_ri False st fun a i r => sw_ald False H 1 a i fun x => sw_A 29 13 ls (.int x :: r) H Q) := sw_A_step (cc := cX11_shut) rfl dX11_shut_12 rfl ls st H Q
theorem r29_13 : sw_A 29 13 ls st H Q = (sw_has1 False ls 3 (sw_i1 False st fun x r => sw_A 29 14 (sw_set1 ls 3 (.int x)) r H Q)) := sw_A_step (cc := cX11_shut) rfl dX11_shut_13 rfl ls st H Q
theorem r29_14 : sw_A 29 14 ls st H Q = (sw_ldi False ls 2 fun x => sw_A 29 15 ls (.int x :: st) H Q) := sw_A_step (cc := cX11_shut) rfl dX11_shut_14 rfl ls st H Q
theorem r29_15 : sw_A 29 15 ls st H Q = (sw_i1 False st fun x r => if x = 0 then sw_A 29 26 ls r H Q else sw_A 29 18 ls r H Q) := sw_A_step (cc := cX11_shut) rfl dX11_shut_15 rfl ls st H Q
theorem r29_18 : sw_A 29 18 ls st H Q = (sw_lda False ls 0 fun x => sw_A 29 19 ls (.ref x :: st) H Q) := sw_A_step (cc := cX11_shut) rfl dX11_shut_18 rfl ls st H Q
theorem r29_19 : sw_A 29 19 ls st H Q = (sw_ldi False ls 1 fun x => sw_A 29 20 ls (.int x :: st) H Q) := sw_A_step (cc := cX11_shut) rfl dX11_shut_19 rfl ls st H Q
theorem r29_20 : sw_A 29 20 ls st H Q = (sw_pop False 2 st [] fun args r => sw_ck False r (sw_rc False H (some 11) args (sw_M 28 args H (sw_K 29 23 none ls r Q)))) := sw_A_step (cc := cX11_shut) rfl dX11_shut_20 rfl ls st H Q
theorem r29_23 : sw_A 29 23 ls st H Q = (sw_A 29 36 ls st H Q) := sw_A_step (cc := cX11_shut) rfl dX11_shut_23 rfl ls st H Q
theorem r29_26 : sw_A 29 26 ls st H Q = (sw_lda False ls 0 fun x => sw_A 29 27 ls (.ref x :: st) H Q) := sw_A_step (cc := cX11_shut) rfl dX11_shut_26 rfl ls st H Q
theorem r29_27 : sw_A 29 27 ls st H Q = (sw_r1 False st fun a r => sw_gf False H (some (11, 2, 1)) a fun v => sw_A 29 30 ls (v :: r) H Q) := sw_A_step (cc := cX11_shut) rfl dX11_shut_27 rfl ls st H Q
theorem r29_30 : sw_A 29 30 ls st H Q = (sw_r1 False st fun a r => sw_gf False H (some (7, 0, 3)) a fun v => sw_A 29 33 ls (v :: r) H Q) := sw_A_step (cc := cX11_shut) rfl dX11_shut_30 rfl ls st H Q
theorem r29_33 : sw_A 29 33 ls st H Q = (sw_ldi False ls 1 fun x => sw_A 29 34 ls (.int x :: st) H Q) := sw_A_step (cc := cX11_shut) rfl dX11_shut_33 rfl ls st H Q
theorem r29_34 : sw_A 29 34 ls st H Q = (sw_A 29 35 ls (.int (Int32.ofInt 0) :: st) H Q) := sw_A_step (cc := cX11_shut) rfl dX11_shut_34 rfl ls st H Q
theorem r29_35 : sw_A 29 35 ls st H Q = (sw_rix False st fun a i x r => sw_ast False H 1 a i (x &&& 1) fun H1 => sw_A 29 36 ls r H1 Q) := sw_A_step (cc := cX11_shut) rfl dX11_shut_35 rfl ls st H Q
theorem r29_36 : sw_A 29 36 ls st H Q = (sw_ldi False ls 3 fun x => sw_A 29 37 ls (.int x :: st) H Q) := sw_A_step (cc := cX11_shut) rfl dX11_shut_36 rfl ls st H Q
theorem r29_37 : sw_A 29 37 ls st H Q = (match st with | [.int x] => (if 2 = 1 ∨ 2 = 2 ∧ (x = 0 ∨ x = 1) then Q (some (some (.int x))) H else False) | _ => False) := sw_A_step (cc := cX11_shut) rfl dX11_shut_37 rfl ls st H Q
theorem r30_0 : sw_A 30 0 ls st H Q = (sw_ldl False ls 0 fun x => sw_A 30 1 ls (.long x :: st) H Q) := sw_A_step (cc := cL_has) rfl dL_has_0 rfl ls st H Q
theorem r30_1 : sw_A 30 1 ls st H Q = (sw_ldi False ls 2 fun x => sw_A 30 2 ls (.int x :: st) H Q) := sw_A_step (cc := cL_has) rfl dL_has_1 rfl ls st H Q
theorem r30_2 : sw_A 30 2 ls st H Q = (sw_li False st fun x y r => sw_A 30 3 ls (.long (x >>> (y.toInt64 &&& 63)) :: r) H Q) := sw_A_step (cc := cL_has) rfl dL_has_2 rfl ls st H Q
theorem r30_3 : sw_A 30 3 ls st H Q = (sw_A 30 4 ls (.long (Int64.ofNat 1) :: st) H Q) := sw_A_step (cc := cL_has) rfl dL_has_3 rfl ls st H Q
theorem r30_4 : sw_A 30 4 ls st H Q = (sw_l2 False st fun x y r => sw_A 30 5 ls (.long (x &&& y) :: r) H Q) := sw_A_step (cc := cL_has) rfl dL_has_4 rfl ls st H Q
theorem r30_5 : sw_A 30 5 ls st H Q = (sw_A 30 6 ls (.long (Int64.ofNat 1) :: st) H Q) := sw_A_step (cc := cL_has) rfl dL_has_5 rfl ls st H Q
theorem r30_6 : sw_A 30 6 ls st H Q = (sw_l2 False st fun x y r => sw_A 30 7 ls (.int (lg_cmp x y) :: r) H Q) := sw_A_step (cc := cL_has) rfl dL_has_6 rfl ls st H Q
theorem r30_7 : sw_A 30 7 ls st H Q = (sw_i1 False st fun x r => if ¬ x = 0 then sw_A 30 14 ls r H Q else sw_A 30 10 ls r H Q) := sw_A_step (cc := cL_has) rfl dL_has_7 rfl ls st H Q
theorem r30_10 : sw_A 30 10 ls st H Q = (sw_A 30 11 ls (.int (Int32.ofInt 1) :: st) H Q) := sw_A_step (cc := cL_has) rfl dL_has_10 rfl ls st H Q
theorem r30_11 : sw_A 30 11 ls st H Q = (sw_A 30 15 ls st H Q) := sw_A_step (cc := cL_has) rfl dL_has_11 rfl ls st H Q
theorem r30_14 : sw_A 30 14 ls st H Q = (sw_A 30 15 ls (.int (Int32.ofInt 0) :: st) H Q) := sw_A_step (cc := cL_has) rfl dL_has_14 rfl ls st H Q
theorem r30_15 : sw_A 30 15 ls st H Q = (match st with | [.int x] => (if 2 = 1 ∨ 2 = 2 ∧ (x = 0 ∨ x = 1) then Q (some (some (.int x))) H else False) | _ => False) := sw_A_step (cc := cL_has) rfl dL_has_15 rfl ls st H Q
theorem r31_0 : sw_A 31 0 ls st H Q = (sw_ldi False ls 2 fun x => sw_A 31 1 ls (.int x :: st) H Q) := sw_A_step (cc := cL_beside) rfl dL_beside_0 rfl ls st H Q
theorem r31_1 : sw_A 31 1 ls st H Q = (sw_A 31 3 ls (.int (Int32.ofInt 6) :: st) H Q) := sw_A_step (cc := cL_beside) rfl dL_beside_1 rfl ls st H Q
theorem r31_3 : sw_A 31 3 ls st H Q = (sw_i2 False st fun x y r => if y = 0 then False else sw_A 31 4 ls (.int (x - x / y * y) :: r) H Q) := sw_A_step (cc := cL_beside) rfl dL_beside_3 rfl ls st H Q
theorem r31_4 : sw_A 31 4 ls st H Q = (sw_i1 False st fun x r => if x ≤ 0 then sw_A 31 21 ls r H Q else sw_A 31 7 ls r H Q) := sw_A_step (cc := cL_beside) rfl dL_beside_4 rfl ls st H Q
theorem r31_7 : sw_A 31 7 ls st H Q = (sw_ldl False ls 0 fun x => sw_A 31 8 ls (.long x :: st) H Q) := sw_A_step (cc := cL_beside) rfl dL_beside_7 rfl ls st H Q
theorem r31_8 : sw_A 31 8 ls st H Q = (sw_ldi False ls 2 fun x => sw_A 31 9 ls (.int x :: st) H Q) := sw_A_step (cc := cL_beside) rfl dL_beside_8 rfl ls st H Q
theorem r31_9 : sw_A 31 9 ls st H Q = (sw_A 31 10 ls (.int (Int32.ofInt 1) :: st) H Q) := sw_A_step (cc := cL_beside) rfl dL_beside_9 rfl ls st H Q
theorem r31_10 : sw_A 31 10 ls st H Q = (sw_i2 False st fun x y r => sw_A 31 11 ls (.int (x - y) :: r) H Q) := sw_A_step (cc := cL_beside) rfl dL_beside_10 rfl ls st H Q
theorem r31_11 : sw_A 31 11 ls st H Q = (sw_pop False 2 st [] fun args r => sw_ck False r (sw_M 30 args H (sw_K 31 14 none ls r Q))) := sw_A_step (cc := cL_beside) rfl dL_beside_11 rfl ls st H Q
theorem r31_14 : sw_A 31 14 ls st H Q = (sw_i1 False st fun x r => if x = 0 then sw_A 31 21 ls r H Q else sw_A 31 17 ls r H Q) := sw_A_step (cc := cL_beside) rfl dL_beside_14 rfl ls st H Q
theorem r31_17 : sw_A 31 17 ls st H Q = (sw_A 31 18 ls (.int (Int32.ofInt 1) :: st) H Q) := sw_A_step (cc := cL_beside) rfl dL_beside_17 rfl ls st H Q
theorem r31_18 : sw_A 31 18 ls st H Q = (sw_A 31 22 ls st H Q) := sw_A_step (cc := cL_beside) rfl dL_beside_18 rfl ls st H Q
theorem r31_21 : sw_A 31 21 ls st H Q = (sw_A 31 22 ls (.int (Int32.ofInt 0) :: st) H Q) := sw_A_step (cc := cL_beside) rfl dL_beside_21 rfl ls st H Q
theorem r31_22 : sw_A 31 22 ls st H Q = (sw_has1 False ls 3 (sw_i1 False st fun x r => sw_A 31 23 (sw_set1 ls 3 (.int x)) r H Q)) := sw_A_step (cc := cL_beside) rfl dL_beside_22 rfl ls st H Q
theorem r31_23 : sw_A 31 23 ls st H Q = (sw_ldi False ls 3 fun x => sw_A 31 24 ls (.int x :: st) H Q) := sw_A_step (cc := cL_beside) rfl dL_beside_23 rfl ls st H Q
theorem r31_24 : sw_A 31 24 ls st H Q = (sw_ldi False ls 2 fun x => sw_A 31 25 ls (.int x :: st) H Q) := sw_A_step (cc := cL_beside) rfl dL_beside_24 rfl ls st H Q
theorem r31_25 : sw_A 31 25 ls st H Q = (sw_A 31 27 ls (.int (Int32.ofInt 6) :: st) H Q) := sw_A_step (cc := cL_beside) rfl dL_beside_25 rfl ls st H Q
theorem r31_27 : sw_A 31 27 ls st H Q = (sw_i2 False st fun x y r => if y = 0 then False else sw_A 31 28 ls (.int (x - x / y * y) :: r) H Q) := sw_A_step (cc := cL_beside) rfl dL_beside_27 rfl ls st H Q
theorem r31_28 : sw_A 31 28 ls st H Q = (sw_A 31 29 ls (.int (Int32.ofInt 5) :: st) H Q) := sw_A_step (cc := cL_beside) rfl dL_beside_28 rfl ls st H Q
theorem r31_29 : sw_A 31 29 ls st H Q = (sw_i2 False st fun x y r => if y ≤ x then sw_A 31 46 ls r H Q else sw_A 31 32 ls r H Q) := sw_A_step (cc := cL_beside) rfl dL_beside_29 rfl ls st H Q
theorem r31_32 : sw_A 31 32 ls st H Q = (sw_ldl False ls 0 fun x => sw_A 31 33 ls (.long x :: st) H Q) := sw_A_step (cc := cL_beside) rfl dL_beside_32 rfl ls st H Q
theorem r31_33 : sw_A 31 33 ls st H Q = (sw_ldi False ls 2 fun x => sw_A 31 34 ls (.int x :: st) H Q) := sw_A_step (cc := cL_beside) rfl dL_beside_33 rfl ls st H Q
theorem r31_34 : sw_A 31 34 ls st H Q = (sw_A 31 35 ls (.int (Int32.ofInt 1) :: st) H Q) := sw_A_step (cc := cL_beside) rfl dL_beside_34 rfl ls st H Q
theorem r31_35 : sw_A 31 35 ls st H Q = (sw_i2 False st fun x y r => sw_A 31 36 ls (.int (x + y) :: r) H Q) := sw_A_step (cc := cL_beside) rfl dL_beside_35 rfl ls st H Q
theorem r31_36 : sw_A 31 36 ls st H Q = (sw_pop False 2 st [] fun args r => sw_ck False r (sw_M 30 args H (sw_K 31 39 none ls r Q))) := sw_A_step (cc := cL_beside) rfl dL_beside_36 rfl ls st H Q
theorem r31_39 : sw_A 31 39 ls st H Q = (sw_i1 False st fun x r => if x = 0 then sw_A 31 46 ls r H Q else sw_A 31 42 ls r H Q) := sw_A_step (cc := cL_beside) rfl dL_beside_39 rfl ls st H Q
theorem r31_42 : sw_A 31 42 ls st H Q = (sw_A 31 43 ls (.int (Int32.ofInt 1) :: st) H Q) := sw_A_step (cc := cL_beside) rfl dL_beside_42 rfl ls st H Q
theorem r31_43 : sw_A 31 43 ls st H Q = (sw_A 31 47 ls st H Q) := sw_A_step (cc := cL_beside) rfl dL_beside_43 rfl ls st H Q
theorem r31_46 : sw_A 31 46 ls st H Q = (sw_A 31 47 ls (.int (Int32.ofInt 0) :: st) H Q) := sw_A_step (cc := cL_beside) rfl dL_beside_46 rfl ls st H Q
theorem r31_47 : sw_A 31 47 ls st H Q = (sw_i2 False st fun x y r => sw_A 31 48 ls (.int (x + y) :: r) H Q) := sw_A_step (cc := cL_beside) rfl dL_beside_47 rfl ls st H Q
theorem r31_48 : sw_A 31 48 ls st H Q = (sw_has1 False ls 3 (sw_i1 False st fun x r => sw_A 31 49 (sw_set1 ls 3 (.int x)) r H Q)) := sw_A_step (cc := cL_beside) rfl dL_beside_48 rfl ls st H Q
theorem r31_49 : sw_A 31 49 ls st H Q = (sw_ldi False ls 3 fun x => sw_A 31 50 ls (.int x :: st) H Q) := sw_A_step (cc := cL_beside) rfl dL_beside_49 rfl ls st H Q
theorem r31_50 : sw_A 31 50 ls st H Q = (sw_ldi False ls 2 fun x => sw_A 31 51 ls (.int x :: st) H Q) := sw_A_step (cc := cL_beside) rfl dL_beside_50 rfl ls st H Q
theorem r31_51 : sw_A 31 51 ls st H Q = (sw_A 31 52 ls (.int (Int32.ofInt 5) :: st) H Q) := sw_A_step (cc := cL_beside) rfl dL_beside_51 rfl ls st H Q
theorem r31_52 : sw_A 31 52 ls st H Q = (sw_i2 False st fun x y r => if x ≤ y then sw_A 31 70 ls r H Q else sw_A 31 55 ls r H Q) := sw_A_step (cc := cL_beside) rfl dL_beside_52 rfl ls st H Q
theorem r31_55 : sw_A 31 55 ls st H Q = (sw_ldl False ls 0 fun x => sw_A 31 56 ls (.long x :: st) H Q) := sw_A_step (cc := cL_beside) rfl dL_beside_55 rfl ls st H Q
theorem r31_56 : sw_A 31 56 ls st H Q = (sw_ldi False ls 2 fun x => sw_A 31 57 ls (.int x :: st) H Q) := sw_A_step (cc := cL_beside) rfl dL_beside_56 rfl ls st H Q
theorem r31_57 : sw_A 31 57 ls st H Q = (sw_A 31 59 ls (.int (Int32.ofInt 6) :: st) H Q) := sw_A_step (cc := cL_beside) rfl dL_beside_57 rfl ls st H Q
theorem r31_59 : sw_A 31 59 ls st H Q = (sw_i2 False st fun x y r => sw_A 31 60 ls (.int (x - y) :: r) H Q) := sw_A_step (cc := cL_beside) rfl dL_beside_59 rfl ls st H Q
theorem r31_60 : sw_A 31 60 ls st H Q = (sw_pop False 2 st [] fun args r => sw_ck False r (sw_M 30 args H (sw_K 31 63 none ls r Q))) := sw_A_step (cc := cL_beside) rfl dL_beside_60 rfl ls st H Q
theorem r31_63 : sw_A 31 63 ls st H Q = (sw_i1 False st fun x r => if x = 0 then sw_A 31 70 ls r H Q else sw_A 31 66 ls r H Q) := sw_A_step (cc := cL_beside) rfl dL_beside_63 rfl ls st H Q
theorem r31_66 : sw_A 31 66 ls st H Q = (sw_A 31 67 ls (.int (Int32.ofInt 1) :: st) H Q) := sw_A_step (cc := cL_beside) rfl dL_beside_66 rfl ls st H Q
theorem r31_67 : sw_A 31 67 ls st H Q = (sw_A 31 71 ls st H Q) := sw_A_step (cc := cL_beside) rfl dL_beside_67 rfl ls st H Q
theorem r31_70 : sw_A 31 70 ls st H Q = (sw_A 31 71 ls (.int (Int32.ofInt 0) :: st) H Q) := sw_A_step (cc := cL_beside) rfl dL_beside_70 rfl ls st H Q
theorem r31_71 : sw_A 31 71 ls st H Q = (sw_i2 False st fun x y r => sw_A 31 72 ls (.int (x + y) :: r) H Q) := sw_A_step (cc := cL_beside) rfl dL_beside_71 rfl ls st H Q
theorem r31_72 : sw_A 31 72 ls st H Q = (sw_has1 False ls 3 (sw_i1 False st fun x r => sw_A 31 73 (sw_set1 ls 3 (.int x)) r H Q)) := sw_A_step (cc := cL_beside) rfl dL_beside_72 rfl ls st H Q
theorem r31_73 : sw_A 31 73 ls st H Q = (sw_ldi False ls 3 fun x => sw_A 31 74 ls (.int x :: st) H Q) := sw_A_step (cc := cL_beside) rfl dL_beside_73 rfl ls st H Q
theorem r31_74 : sw_A 31 74 ls st H Q = (sw_ldi False ls 2 fun x => sw_A 31 75 ls (.int x :: st) H Q) := sw_A_step (cc := cL_beside) rfl dL_beside_74 rfl ls st H Q
theorem r31_75 : sw_A 31 75 ls st H Q = (sw_A 31 77 ls (.int (Int32.ofInt 30) :: st) H Q) := sw_A_step (cc := cL_beside) rfl dL_beside_75 rfl ls st H Q
theorem r31_77 : sw_A 31 77 ls st H Q = (sw_i2 False st fun x y r => if y ≤ x then sw_A 31 95 ls r H Q else sw_A 31 80 ls r H Q) := sw_A_step (cc := cL_beside) rfl dL_beside_77 rfl ls st H Q
theorem r31_80 : sw_A 31 80 ls st H Q = (sw_ldl False ls 0 fun x => sw_A 31 81 ls (.long x :: st) H Q) := sw_A_step (cc := cL_beside) rfl dL_beside_80 rfl ls st H Q
theorem r31_81 : sw_A 31 81 ls st H Q = (sw_ldi False ls 2 fun x => sw_A 31 82 ls (.int x :: st) H Q) := sw_A_step (cc := cL_beside) rfl dL_beside_81 rfl ls st H Q
theorem r31_82 : sw_A 31 82 ls st H Q = (sw_A 31 84 ls (.int (Int32.ofInt 6) :: st) H Q) := sw_A_step (cc := cL_beside) rfl dL_beside_82 rfl ls st H Q
theorem r31_84 : sw_A 31 84 ls st H Q = (sw_i2 False st fun x y r => sw_A 31 85 ls (.int (x + y) :: r) H Q) := sw_A_step (cc := cL_beside) rfl dL_beside_84 rfl ls st H Q
theorem r31_85 : sw_A 31 85 ls st H Q = (sw_pop False 2 st [] fun args r => sw_ck False r (sw_M 30 args H (sw_K 31 88 none ls r Q))) := sw_A_step (cc := cL_beside) rfl dL_beside_85 rfl ls st H Q
theorem r31_88 : sw_A 31 88 ls st H Q = (sw_i1 False st fun x r => if x = 0 then sw_A 31 95 ls r H Q else sw_A 31 91 ls r H Q) := sw_A_step (cc := cL_beside) rfl dL_beside_88 rfl ls st H Q
theorem r31_91 : sw_A 31 91 ls st H Q = (sw_A 31 92 ls (.int (Int32.ofInt 1) :: st) H Q) := sw_A_step (cc := cL_beside) rfl dL_beside_91 rfl ls st H Q
theorem r31_92 : sw_A 31 92 ls st H Q = (sw_A 31 96 ls st H Q) := sw_A_step (cc := cL_beside) rfl dL_beside_92 rfl ls st H Q
theorem r31_95 : sw_A 31 95 ls st H Q = (sw_A 31 96 ls (.int (Int32.ofInt 0) :: st) H Q) := sw_A_step (cc := cL_beside) rfl dL_beside_95 rfl ls st H Q
theorem r31_96 : sw_A 31 96 ls st H Q = (sw_i2 False st fun x y r => sw_A 31 97 ls (.int (x + y) :: r) H Q) := sw_A_step (cc := cL_beside) rfl dL_beside_96 rfl ls st H Q
theorem r31_97 : sw_A 31 97 ls st H Q = (match st with | [.int x] => Q (some (some (.int x))) H | _ => False) := sw_A_step (cc := cL_beside) rfl dL_beside_97 rfl ls st H Q
theorem r32_0 : sw_A 32 0 ls st H Q = (sw_ldi False ls 1 fun x => sw_A 32 1 ls (.int x :: st) H Q) := sw_A_step (cc := cX11_siteBeside) rfl dX11_siteBeside_0 rfl ls st H Q
theorem r32_1 : sw_A 32 1 ls st H Q = (sw_i1 False st fun x r => sw_ts False 1 x 74 0 2 #[27, 43, 58] fun t => sw_A 32 t ls r H Q) := sw_A_step (cc := cX11_siteBeside) rfl dX11_siteBeside_1 rfl ls st H Q
theorem r32_28 : sw_A 32 28 ls st H Q = (sw_ldi False ls 0 fun x => sw_A 32 29 ls (.int x :: st) H Q) := sw_A_step (cc := cX11_siteBeside) rfl dX11_siteBeside_28 rfl ls st H Q
theorem r32_29 : sw_A 32 29 ls st H Q = (sw_A 32 31 ls (.int (Int32.ofInt 6) :: st) H Q) := sw_A_step (cc := cX11_siteBeside) rfl dX11_siteBeside_29 rfl ls st H Q
theorem r32_31 : sw_A 32 31 ls st H Q = (sw_i2 False st fun x y r => if y = 0 then False else sw_A 32 32 ls (.int (x / y) :: r) H Q) := sw_A_step (cc := cX11_siteBeside) rfl dX11_siteBeside_31 rfl ls st H Q
theorem r32_32 : sw_A 32 32 ls st H Q = (sw_i1 False st fun x r => if x ≤ 0 then sw_A 32 42 ls r H Q else sw_A 32 35 ls r H Q) := sw_A_step (cc := cX11_siteBeside) rfl dX11_siteBeside_32 rfl ls st H Q
theorem r32_35 : sw_A 32 35 ls st H Q = (sw_ldi False ls 0 fun x => sw_A 32 36 ls (.int x :: st) H Q) := sw_A_step (cc := cX11_siteBeside) rfl dX11_siteBeside_35 rfl ls st H Q
theorem r32_36 : sw_A 32 36 ls st H Q = (sw_A 32 38 ls (.int (Int32.ofInt 6) :: st) H Q) := sw_A_step (cc := cX11_siteBeside) rfl dX11_siteBeside_36 rfl ls st H Q
theorem r32_38 : sw_A 32 38 ls st H Q = (sw_i2 False st fun x y r => sw_A 32 39 ls (.int (x - y) :: r) H Q) := sw_A_step (cc := cX11_siteBeside) rfl dX11_siteBeside_38 rfl ls st H Q
theorem r32_39 : sw_A 32 39 ls st H Q = (sw_A 32 43 ls st H Q) := sw_A_step (cc := cX11_siteBeside) rfl dX11_siteBeside_39 rfl ls st H Q
theorem r32_42 : sw_A 32 42 ls st H Q = (sw_A 32 43 ls (.int (Int32.ofInt (-1)) :: st) H Q) := sw_A_step (cc := cX11_siteBeside) rfl dX11_siteBeside_42 rfl ls st H Q
theorem r32_43 : sw_A 32 43 ls st H Q = (match st with | [.int x] => Q (some (some (.int x))) H | _ => False) := sw_A_step (cc := cX11_siteBeside) rfl dX11_siteBeside_43 rfl ls st H Q
theorem r32_44 : sw_A 32 44 ls st H Q = (sw_ldi False ls 0 fun x => sw_A 32 45 ls (.int x :: st) H Q) := sw_A_step (cc := cX11_siteBeside) rfl dX11_siteBeside_44 rfl ls st H Q
theorem r32_45 : sw_A 32 45 ls st H Q = (sw_A 32 47 ls (.int (Int32.ofInt 6) :: st) H Q) := sw_A_step (cc := cX11_siteBeside) rfl dX11_siteBeside_45 rfl ls st H Q
theorem r32_47 : sw_A 32 47 ls st H Q = (sw_i2 False st fun x y r => if y = 0 then False else sw_A 32 48 ls (.int (x - x / y * y) :: r) H Q) := sw_A_step (cc := cX11_siteBeside) rfl dX11_siteBeside_47 rfl ls st H Q
theorem r32_48 : sw_A 32 48 ls st H Q = (sw_i1 False st fun x r => if x ≤ 0 then sw_A 32 57 ls r H Q else sw_A 32 51 ls r H Q) := sw_A_step (cc := cX11_siteBeside) rfl dX11_siteBeside_48 rfl ls st H Q
theorem r32_51 : sw_A 32 51 ls st H Q = (sw_ldi False ls 0 fun x => sw_A 32 52 ls (.int x :: st) H Q) := sw_A_step (cc := cX11_siteBeside) rfl dX11_siteBeside_51 rfl ls st H Q
theorem r32_52 : sw_A 32 52 ls st H Q = (sw_A 32 53 ls (.int (Int32.ofInt 1) :: st) H Q) := sw_A_step (cc := cX11_siteBeside) rfl dX11_siteBeside_52 rfl ls st H Q
theorem r32_53 : sw_A 32 53 ls st H Q = (sw_i2 False st fun x y r => sw_A 32 54 ls (.int (x - y) :: r) H Q) := sw_A_step (cc := cX11_siteBeside) rfl dX11_siteBeside_53 rfl ls st H Q
theorem r32_54 : sw_A 32 54 ls st H Q = (sw_A 32 58 ls st H Q) := sw_A_step (cc := cX11_siteBeside) rfl dX11_siteBeside_54 rfl ls st H Q
theorem r32_57 : sw_A 32 57 ls st H Q = (sw_A 32 58 ls (.int (Int32.ofInt (-1)) :: st) H Q) := sw_A_step (cc := cX11_siteBeside) rfl dX11_siteBeside_57 rfl ls st H Q
theorem r32_58 : sw_A 32 58 ls st H Q = (match st with | [.int x] => Q (some (some (.int x))) H | _ => False) := sw_A_step (cc := cX11_siteBeside) rfl dX11_siteBeside_58 rfl ls st H Q
theorem r32_59 : sw_A 32 59 ls st H Q = (sw_ldi False ls 0 fun x => sw_A 32 60 ls (.int x :: st) H Q) := sw_A_step (cc := cX11_siteBeside) rfl dX11_siteBeside_59 rfl ls st H Q
theorem r32_60 : sw_A 32 60 ls st H Q = (sw_A 32 62 ls (.int (Int32.ofInt 6) :: st) H Q) := sw_A_step (cc := cX11_siteBeside) rfl dX11_siteBeside_60 rfl ls st H Q
theorem r32_62 : sw_A 32 62 ls st H Q = (sw_i2 False st fun x y r => if y = 0 then False else sw_A 32 63 ls (.int (x - x / y * y) :: r) H Q) := sw_A_step (cc := cX11_siteBeside) rfl dX11_siteBeside_62 rfl ls st H Q
theorem r32_63 : sw_A 32 63 ls st H Q = (sw_A 32 64 ls (.int (Int32.ofInt 5) :: st) H Q) := sw_A_step (cc := cX11_siteBeside) rfl dX11_siteBeside_63 rfl ls st H Q
theorem r32_64 : sw_A 32 64 ls st H Q = (sw_i2 False st fun x y r => if y ≤ x then sw_A 32 73 ls r H Q else sw_A 32 67 ls r H Q) := sw_A_step (cc := cX11_siteBeside) rfl dX11_siteBeside_64 rfl ls st H Q
theorem r32_67 : sw_A 32 67 ls st H Q = (sw_ldi False ls 0 fun x => sw_A 32 68 ls (.int x :: st) H Q) := sw_A_step (cc := cX11_siteBeside) rfl dX11_siteBeside_67 rfl ls st H Q
theorem r32_68 : sw_A 32 68 ls st H Q = (sw_A 32 69 ls (.int (Int32.ofInt 1) :: st) H Q) := sw_A_step (cc := cX11_siteBeside) rfl dX11_siteBeside_68 rfl ls st H Q
theorem r32_69 : sw_A 32 69 ls st H Q = (sw_i2 False st fun x y r => sw_A 32 70 ls (.int (x + y) :: r) H Q) := sw_A_step (cc := cX11_siteBeside) rfl dX11_siteBeside_69 rfl ls st H Q
theorem r32_70 : sw_A 32 70 ls st H Q = (sw_A 32 74 ls st H Q) := sw_A_step (cc := cX11_siteBeside) rfl dX11_siteBeside_70 rfl ls st H Q
theorem r32_73 : sw_A 32 73 ls st H Q = (sw_A 32 74 ls (.int (Int32.ofInt (-1)) :: st) H Q) := sw_A_step (cc := cX11_siteBeside) rfl dX11_siteBeside_73 rfl ls st H Q
theorem r32_74 : sw_A 32 74 ls st H Q = (match st with | [.int x] => Q (some (some (.int x))) H | _ => False) := sw_A_step (cc := cX11_siteBeside) rfl dX11_siteBeside_74 rfl ls st H Q
theorem r32_75 : sw_A 32 75 ls st H Q = (sw_ldi False ls 0 fun x => sw_A 32 76 ls (.int x :: st) H Q) := sw_A_step (cc := cX11_siteBeside) rfl dX11_siteBeside_75 rfl ls st H Q
theorem r32_76 : sw_A 32 76 ls st H Q = (sw_A 32 78 ls (.int (Int32.ofInt 6) :: st) H Q) := sw_A_step (cc := cX11_siteBeside) rfl dX11_siteBeside_76 rfl ls st H Q
theorem r32_78 : sw_A 32 78 ls st H Q = (sw_i2 False st fun x y r => if y = 0 then False else sw_A 32 79 ls (.int (x / y) :: r) H Q) := sw_A_step (cc := cX11_siteBeside) rfl dX11_siteBeside_78 rfl ls st H Q
theorem r32_79 : sw_A 32 79 ls st H Q = (sw_A 32 80 ls (.int (Int32.ofInt 5) :: st) H Q) := sw_A_step (cc := cX11_siteBeside) rfl dX11_siteBeside_79 rfl ls st H Q
theorem r32_80 : sw_A 32 80 ls st H Q = (sw_i2 False st fun x y r => if y ≤ x then sw_A 32 90 ls r H Q else sw_A 32 83 ls r H Q) := sw_A_step (cc := cX11_siteBeside) rfl dX11_siteBeside_80 rfl ls st H Q
theorem r32_83 : sw_A 32 83 ls st H Q = (sw_ldi False ls 0 fun x => sw_A 32 84 ls (.int x :: st) H Q) := sw_A_step (cc := cX11_siteBeside) rfl dX11_siteBeside_83 rfl ls st H Q
theorem r32_84 : sw_A 32 84 ls st H Q = (sw_A 32 86 ls (.int (Int32.ofInt 6) :: st) H Q) := sw_A_step (cc := cX11_siteBeside) rfl dX11_siteBeside_84 rfl ls st H Q
theorem r32_86 : sw_A 32 86 ls st H Q = (sw_i2 False st fun x y r => sw_A 32 87 ls (.int (x + y) :: r) H Q) := sw_A_step (cc := cX11_siteBeside) rfl dX11_siteBeside_86 rfl ls st H Q
theorem r32_87 : sw_A 32 87 ls st H Q = (sw_A 32 91 ls st H Q) := sw_A_step (cc := cX11_siteBeside) rfl dX11_siteBeside_87 rfl ls st H Q
theorem r32_90 : sw_A 32 90 ls st H Q = (sw_A 32 91 ls (.int (Int32.ofInt (-1)) :: st) H Q) := sw_A_step (cc := cX11_siteBeside) rfl dX11_siteBeside_90 rfl ls st H Q
theorem r32_91 : sw_A 32 91 ls st H Q = (match st with | [.int x] => Q (some (some (.int x))) H | _ => False) := sw_A_step (cc := cX11_siteBeside) rfl dX11_siteBeside_91 rfl ls st H Q
theorem r33_0 : sw_A 33 0 ls st H Q = (sw_A 33 1 ls (.int (Int32.ofInt 0) :: st) H Q) := sw_A_step (cc := cX7_countNotShutBeside) rfl dX7_countNotShutBeside_0 rfl ls st H Q
theorem r33_1 : sw_A 33 1 ls st H Q = (sw_has1 False ls 2 (sw_i1 False st fun x r => sw_A 33 2 (sw_set1 ls 2 (.int x)) r H Q)) := sw_A_step (cc := cX7_countNotShutBeside) rfl dX7_countNotShutBeside_1 rfl ls st H Q
theorem r33_2 : sw_A 33 2 ls st H Q = (sw_A 33 3 ls (.int (Int32.ofInt 0) :: st) H Q) := sw_A_step (cc := cX7_countNotShutBeside) rfl dX7_countNotShutBeside_2 rfl ls st H Q
theorem r33_3 : sw_A 33 3 ls st H Q = (sw_has1 False ls 3 (sw_i1 False st fun x r => sw_A 33 4 (sw_set1 ls 3 (.int x)) r H Q)) := sw_A_step (cc := cX7_countNotShutBeside) rfl dX7_countNotShutBeside_3 rfl ls st H Q
theorem r33_4 : sw_A 33 4 ls st H Q = (sw_ldi False ls 3 fun x => sw_A 33 5 ls (.int x :: st) H Q) := sw_A_step (cc := cX7_countNotShutBeside) rfl dX7_countNotShutBeside_4 rfl ls st H Q
theorem r33_5 : sw_A 33 5 ls st H Q = (sw_A 33 6 ls (.int (Int32.ofInt 4) :: st) H Q) := sw_A_step (cc := cX7_countNotShutBeside) rfl dX7_countNotShutBeside_5 rfl ls st H Q
theorem r33_6 : sw_A 33 6 ls st H Q = (sw_i2 False st fun x y r => if y ≤ x then sw_A 33 41 ls r H Q else sw_A 33 9 ls r H Q) := sw_A_step (cc := cX7_countNotShutBeside) rfl dX7_countNotShutBeside_6 rfl ls st H Q
theorem r33_9 : sw_A 33 9 ls st H Q = (sw_ldi False ls 1 fun x => sw_A 33 10 ls (.int x :: st) H Q) := sw_A_step (cc := cX7_countNotShutBeside) rfl dX7_countNotShutBeside_9 rfl ls st H Q
theorem r33_10 : sw_A 33 10 ls st H Q = (sw_ldi False ls 3 fun x => sw_A 33 11 ls (.int x :: st) H Q) := sw_A_step (cc := cX7_countNotShutBeside) rfl dX7_countNotShutBeside_10 rfl ls st H Q
theorem r33_11 : sw_A 33 11 ls st H Q = (sw_pop False 2 st [] fun args r => sw_ck False r (sw_M 32 args H (sw_K 33 14 none ls r Q))) := sw_A_step (cc := cX7_countNotShutBeside) rfl dX7_countNotShutBeside_11 rfl ls st H Q
theorem r33_14 : sw_A 33 14 ls st H Q = (sw_has1 False ls 4 (sw_i1 False st fun x r => sw_A 33 16 (sw_set1 ls 4 (.int x)) r H Q)) := sw_A_step (cc := cX7_countNotShutBeside) rfl dX7_countNotShutBeside_14 rfl ls st H Q
theorem r33_16 : sw_A 33 16 ls st H Q = (sw_ldi False ls 4 fun x => sw_A 33 18 ls (.int x :: st) H Q) := sw_A_step (cc := cX7_countNotShutBeside) rfl dX7_countNotShutBeside_16 rfl ls st H Q
theorem r33_18 : sw_A 33 18 ls st H Q = (sw_A 33 19 ls (.int (Int32.ofInt (-1)) :: st) H Q) := sw_A_step (cc := cX7_countNotShutBeside) rfl dX7_countNotShutBeside_18 rfl ls st H Q
theorem r33_19 : sw_A 33 19 ls st H Q = (sw_i2 False st fun x y r => if x = y then sw_A 33 35 ls r H Q else sw_A 33 22 ls r H Q) := sw_A_step (cc := cX7_countNotShutBeside) rfl dX7_countNotShutBeside_19 rfl ls st H Q
theorem r33_22 : sw_A 33 22 ls st H Q = (sw_lda False ls 0 fun x => sw_A 33 23 ls (.ref x :: st) H Q) := sw_A_step (cc := cX7_countNotShutBeside) rfl dX7_countNotShutBeside_22 rfl ls st H Q
theorem r33_23 : sw_A 33 23 ls st H Q = (sw_r1 False st fun a r => sw_gf False H (some (7, 0, 1)) a fun v => sw_A 33 26 ls (v :: r) H Q) := sw_A_step (cc := cX7_countNotShutBeside) rfl dX7_countNotShutBeside_23 rfl ls st H Q
theorem r33_26 : sw_A 33 26 ls st H Q = (sw_ldi False ls 4 fun x => sw_A 33 28 ls (.int x :: st) H Q) := sw_A_step (cc := cX7_countNotShutBeside) rfl dX7_countNotShutBeside_26 rfl ls st H Q
theorem r33_28 : sw_A 33 28 ls st H Q = (sw_ri False st fun a i r => sw_ald False H 1 a i fun x => sw_A 33 29 ls (.int x :: r) H Q) := sw_A_step (cc := cX7_countNotShutBeside) rfl dX7_countNotShutBeside_28 rfl ls st H Q
theorem r33_29 : sw_A 33 29 ls st H Q = (sw_i1 False st fun x r => if ¬ x = 0 then sw_A 33 35 ls r H Q else sw_A 33 32 ls r H Q) := sw_A_step (cc := cX7_countNotShutBeside) rfl dX7_countNotShutBeside_29 rfl ls st H Q
theorem r33_32 : sw_A 33 32 ls st H Q = (sw_ldi False ls 2 fun x => sw_A 33 35 (sw_set1 ls 2 (.int (x + Int32.ofInt 1))) st H Q) := sw_A_step (cc := cX7_countNotShutBeside) rfl dX7_countNotShutBeside_32 rfl ls st H Q
theorem r33_35 : sw_A 33 35 ls st H Q = (sw_ldi False ls 3 fun x => sw_A 33 38 (sw_set1 ls 3 (.int (x + Int32.ofInt 1))) st H Q) := sw_A_step (cc := cX7_countNotShutBeside) rfl dX7_countNotShutBeside_35 rfl ls st H Q
theorem r33_38 : sw_A 33 38 ls st H Q = (sw_A 33 4 ls st H Q) := sw_A_step (cc := cX7_countNotShutBeside) rfl dX7_countNotShutBeside_38 rfl ls st H Q
theorem r33_41 : sw_A 33 41 ls st H Q = (sw_ldi False ls 2 fun x => sw_A 33 42 ls (.int x :: st) H Q) := sw_A_step (cc := cX7_countNotShutBeside) rfl dX7_countNotShutBeside_41 rfl ls st H Q
theorem r33_42 : sw_A 33 42 ls st H Q = (match st with | [.int x] => Q (some (some (.int x))) H | _ => False) := sw_A_step (cc := cX7_countNotShutBeside) rfl dX7_countNotShutBeside_42 rfl ls st H Q
theorem r34_0 : sw_A 34 0 ls st H Q = (sw_A 34 1 ls (.int (Int32.ofInt (-1)) :: st) H Q) := sw_A_step (cc := cX7_firstInRank) rfl dX7_firstInRank_0 rfl ls st H Q
theorem r34_1 : sw_A 34 1 ls st H Q = (sw_has1 False ls 1 (sw_i1 False st fun x r => sw_A 34 2 (sw_set1 ls 1 (.int x)) r H Q)) := sw_A_step (cc := cX7_firstInRank) rfl dX7_firstInRank_1 rfl ls st H Q
theorem r34_2 : sw_A 34 2 ls st H Q = (sw_A 34 3 ls (.int (Int32.ofInt (-1)) :: st) H Q) := sw_A_step (cc := cX7_firstInRank) rfl dX7_firstInRank_2 rfl ls st H Q
theorem r34_3 : sw_A 34 3 ls st H Q = (sw_has1 False ls 2 (sw_i1 False st fun x r => sw_A 34 4 (sw_set1 ls 2 (.int x)) r H Q)) := sw_A_step (cc := cX7_firstInRank) rfl dX7_firstInRank_3 rfl ls st H Q
theorem r34_4 : sw_A 34 4 ls st H Q = (sw_A 34 5 ls (.int (Int32.ofInt 0) :: st) H Q) := sw_A_step (cc := cX7_firstInRank) rfl dX7_firstInRank_4 rfl ls st H Q
theorem r34_5 : sw_A 34 5 ls st H Q = (sw_has1 False ls 3 (sw_i1 False st fun x r => sw_A 34 6 (sw_set1 ls 3 (.int x)) r H Q)) := sw_A_step (cc := cX7_firstInRank) rfl dX7_firstInRank_5 rfl ls st H Q
theorem r34_6 : sw_A 34 6 ls st H Q = (sw_ldi False ls 3 fun x => sw_A 34 7 ls (.int x :: st) H Q) := sw_A_step (cc := cX7_firstInRank) rfl dX7_firstInRank_6 rfl ls st H Q
theorem r34_7 : sw_A 34 7 ls st H Q = (sw_A 34 9 ls (.int (Int32.ofInt 36) :: st) H Q) := sw_A_step (cc := cX7_firstInRank) rfl dX7_firstInRank_7 rfl ls st H Q
theorem r34_9 : sw_A 34 9 ls st H Q = (sw_i2 False st fun x y r => if y ≤ x then sw_A 34 49 ls r H Q else sw_A 34 12 ls r H Q) := sw_A_step (cc := cX7_firstInRank) rfl dX7_firstInRank_9 rfl ls st H Q
theorem r34_12 : sw_A 34 12 ls st H Q = (sw_lda False ls 0 fun x => sw_A 34 13 ls (.ref x :: st) H Q) := sw_A_step (cc := cX7_firstInRank) rfl dX7_firstInRank_12 rfl ls st H Q
theorem r34_13 : sw_A 34 13 ls st H Q = (sw_r1 False st fun a r => sw_gf False H (some (7, 0, 1)) a fun v => sw_A 34 16 ls (v :: r) H Q) := sw_A_step (cc := cX7_firstInRank) rfl dX7_firstInRank_13 rfl ls st H Q
theorem r34_16 : sw_A 34 16 ls st H Q = (sw_ldi False ls 3 fun x => sw_A 34 17 ls (.int x :: st) H Q) := sw_A_step (cc := cX7_firstInRank) rfl dX7_firstInRank_16 rfl ls st H Q
theorem r34_17 : sw_A 34 17 ls st H Q = (sw_ri False st fun a i r => sw_ald False H 1 a i fun x => sw_A 34 18 ls (.int x :: r) H Q) := sw_A_step (cc := cX7_firstInRank) rfl dX7_firstInRank_17 rfl ls st H Q
theorem r34_18 : sw_A 34 18 ls st H Q = (sw_i1 False st fun x r => if x = 0 then sw_A 34 25 ls r H Q else sw_A 34 21 ls r H Q) := sw_A_step (cc := cX7_firstInRank) rfl dX7_firstInRank_18 rfl ls st H Q
theorem r34_21 : sw_A 34 21 ls st H Q = (sw_A 34 22 ls (.int (Int32.ofInt (-1)) :: st) H Q) := sw_A_step (cc := cX7_firstInRank) rfl dX7_firstInRank_21 rfl ls st H Q
theorem r34_22 : sw_A 34 22 ls st H Q = (sw_A 34 30 ls st H Q) := sw_A_step (cc := cX7_firstInRank) rfl dX7_firstInRank_22 rfl ls st H Q
theorem r34_25 : sw_A 34 25 ls st H Q = (sw_lda False ls 0 fun x => sw_A 34 26 ls (.ref x :: st) H Q) := sw_A_step (cc := cX7_firstInRank) rfl dX7_firstInRank_25 rfl ls st H Q
theorem r34_26 : sw_A 34 26 ls st H Q = (sw_ldi False ls 3 fun x => sw_A 34 27 ls (.int x :: st) H Q) := sw_A_step (cc := cX7_firstInRank) rfl dX7_firstInRank_26 rfl ls st H Q
theorem r34_27 : sw_A 34 27 ls st H Q = (sw_pop False 2 st [] fun args r => sw_ck False r (sw_rc False H (some 7) args (sw_M 33 args H (sw_K 34 30 none ls r Q)))) := sw_A_step (cc := cX7_firstInRank) rfl dX7_firstInRank_27 rfl ls st H Q
theorem r34_30 : sw_A 34 30 ls st H Q = (sw_has1 False ls 4 (sw_i1 False st fun x r => sw_A 34 32 (sw_set1 ls 4 (.int x)) r H Q)) := sw_A_step (cc := cX7_firstInRank) rfl dX7_firstInRank_30 rfl ls st H Q
theorem r34_32 : sw_A 34 32 ls st H Q = (sw_ldi False ls 4 fun x => sw_A 34 34 ls (.int x :: st) H Q) := sw_A_step (cc := cX7_firstInRank) rfl dX7_firstInRank_32 rfl ls st H Q
theorem r34_34 : sw_A 34 34 ls st H Q = (sw_ldi False ls 2 fun x => sw_A 34 35 ls (.int x :: st) H Q) := sw_A_step (cc := cX7_firstInRank) rfl dX7_firstInRank_34 rfl ls st H Q
theorem r34_35 : sw_A 34 35 ls st H Q = (sw_i2 False st fun x y r => if x ≤ y then sw_A 34 43 ls r H Q else sw_A 34 38 ls r H Q) := sw_A_step (cc := cX7_firstInRank) rfl dX7_firstInRank_35 rfl ls st H Q
theorem r34_38 : sw_A 34 38 ls st H Q = (sw_ldi False ls 4 fun x => sw_A 34 40 ls (.int x :: st) H Q) := sw_A_step (cc := cX7_firstInRank) rfl dX7_firstInRank_38 rfl ls st H Q
theorem r34_40 : sw_A 34 40 ls st H Q = (sw_has1 False ls 2 (sw_i1 False st fun x r => sw_A 34 41 (sw_set1 ls 2 (.int x)) r H Q)) := sw_A_step (cc := cX7_firstInRank) rfl dX7_firstInRank_40 rfl ls st H Q
theorem r34_41 : sw_A 34 41 ls st H Q = (sw_ldi False ls 3 fun x => sw_A 34 42 ls (.int x :: st) H Q) := sw_A_step (cc := cX7_firstInRank) rfl dX7_firstInRank_41 rfl ls st H Q
theorem r34_42 : sw_A 34 42 ls st H Q = (sw_has1 False ls 1 (sw_i1 False st fun x r => sw_A 34 43 (sw_set1 ls 1 (.int x)) r H Q)) := sw_A_step (cc := cX7_firstInRank) rfl dX7_firstInRank_42 rfl ls st H Q
theorem r34_43 : sw_A 34 43 ls st H Q = (sw_ldi False ls 3 fun x => sw_A 34 46 (sw_set1 ls 3 (.int (x + Int32.ofInt 1))) st H Q) := sw_A_step (cc := cX7_firstInRank) rfl dX7_firstInRank_43 rfl ls st H Q
theorem r34_46 : sw_A 34 46 ls st H Q = (sw_A 34 6 ls st H Q) := sw_A_step (cc := cX7_firstInRank) rfl dX7_firstInRank_46 rfl ls st H Q
theorem r34_49 : sw_A 34 49 ls st H Q = (sw_ldi False ls 1 fun x => sw_A 34 50 ls (.int x :: st) H Q) := sw_A_step (cc := cX7_firstInRank) rfl dX7_firstInRank_49 rfl ls st H Q
theorem r34_50 : sw_A 34 50 ls st H Q = (match st with | [.int x] => Q (some (some (.int x))) H | _ => False) := sw_A_step (cc := cX7_firstInRank) rfl dX7_firstInRank_50 rfl ls st H Q
theorem r35_0 : sw_A 35 0 ls st H Q = (sw_A 35 1 ls (.int (Int32.ofInt 0) :: st) H Q) := sw_A_step (cc := cX11_countTrue) rfl dX11_countTrue_0 rfl ls st H Q
theorem r35_1 : sw_A 35 1 ls st H Q = (sw_has1 False ls 1 (sw_i1 False st fun x r => sw_A 35 2 (sw_set1 ls 1 (.int x)) r H Q)) := sw_A_step (cc := cX11_countTrue) rfl dX11_countTrue_1 rfl ls st H Q
theorem r35_2 : sw_A 35 2 ls st H Q = (sw_lda False ls 0 fun x => sw_A 35 3 ls (.ref x :: st) H Q) := sw_A_step (cc := cX11_countTrue) rfl dX11_countTrue_2 rfl ls st H Q
theorem r35_3 : sw_A 35 3 ls st H Q = (sw_has1 False ls 2 (sw_r1 False st fun x r => sw_A 35 4 (sw_set1 ls 2 (.ref x)) r H Q)) := sw_A_step (cc := cX11_countTrue) rfl dX11_countTrue_3 rfl ls st H Q
theorem r35_4 : sw_A 35 4 ls st H Q = (sw_lda False ls 2 fun x => sw_A 35 5 ls (.ref x :: st) H Q) := sw_A_step (cc := cX11_countTrue) rfl dX11_countTrue_4 rfl ls st H Q
theorem r35_5 : sw_A 35 5 ls st H Q = (sw_r1 False st fun a r => sw_aln False H a fun x => sw_A 35 6 ls (.int x :: r) H Q) := sw_A_step (cc := cX11_countTrue) rfl dX11_countTrue_5 rfl ls st H Q
theorem r35_6 : sw_A 35 6 ls st H Q = (sw_has1 False ls 3 (sw_i1 False st fun x r => sw_A 35 7 (sw_set1 ls 3 (.int x)) r H Q)) := sw_A_step (cc := cX11_countTrue) rfl dX11_countTrue_6 rfl ls st H Q
theorem r35_7 : sw_A 35 7 ls st H Q = (sw_A 35 8 ls (.int (Int32.ofInt 0) :: st) H Q) := sw_A_step (cc := cX11_countTrue) rfl dX11_countTrue_7 rfl ls st H Q
theorem r35_8 : sw_A 35 8 ls st H Q = (sw_has1 False ls 4 (sw_i1 False st fun x r => sw_A 35 10 (sw_set1 ls 4 (.int x)) r H Q)) := sw_A_step (cc := cX11_countTrue) rfl dX11_countTrue_8 rfl ls st H Q
theorem r35_10 : sw_A 35 10 ls st H Q = (sw_ldi False ls 4 fun x => sw_A 35 12 ls (.int x :: st) H Q) := sw_A_step (cc := cX11_countTrue) rfl dX11_countTrue_10 rfl ls st H Q
theorem r35_12 : sw_A 35 12 ls st H Q = (sw_ldi False ls 3 fun x => sw_A 35 13 ls (.int x :: st) H Q) := sw_A_step (cc := cX11_countTrue) rfl dX11_countTrue_12 rfl ls st H Q
theorem r35_13 : sw_A 35 13 ls st H Q = (sw_i2 False st fun x y r => if y ≤ x then sw_A 35 36 ls r H Q else sw_A 35 16 ls r H Q) := sw_A_step (cc := cX11_countTrue) rfl dX11_countTrue_13 rfl ls st H Q
theorem r35_16 : sw_A 35 16 ls st H Q = (sw_lda False ls 2 fun x => sw_A 35 17 ls (.ref x :: st) H Q) := sw_A_step (cc := cX11_countTrue) rfl dX11_countTrue_16 rfl ls st H Q
theorem r35_17 : sw_A 35 17 ls st H Q = (sw_ldi False ls 4 fun x => sw_A 35 19 ls (.int x :: st) H Q) := sw_A_step (cc := cX11_countTrue) rfl dX11_countTrue_17 rfl ls st H Q
theorem r35_19 : sw_A 35 19 ls st H Q = (sw_ri False st fun a i r => sw_ald False H 1 a i fun x => sw_A 35 20 ls (.int x :: r) H Q) := sw_A_step (cc := cX11_countTrue) rfl dX11_countTrue_19 rfl ls st H Q
theorem r35_20 : sw_A 35 20 ls st H Q = (sw_has1 False ls 5 (sw_i1 False st fun x r => sw_A 35 22 (sw_set1 ls 5 (.int x)) r H Q)) := sw_A_step (cc := cX11_countTrue) rfl dX11_countTrue_20 rfl ls st H Q
theorem r35_22 : sw_A 35 22 ls st H Q = (sw_ldi False ls 5 fun x => sw_A 35 24 ls (.int x :: st) H Q) := sw_A_step (cc := cX11_countTrue) rfl dX11_countTrue_22 rfl ls st H Q
theorem r35_24 : sw_A 35 24 ls st H Q = (sw_i1 False st fun x r => if x = 0 then sw_A 35 30 ls r H Q else sw_A 35 27 ls r H Q) := sw_A_step (cc := cX11_countTrue) rfl dX11_countTrue_24 rfl ls st H Q
theorem r35_27 : sw_A 35 27 ls st H Q = (sw_ldi False ls 1 fun x => sw_A 35 30 (sw_set1 ls 1 (.int (x + Int32.ofInt 1))) st H Q) := sw_A_step (cc := cX11_countTrue) rfl dX11_countTrue_27 rfl ls st H Q
theorem r35_30 : sw_A 35 30 ls st H Q = (sw_ldi False ls 4 fun x => sw_A 35 33 (sw_set1 ls 4 (.int (x + Int32.ofInt 1))) st H Q) := sw_A_step (cc := cX11_countTrue) rfl dX11_countTrue_30 rfl ls st H Q
theorem r35_33 : sw_A 35 33 ls st H Q = (sw_A 35 10 ls st H Q) := sw_A_step (cc := cX11_countTrue) rfl dX11_countTrue_33 rfl ls st H Q
theorem r35_36 : sw_A 35 36 ls st H Q = (sw_ldi False ls 1 fun x => sw_A 35 37 ls (.int x :: st) H Q) := sw_A_step (cc := cX11_countTrue) rfl dX11_countTrue_36 rfl ls st H Q
theorem r35_37 : sw_A 35 37 ls st H Q = (match st with | [.int x] => Q (some (some (.int x))) H | _ => False) := sw_A_step (cc := cX11_countTrue) rfl dX11_countTrue_37 rfl ls st H Q
end sw_R
