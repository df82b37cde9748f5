section sw_R
variable (ls : sw_LS) (st : List Value) (H : sw_HS) (Q : sw_Ot → sw_HS → Prop)
theorem r150_0 : sw_A 150 0 ls st H Q = (sw_A 150 3 ls (.ref H.2.1 :: st) (sw_mk H (.inl (11, sw_df 11)) 12) Q) := sw_A_step (cc := cL_law) rfl dL_law_0 rfl ls st H Q
theorem r150_3 : sw_A 150 3 ls st H Q = (sw_r1 False st fun a r => sw_A 150 4 ls (.ref a :: .ref a :: r) H Q) := sw_A_step (cc := cL_law) rfl dL_law_3 rfl ls st H Q
theorem r150_4 : sw_A 150 4 ls st H Q = (sw_pop False 1 st [] fun args r => sw_ck False r (sw_rr False args (sw_M 14 args H (sw_K 150 7 none ls r Q)))) := sw_A_step (cc := cL_law) rfl dL_law_4 rfl ls st H Q
theorem r150_7 : sw_A 150 7 ls st H Q = (sw_has1 False ls 1 (sw_r1 False st fun x r => sw_A 150 8 (sw_set1 ls 1 (.ref x)) r H Q)) := sw_A_step (cc := cL_law) rfl dL_law_7 rfl ls st H Q
theorem r150_8 : sw_A 150 8 ls st H Q = (sw_A 150 10 ls (.int (Int32.ofInt 60) :: st) H Q) := sw_A_step (cc := cL_law) rfl dL_law_8 rfl ls st H Q
theorem r150_10 : sw_A 150 10 ls st H Q = (sw_i1 False st fun n r => sw_nw False H 0 n fun H1 => sw_A 150 12 ls (.ref H.2.1 :: r) H1 Q) := sw_A_step (cc := cL_law) rfl dL_law_10 rfl ls st H Q
theorem r150_12 : sw_A 150 12 ls st H Q = (sw_has1 False ls 2 (sw_r1 False st fun x r => sw_A 150 13 (sw_set1 ls 2 (.ref x)) r H Q)) := sw_A_step (cc := cL_law) rfl dL_law_12 rfl ls st H Q
theorem r150_13 : sw_A 150 13 ls st H Q = (sw_A 150 15 ls (.int (Int32.ofInt 36) :: st) H Q) := sw_A_step (cc := cL_law) rfl dL_law_13 rfl ls st H Q
theorem r150_15 : sw_A 150 15 ls st H Q = (sw_i1 False st fun n r => sw_nw False H 0 n fun H1 => sw_A 150 17 ls (.ref H.2.1 :: r) H1 Q) := sw_A_step (cc := cL_law) rfl dL_law_15 rfl ls st H Q
theorem r150_17 : sw_A 150 17 ls st H Q = (sw_has1 False ls 3 (sw_r1 False st fun x r => sw_A 150 18 (sw_set1 ls 3 (.ref x)) r H Q)) := sw_A_step (cc := cL_law) rfl dL_law_17 rfl ls st H Q
theorem r150_18 : sw_A 150 18 ls st H Q = (sw_A 150 20 ls (.int (Int32.ofInt 60) :: st) H Q) := sw_A_step (cc := cL_law) rfl dL_law_18 rfl ls st H Q
theorem r150_20 : sw_A 150 20 ls st H Q = (sw_i1 False st fun n r => sw_nw False H 0 n fun H1 => sw_A 150 22 ls (.ref H.2.1 :: r) H1 Q) := sw_A_step (cc := cL_law) rfl dL_law_20 rfl ls st H Q
theorem r150_22 : sw_A 150 22 ls st H Q = (sw_has1 False ls 4 (sw_r1 False st fun x r => sw_A 150 24 (sw_set1 ls 4 (.ref x)) r H Q)) := sw_A_step (cc := cL_law) rfl dL_law_22 rfl ls st H Q
theorem r150_24 : sw_A 150 24 ls st H Q = (sw_A 150 26 ls (.int (Int32.ofInt 36) :: st) H Q) := sw_A_step (cc := cL_law) rfl dL_law_24 rfl ls st H Q
theorem r150_26 : sw_A 150 26 ls st H Q = (sw_i1 False st fun n r => sw_nw False H 0 n fun H1 => sw_A 150 28 ls (.ref H.2.1 :: r) H1 Q) := sw_A_step (cc := cL_law) rfl dL_law_26 rfl ls st H Q
theorem r150_28 : sw_A 150 28 ls st H Q = (sw_has1 False ls 5 (sw_r1 False st fun x r => sw_A 150 30 (sw_set1 ls 5 (.ref x)) r H Q)) := sw_A_step (cc := cL_law) rfl dL_law_28 rfl ls st H Q
theorem r150_30 : sw_A 150 30 ls st H Q = (sw_A 150 32 ls (.int (Int32.ofInt 12) :: st) H Q) := sw_A_step (cc := cL_law) rfl dL_law_30 rfl ls st H Q
theorem r150_32 : sw_A 150 32 ls st H Q = (sw_i1 False st fun n r => sw_nw False H 0 n fun H1 => sw_A 150 34 ls (.ref H.2.1 :: r) H1 Q) := sw_A_step (cc := cL_law) rfl dL_law_32 rfl ls st H Q
theorem r150_34 : sw_A 150 34 ls st H Q = (sw_has1 False ls 6 (sw_r1 False st fun x r => sw_A 150 36 (sw_set1 ls 6 (.ref x)) r H Q)) := sw_A_step (cc := cL_law) rfl dL_law_34 rfl ls st H Q
theorem r150_36 : sw_A 150 36 ls st H Q = (sw_A 150 37 ls (.int (Int32.ofInt 0) :: st) H Q) := sw_A_step (cc := cL_law) rfl dL_law_36 rfl ls st H Q
theorem r150_37 : sw_A 150 37 ls st H Q = (sw_has1 False ls 7 (sw_i1 False st fun x r => sw_A 150 39 (sw_set1 ls 7 (.int x)) r H Q)) := sw_A_step (cc := cL_law) rfl dL_law_37 rfl ls st H Q
theorem r150_39 : sw_A 150 39 ls st H Q = (sw_ldi False ls 7 fun x => sw_A 150 41 ls (.int x :: st) H Q) := sw_A_step (cc := cL_law) rfl dL_law_39 rfl ls st H Q
theorem r150_41 : sw_A 150 41 ls st H Q = (sw_A 150 43 ls (.int (Int32.ofInt 12) :: st) H Q) := sw_A_step (cc := cL_law) rfl dL_law_41 rfl ls st H Q
theorem r150_43 : sw_A 150 43 ls st H Q = (sw_i2 False st fun x y r => if y ≤ x then sw_A 150 59 ls r H Q else sw_A 150 46 ls r H Q) := sw_A_step (cc := cL_law) rfl dL_law_43 rfl ls st H Q
theorem r150_46 : sw_A 150 46 ls st H Q = (sw_lda False ls 6 fun x => sw_A 150 48 ls (.ref x :: st) H Q) := sw_A_step (cc := cL_law) rfl dL_law_46 rfl ls st H Q
theorem r150_48 : sw_A 150 48 ls st H Q = (sw_ldi False ls 7 fun x => sw_A 150 50 ls (.int x :: st) H Q) := sw_A_step (cc := cL_law) rfl dL_law_48 rfl ls st H Q
theorem r150_50 : sw_A 150 50 ls st H Q = (sw_A 150 52 ls (.int (Int32.ofInt 100) :: st) H Q) := sw_A_step (cc := cL_law) rfl dL_law_50 rfl ls st H Q
theorem r150_52 : sw_A 150 52 ls st H Q = (sw_rix False st fun a i x r => sw_ast False H 0 a i x fun H1 => sw_A 150 53 ls r H1 Q) := sw_A_step (cc := cL_law) rfl dL_law_52 rfl ls st H Q
theorem r150_53 : sw_A 150 53 ls st H Q = (sw_ldi False ls 7 fun x => sw_A 150 56 (sw_set1 ls 7 (.int (x + Int32.ofInt 1))) st H Q) := sw_A_step (cc := cL_law) rfl dL_law_53 rfl ls st H Q
theorem r150_56 : sw_A 150 56 ls st H Q = (sw_A 150 39 ls st H Q) := sw_A_step (cc := cL_law) rfl dL_law_56 rfl ls st H Q
theorem r150_59 : sw_A 150 59 ls st H Q = (sw_A 150 60 ls (.long (Int64.ofNat 0) :: st) H Q) := sw_A_step (cc := cL_law) rfl dL_law_59 rfl ls st H Q
theorem r150_60 : sw_A 150 60 ls st H Q = (sw_has1 False ls 8 (sw_l1 False st fun x r => sw_A 150 62 (sw_set2 ls 7 (.long x)) r H Q)) := sw_A_step (cc := cL_law) rfl dL_law_60 rfl ls st H Q
theorem r150_62 : sw_A 150 62 ls st H Q = (sw_A 150 63 ls (.long (Int64.ofNat 0) :: st) H Q) := sw_A_step (cc := cL_law) rfl dL_law_62 rfl ls st H Q
theorem r150_63 : sw_A 150 63 ls st H Q = (sw_has1 False ls 10 (sw_l1 False st fun x r => sw_A 150 65 (sw_set2 ls 9 (.long x)) r H Q)) := sw_A_step (cc := cL_law) rfl dL_law_63 rfl ls st H Q
theorem r150_65 : sw_A 150 65 ls st H Q = (sw_A 150 66 ls (.long (Int64.ofNat 0) :: st) H Q) := sw_A_step (cc := cL_law) rfl dL_law_65 rfl ls st H Q
theorem r150_66 : sw_A 150 66 ls st H Q = (sw_has1 False ls 12 (sw_l1 False st fun x r => sw_A 150 68 (sw_set2 ls 11 (.long x)) r H Q)) := sw_A_step (cc := cL_law) rfl dL_law_66 rfl ls st H Q
theorem r150_68 : sw_A 150 68 ls st H Q = (sw_A 150 69 ls (.long (Int64.ofNat 0) :: st) H Q) := sw_A_step (cc := cL_law) rfl dL_law_68 rfl ls st H Q
theorem r150_69 : sw_A 150 69 ls st H Q = (sw_has1 False ls 14 (sw_l1 False st fun x r => sw_A 150 71 (sw_set2 ls 13 (.long x)) r H Q)) := sw_A_step (cc := cL_law) rfl dL_law_69 rfl ls st H Q
theorem r150_71 : sw_A 150 71 ls st H Q = (sw_A 150 72 ls (.int (Int32.ofInt 0) :: st) H Q) := sw_A_step (cc := cL_law) rfl dL_law_71 rfl ls st H Q
theorem r150_72 : sw_A 150 72 ls st H Q = (sw_has1 False ls 15 (sw_i1 False st fun x r => sw_A 150 74 (sw_set1 ls 15 (.int x)) r H Q)) := sw_A_step (cc := cL_law) rfl dL_law_72 rfl ls st H Q
theorem r150_74 : sw_A 150 74 ls st H Q = (sw_A 150 75 ls (.int (Int32.ofInt 0) :: st) H Q) := sw_A_step (cc := cL_law) rfl dL_law_74 rfl ls st H Q
theorem r150_75 : sw_A 150 75 ls st H Q = (sw_has1 False ls 16 (sw_i1 False st fun x r => sw_A 150 77 (sw_set1 ls 16 (.int x)) r H Q)) := sw_A_step (cc := cL_law) rfl dL_law_75 rfl ls st H Q
theorem r150_77 : sw_A 150 77 ls st H Q = (sw_ldi False ls 16 fun x => sw_A 150 79 ls (.int x :: st) H Q) := sw_A_step (cc := cL_law) rfl dL_law_77 rfl ls st H Q
theorem r150_79 : sw_A 150 79 ls st H Q = (sw_A 150 81 ls (.int (Int32.ofInt 40) :: st) H Q) := sw_A_step (cc := cL_law) rfl dL_law_79 rfl ls st H Q
theorem r150_81 : sw_A 150 81 ls st H Q = (sw_i2 False st fun x y r => if y ≤ x then sw_A 150 1637 ls r H Q else sw_A 150 84 ls r H Q) := sw_A_step (cc := cL_law) rfl dL_law_81 rfl ls st H Q
theorem r150_84 : sw_A 150 84 ls st H Q = (sw_lda False ls 0 fun x => sw_A 150 85 ls (.ref x :: st) H Q) := sw_A_step (cc := cL_law) rfl dL_law_84 rfl ls st H Q
theorem r150_85 : sw_A 150 85 ls st H Q = (sw_A 150 86 ls (.int (Int32.ofInt 2) :: st) H Q) := sw_A_step (cc := cL_law) rfl dL_law_85 rfl ls st H Q
theorem r150_86 : sw_A 150 86 ls st H Q = (sw_ldi False ls 16 fun x => sw_A 150 88 ls (.int x :: st) H Q) := sw_A_step (cc := cL_law) rfl dL_law_86 rfl ls st H Q
theorem r150_88 : sw_A 150 88 ls st H Q = (sw_i2 False st fun x y r => sw_A 150 89 ls (.int (x * y) :: r) H Q) := sw_A_step (cc := cL_law) rfl dL_law_88 rfl ls st H Q
theorem r150_89 : sw_A 150 89 ls st H Q = (sw_pop False 2 st [] fun args r => sw_ck False r (sw_M 15 args H (sw_K 150 92 none ls r Q))) := sw_A_step (cc := cL_law) rfl dL_law_89 rfl ls st H Q
theorem r150_92 : sw_A 150 92 ls st H Q = (sw_has1 False ls 17 (sw_i1 False st fun x r => sw_A 150 94 (sw_set1 ls 17 (.int x)) r H Q)) := sw_A_step (cc := cL_law) rfl dL_law_92 rfl ls st H Q
theorem r150_94 : sw_A 150 94 ls st H Q = (sw_lda False ls 0 fun x => sw_A 150 95 ls (.ref x :: st) H Q) := sw_A_step (cc := cL_law) rfl dL_law_94 rfl ls st H Q
theorem r150_95 : sw_A 150 95 ls st H Q = (sw_A 150 96 ls (.int (Int32.ofInt 2) :: st) H Q) := sw_A_step (cc := cL_law) rfl dL_law_95 rfl ls st H Q
theorem r150_96 : sw_A 150 96 ls st H Q = (sw_ldi False ls 16 fun x => sw_A 150 98 ls (.int x :: st) H Q) := sw_A_step (cc := cL_law) rfl dL_law_96 rfl ls st H Q
theorem r150_98 : sw_A 150 98 ls st H Q = (sw_i2 False st fun x y r => sw_A 150 99 ls (.int (x * y) :: r) H Q) := sw_A_step (cc := cL_law) rfl dL_law_98 rfl ls st H Q
theorem r150_99 : sw_A 150 99 ls st H Q = (sw_A 150 100 ls (.int (Int32.ofInt 1) :: st) H Q) := sw_A_step (cc := cL_law) rfl dL_law_99 rfl ls st H Q
theorem r150_100 : sw_A 150 100 ls st H Q = (sw_i2 False st fun x y r => sw_A 150 101 ls (.int (x + y) :: r) H Q) := sw_A_step (cc := cL_law) rfl dL_law_100 rfl ls st H Q
theorem r150_101 : sw_A 150 101 ls st H Q = (sw_pop False 2 st [] fun args r => sw_ck False r (sw_M 15 args H (sw_K 150 104 none ls r Q))) := sw_A_step (cc := cL_law) rfl dL_law_101 rfl ls st H Q
theorem r150_104 : sw_A 150 104 ls st H Q = (sw_has1 False ls 18 (sw_i1 False st fun x r => sw_A 150 106 (sw_set1 ls 18 (.int x)) r H Q)) := sw_A_step (cc := cL_law) rfl dL_law_104 rfl ls st H Q
theorem r150_106 : sw_A 150 106 ls st H Q = (sw_ldi False ls 16 fun x => sw_A 150 108 ls (.int x :: st) H Q) := sw_A_step (cc := cL_law) rfl dL_law_106 rfl ls st H Q
theorem r150_108 : sw_A 150 108 ls st H Q = (sw_i1 False st fun x r => if ¬ x = 0 then sw_A 150 115 ls r H Q else sw_A 150 111 ls r H Q) := sw_A_step (cc := cL_law) rfl dL_law_108 rfl ls st H Q
theorem r150_111 : sw_A 150 111 ls st H Q = (sw_A 150 112 ls (.int (Int32.ofInt 0) :: st) H Q) := sw_A_step (cc := cL_law) rfl dL_law_111 rfl ls st H Q
theorem r150_112 : sw_A 150 112 ls st H Q = (sw_A 150 122 ls st H Q) := sw_A_step (cc := cL_law) rfl dL_law_112 rfl ls st H Q
theorem r150_115 : sw_A 150 115 ls st H Q = (sw_ldi False ls 17 fun x => sw_A 150 117 ls (.int x :: st) H Q) := sw_A_step (cc := cL_law) rfl dL_law_115 rfl ls st H Q
theorem r150_117 : sw_A 150 117 ls st H Q = (sw_A 150 119 ls (.int (Int32.ofInt 10) :: st) H Q) := sw_A_step (cc := cL_law) rfl dL_law_117 rfl ls st H Q
theorem r150_119 : sw_A 150 119 ls st H Q = (sw_pop False 2 st [] fun args r => sw_ck False r (sw_M 16 args H (sw_K 150 122 none ls r Q))) := sw_A_step (cc := cL_law) rfl dL_law_119 rfl ls st H Q
theorem r150_122 : sw_A 150 122 ls st H Q = (sw_has1 False ls 19 (sw_i1 False st fun x r => sw_A 150 124 (sw_set1 ls 19 (.int x)) r H Q)) := sw_A_step (cc := cL_law) rfl dL_law_122 rfl ls st H Q
theorem r150_124 : sw_A 150 124 ls st H Q = (sw_ldi False ls 18 fun x => sw_A 150 126 ls (.int x :: st) H Q) := sw_A_step (cc := cL_law) rfl dL_law_124 rfl ls st H Q
theorem r150_126 : sw_A 150 126 ls st H Q = (sw_A 150 128 ls (.int (Int32.ofInt 36) :: st) H Q) := sw_A_step (cc := cL_law) rfl dL_law_126 rfl ls st H Q
theorem r150_128 : sw_A 150 128 ls st H Q = (sw_pop False 2 st [] fun args r => sw_ck False r (sw_M 16 args H (sw_K 150 131 none ls r Q))) := sw_A_step (cc := cL_law) rfl dL_law_128 rfl ls st H Q
theorem r150_131 : sw_A 150 131 ls st H Q = (sw_has1 False ls 20 (sw_i1 False st fun x r => sw_A 150 133 (sw_set1 ls 20 (.int x)) r H Q)) := sw_A_step (cc := cL_law) rfl dL_law_131 rfl ls st H Q
theorem r150_133 : sw_A 150 133 ls st H Q = (sw_ldi False ls 19 fun x => sw_A 150 135 ls (.int x :: st) H Q) := sw_A_step (cc := cL_law) rfl dL_law_133 rfl ls st H Q
theorem r150_135 : sw_A 150 135 ls st H Q = (sw_i1 False st fun x r => if ¬ x = 0 then sw_A 150 163 ls r H Q else sw_A 150 138 ls r H Q) := sw_A_step (cc := cL_law) rfl dL_law_135 rfl ls st H Q
theorem r150_138 : sw_A 150 138 ls st H Q = (sw_ldi False ls 18 fun x => sw_A 150 140 ls (.int x :: st) H Q) := sw_A_step (cc := cL_law) rfl dL_law_138 rfl ls st H Q
theorem r150_140 : sw_A 150 140 ls st H Q = (sw_A 150 142 ls (.int (Int32.ofInt 65536) :: st) H Q) := sw_A_step (cc := cL_law) rfl dL_law_140 rfl ls st H Q
theorem r150_142 : sw_A 150 142 ls st H Q = (sw_pop False 2 st [] fun args r => sw_ck False r (sw_M 16 args H (sw_K 150 145 none ls r Q))) := sw_A_step (cc := cL_law) rfl dL_law_142 rfl ls st H Q
theorem r150_145 : sw_A 150 145 ls st H Q = (sw_has1 False ls 21 (sw_i1 False st fun x r => sw_A 150 147 (sw_set1 ls 21 (.int x)) r H Q)) := sw_A_step (cc := cL_law) rfl dL_law_145 rfl ls st H Q
theorem r150_147 : sw_A 150 147 ls st H Q = (sw_lda False ls 1 fun x => sw_A 150 148 ls (.ref x :: st) H Q) := sw_A_step (cc := cL_law) rfl dL_law_147 rfl ls st H Q
theorem r150_148 : sw_A 150 148 ls st H Q = (sw_ldi False ls 21 fun x => sw_A 150 150 ls (.int x :: st) H Q) := sw_A_step (cc := cL_law) rfl dL_law_148 rfl ls st H Q
theorem r150_150 : sw_A 150 150 ls st H Q = (sw_pop False 2 st [] fun args r => sw_ck False r (sw_rc False H (some 11) args (sw_M 20 args H (sw_K 150 153 none ls r Q)))) := sw_A_step (cc := cL_law) rfl dL_law_150 rfl ls st H Q
theorem r150_153 : sw_A 150 153 ls st H Q = (sw_ldi False ls 21 fun x => sw_A 150 155 ls (.int x :: st) H Q) := sw_A_step (cc := cL_law) rfl dL_law_153 rfl ls st H Q
theorem r150_155 : sw_A 150 155 ls st H Q = (sw_lda False ls 2 fun x => sw_A 150 156 ls (.ref x :: st) H Q) := sw_A_step (cc := cL_law) rfl dL_law_155 rfl ls st H Q
theorem r150_156 : sw_A 150 156 ls st H Q = (sw_lda False ls 3 fun x => sw_A 150 157 ls (.ref x :: st) H Q) := sw_A_step (cc := cL_law) rfl dL_law_156 rfl ls st H Q
theorem r150_157 : sw_A 150 157 ls st H Q = (sw_pop False 3 st [] fun args r => sw_ck False r (sw_M 22 args H (sw_K 150 160 none ls r Q))) := sw_A_step (cc := cL_law) rfl dL_law_157 rfl ls st H Q
theorem r150_160 : sw_A 150 160 ls st H Q = (sw_A 150 1275 ls st H Q) := sw_A_step (cc := cL_law) rfl dL_law_160 rfl ls st H Q
theorem r150_163 : sw_A 150 163 ls st H Q = (sw_ldi False ls 19 fun x => sw_A 150 165 ls (.int x :: st) H Q) := sw_A_step (cc := cL_law) rfl dL_law_163 rfl ls st H Q
theorem r150_165 : sw_A 150 165 ls st H Q = (sw_A 150 166 ls (.int (Int32.ofInt 1) :: st) H Q) := sw_A_step (cc := cL_law) rfl dL_law_165 rfl ls st H Q
theorem r150_166 : sw_A 150 166 ls st H Q = (sw_i2 False st fun x y r => if ¬ x = y then sw_A 150 250 ls r H Q else sw_A 150 169 ls r H Q) := sw_A_step (cc := cL_law) rfl dL_law_166 rfl ls st H Q
theorem r150_169 : sw_A 150 169 ls st H Q = (sw_ldi False ls 18 fun x => sw_A 150 171 ls (.int x :: st) H Q) := sw_A_step (cc := cL_law) rfl dL_law_169 rfl ls st H Q
theorem r150_171 : sw_A 150 171 ls st H Q = (sw_A 150 173 ls (.int (Int32.ofInt 60) :: st) H Q) := sw_A_step (cc := cL_law) rfl dL_law_171 rfl ls st H Q
theorem r150_173 : sw_A 150 173 ls st H Q = (sw_pop False 2 st [] fun args r => sw_ck False r (sw_M 16 args H (sw_K 150 176 none ls r Q))) := sw_A_step (cc := cL_law) rfl dL_law_173 rfl ls st H Q
theorem r150_176 : sw_A 150 176 ls st H Q = (sw_has1 False ls 21 (sw_i1 False st fun x r => sw_A 150 178 (sw_set1 ls 21 (.int x)) r H Q)) := sw_A_step (cc := cL_law) rfl dL_law_176 rfl ls st H Q
theorem r150_178 : sw_A 150 178 ls st H Q = (sw_ldi False ls 18 fun x => sw_A 150 180 ls (.int x :: st) H Q) := sw_A_step (cc := cL_law) rfl dL_law_178 rfl ls st H Q
theorem r150_180 : sw_A 150 180 ls st H Q = (sw_A 150 182 ls (.int (Int32.ofInt 6) :: st) H Q) := sw_A_step (cc := cL_law) rfl dL_law_180 rfl ls st H Q
theorem r150_182 : sw_A 150 182 ls st H Q = (sw_i2 False st fun x y r => sw_A 150 183 ls (.int (x >>> (y &&& 31)) :: r) H Q) := sw_A_step (cc := cL_law) rfl dL_law_182 rfl ls st H Q
theorem r150_183 : sw_A 150 183 ls st H Q = (sw_A 150 186 ls (.int (Int32.ofInt 1000) :: st) H Q) := sw_A_step (cc := cL_law) rfl dL_law_183 rfl ls st H Q
theorem r150_186 : sw_A 150 186 ls st H Q = (sw_pop False 2 st [] fun args r => sw_ck False r (sw_M 16 args H (sw_K 150 189 none ls r Q))) := sw_A_step (cc := cL_law) rfl dL_law_186 rfl ls st H Q
theorem r150_189 : sw_A 150 189 ls st H Q = (sw_has1 False ls 22 (sw_i1 False st fun x r => sw_A 150 191 (sw_set1 ls 22 (.int x)) r H Q)) := sw_A_step (cc := cL_law) rfl dL_law_189 rfl ls st H Q
theorem r150_191 : sw_A 150 191 ls st H Q = (sw_ldi False ls 17 fun x => sw_A 150 193 ls (.int x :: st) H Q) := sw_A_step (cc := cL_law) rfl dL_law_191 rfl ls st H Q
theorem r150_193 : sw_A 150 193 ls st H Q = (sw_A 150 194 ls (.int (Int32.ofInt 4) :: st) H Q) := sw_A_step (cc := cL_law) rfl dL_law_193 rfl ls st H Q
theorem r150_194 : sw_A 150 194 ls st H Q = (sw_i2 False st fun x y r => sw_A 150 195 ls (.int (x >>> (y &&& 31)) :: r) H Q) := sw_A_step (cc := cL_law) rfl dL_law_194 rfl ls st H Q
theorem r150_195 : sw_A 150 195 ls st H Q = (sw_A 150 198 ls (.int (Int32.ofInt 1000) :: st) H Q) := sw_A_step (cc := cL_law) rfl dL_law_195 rfl ls st H Q
theorem r150_198 : sw_A 150 198 ls st H Q = (sw_pop False 2 st [] fun args r => sw_ck False r (sw_M 16 args H (sw_K 150 201 none ls r Q))) := sw_A_step (cc := cL_law) rfl dL_law_198 rfl ls st H Q
theorem r150_201 : sw_A 150 201 ls st H Q = (sw_has1 False ls 23 (sw_i1 False st fun x r => sw_A 150 203 (sw_set1 ls 23 (.int x)) r H Q)) := sw_A_step (cc := cL_law) rfl dL_law_201 rfl ls st H Q
theorem r150_203 : sw_A 150 203 ls st H Q = (sw_lda False ls 1 fun x => sw_A 150 204 ls (.ref x :: st) H Q) := sw_A_step (cc := cL_law) rfl dL_law_203 rfl ls st H Q
theorem r150_204 : sw_A 150 204 ls st H Q = (sw_ldi False ls 21 fun x => sw_A 150 206 ls (.int x :: st) H Q) := sw_A_step (cc := cL_law) rfl dL_law_204 rfl ls st H Q
theorem r150_206 : sw_A 150 206 ls st H Q = (sw_ldi False ls 22 fun x => sw_A 150 208 ls (.int x :: st) H Q) := sw_A_step (cc := cL_law) rfl dL_law_206 rfl ls st H Q
theorem r150_208 : sw_A 150 208 ls st H Q = (sw_pop False 3 st [] fun args r => sw_ck False r (sw_rc False H (some 11) args (sw_M 24 args H (sw_K 150 211 none ls r Q)))) := sw_A_step (cc := cL_law) rfl dL_law_208 rfl ls st H Q
theorem r150_211 : sw_A 150 211 ls st H Q = (sw_lda False ls 2 fun x => sw_A 150 212 ls (.ref x :: st) H Q) := sw_A_step (cc := cL_law) rfl dL_law_211 rfl ls st H Q
theorem r150_212 : sw_A 150 212 ls st H Q = (sw_ldi False ls 21 fun x => sw_A 150 214 ls (.int x :: st) H Q) := sw_A_step (cc := cL_law) rfl dL_law_212 rfl ls st H Q
theorem r150_214 : sw_A 150 214 ls st H Q = (sw_ri False st fun a i r => sw_ald False H 0 a i fun x => sw_A 150 215 ls (.int x :: r) H Q) := sw_A_step (cc := cL_law) rfl dL_law_214 rfl ls st H Q
theorem r150_215 : sw_A 150 215 ls st H Q = (sw_i2 False st fun x y r => if ¬ x = y then sw_A 150 233 ls r H Q else sw_A 150 218 ls r H Q) := sw_A_step (cc := cL_law) rfl dL_law_215 rfl ls st H Q
theorem r150_218 : sw_A 150 218 ls st H Q = (sw_lda False ls 1 fun x => sw_A 150 219 ls (.ref x :: st) H Q) := sw_A_step (cc := cL_law) rfl dL_law_218 rfl ls st H Q
theorem r150_219 : sw_A 150 219 ls st H Q = (sw_ldi False ls 20 fun x => sw_A 150 221 ls (.int x :: st) H Q) := sw_A_step (cc := cL_law) rfl dL_law_219 rfl ls st H Q
theorem r150_221 : sw_A 150 221 ls st H Q = (sw_ldi False ls 23 fun x => sw_A 150 223 ls (.int x :: st) H Q) := sw_A_step (cc := cL_law) rfl dL_law_221 rfl ls st H Q
theorem r150_223 : sw_A 150 223 ls st H Q = (sw_pop False 3 st [] fun args r => sw_ck False r (sw_rc False H (some 11) args (sw_M 26 args H (sw_K 150 226 none ls r Q)))) := sw_A_step (cc := cL_law) rfl dL_law_223 rfl ls st H Q
theorem r150_226 : sw_A 150 226 ls st H Q = (sw_lda False ls 3 fun x => sw_A 150 227 ls (.ref x :: st) H Q) := sw_A_step (cc := cL_law) rfl dL_law_226 rfl ls st H Q
theorem r150_227 : sw_A 150 227 ls st H Q = (sw_ldi False ls 20 fun x => sw_A 150 229 ls (.int x :: st) H Q) := sw_A_step (cc := cL_law) rfl dL_law_227 rfl ls st H Q
theorem r150_229 : sw_A 150 229 ls st H Q = (sw_ri False st fun a i r => sw_ald False H 0 a i fun x => sw_A 150 230 ls (.int x :: r) H Q) := sw_A_step (cc := cL_law) rfl dL_law_229 rfl ls st H Q
theorem r150_230 : sw_A 150 230 ls st H Q = (sw_i2 False st fun x y r => if x = y then sw_A 150 235 ls r H Q else sw_A 150 233 ls r H Q) := sw_A_step (cc := cL_law) rfl dL_law_230 rfl ls st H Q
theorem r150_233 : sw_A 150 233 ls st H Q = (sw_A 150 234 ls (.int (Int32.ofInt 0) :: st) H Q) := sw_A_step (cc := cL_law) rfl dL_law_233 rfl ls st H Q
theorem r150_234 : sw_A 150 234 ls st H Q = (match st with | [.int x] => (if 2 = 1 ∨ 2 = 2 ∧ (x = 0 ∨ x = 1) then Q (some (some (.int x))) H else False) | _ => False) := sw_A_step (cc := cL_law) rfl dL_law_234 rfl ls st H Q
theorem r150_235 : sw_A 150 235 ls st H Q = (sw_lda False ls 2 fun x => sw_A 150 236 ls (.ref x :: st) H Q) := sw_A_step (cc := cL_law) rfl dL_law_235 rfl ls st H Q
theorem r150_236 : sw_A 150 236 ls st H Q = (sw_ldi False ls 21 fun x => sw_A 150 238 ls (.int x :: st) H Q) := sw_A_step (cc := cL_law) rfl dL_law_236 rfl ls st H Q
theorem r150_238 : sw_A 150 238 ls st H Q = (sw_ldi False ls 22 fun x => sw_A 150 240 ls (.int x :: st) H Q) := sw_A_step (cc := cL_law) rfl dL_law_238 rfl ls st H Q
theorem r150_240 : sw_A 150 240 ls st H Q = (sw_rix False st fun a i x r => sw_ast False H 0 a i x fun H1 => sw_A 150 241 ls r H1 Q) := sw_A_step (cc := cL_law) rfl dL_law_240 rfl ls st H Q
theorem r150_241 : sw_A 150 241 ls st H Q = (sw_lda False ls 3 fun x => sw_A 150 242 ls (.ref x :: st) H Q) := sw_A_step (cc := cL_law) rfl dL_law_241 rfl ls st H Q
theorem r150_242 : sw_A 150 242 ls st H Q = (sw_ldi False ls 20 fun x => sw_A 150 244 ls (.int x :: st) H Q) := sw_A_step (cc := cL_law) rfl dL_law_242 rfl ls st H Q
theorem r150_244 : sw_A 150 244 ls st H Q = (sw_ldi False ls 23 fun x => sw_A 150 246 ls (.int x :: st) H Q) := sw_A_step (cc := cL_law) rfl dL_law_244 rfl ls st H Q
theorem r150_246 : sw_A 150 246 ls st H Q = (sw_rix False st fun a i x r => sw_ast False H 0 a i x fun H1 => sw_A 150 247 ls r H1 Q) := sw_A_step (cc := cL_law) rfl dL_law_246 rfl ls st H Q
theorem r150_247 : sw_A 150 247 ls st H Q = (sw_A 150 1275 ls st H Q) := sw_A_step (cc := cL_law) rfl dL_law_247 rfl ls st H Q
theorem r150_250 : sw_A 150 250 ls st H Q = (sw_ldi False ls 19 fun x => sw_A 150 252 ls (.int x :: st) H Q) := sw_A_step (cc := cL_law) rfl dL_law_250 rfl ls st H Q
theorem r150_252 : sw_A 150 252 ls st H Q = (sw_A 150 253 ls (.int (Int32.ofInt 2) :: st) H Q) := sw_A_step (cc := cL_law) rfl dL_law_252 rfl ls st H Q
theorem r150_253 : sw_A 150 253 ls st H Q = (sw_i2 False st fun x y r => if ¬ x = y then sw_A 150 326 ls r H Q else sw_A 150 256 ls r H Q) := sw_A_step (cc := cL_law) rfl dL_law_253 rfl ls st H Q
theorem r150_256 : sw_A 150 256 ls st H Q = (sw_ldi False ls 17 fun x => sw_A 150 258 ls (.int x :: st) H Q) := sw_A_step (cc := cL_law) rfl dL_law_256 rfl ls st H Q
theorem r150_258 : sw_A 150 258 ls st H Q = (sw_A 150 260 ls (.int (Int32.ofInt 9) :: st) H Q) := sw_A_step (cc := cL_law) rfl dL_law_258 rfl ls st H Q
theorem r150_260 : sw_A 150 260 ls st H Q = (sw_i2 False st fun x y r => sw_A 150 261 ls (.int (x >>> (y &&& 31)) :: r) H Q) := sw_A_step (cc := cL_law) rfl dL_law_260 rfl ls st H Q
theorem r150_261 : sw_A 150 261 ls st H Q = (sw_A 150 262 ls (.int (Int32.ofInt 3) :: st) H Q) := sw_A_step (cc := cL_law) rfl dL_law_261 rfl ls st H Q
theorem r150_262 : sw_A 150 262 ls st H Q = (sw_pop False 2 st [] fun args r => sw_ck False r (sw_M 16 args H (sw_K 150 265 none ls r Q))) := sw_A_step (cc := cL_law) rfl dL_law_262 rfl ls st H Q
theorem r150_265 : sw_A 150 265 ls st H Q = (sw_i1 False st fun x r => if x ≤ 0 then sw_A 150 272 ls r H Q else sw_A 150 268 ls r H Q) := sw_A_step (cc := cL_law) rfl dL_law_265 rfl ls st H Q
theorem r150_268 : sw_A 150 268 ls st H Q = (sw_A 150 269 ls (.int (Int32.ofInt 1) :: st) H Q) := sw_A_step (cc := cL_law) rfl dL_law_268 rfl ls st H Q
theorem r150_269 : sw_A 150 269 ls st H Q = (sw_A 150 273 ls st H Q) := sw_A_step (cc := cL_law) rfl dL_law_269 rfl ls st H Q
theorem r150_272 : sw_A 150 272 ls st H Q = (sw_A 150 273 ls (.int (Int32.ofInt 0) :: st) H Q) := sw_A_step (cc := cL_law) rfl dL_law_272 rfl ls st H Q
theorem r150_273 : sw_A 150 273 ls st H Q = (sw_has1 False ls 21 (sw_i1 False st fun x r => sw_A 150 275 (sw_set1 ls 21 (.int x)) r H Q)) := sw_A_step (cc := cL_law) rfl dL_law_273 rfl ls st H Q
theorem r150_275 : sw_A 150 275 ls st H Q = (sw_lda False ls 1 fun x => sw_A 150 276 ls (.ref x :: st) H Q) := sw_A_step (cc := cL_law) rfl dL_law_275 rfl ls st H Q
theorem r150_276 : sw_A 150 276 ls st H Q = (sw_ldi False ls 20 fun x => sw_A 150 278 ls (.int x :: st) H Q) := sw_A_step (cc := cL_law) rfl dL_law_276 rfl ls st H Q
theorem r150_278 : sw_A 150 278 ls st H Q = (sw_ldi False ls 21 fun x => sw_A 150 280 ls (.int x :: st) H Q) := sw_A_step (cc := cL_law) rfl dL_law_278 rfl ls st H Q
theorem r150_280 : sw_A 150 280 ls st H Q = (sw_pop False 3 st [] fun args r => sw_ck False r (sw_rc False H (some 11) args (sw_M 29 args H (sw_K 150 283 none ls r Q)))) := sw_A_step (cc := cL_law) rfl dL_law_280 rfl ls st H Q
theorem r150_283 : sw_A 150 283 ls st H Q = (sw_ldl False ls 7 fun x => sw_A 150 285 ls (.long x :: st) H Q) := sw_A_step (cc := cL_law) rfl dL_law_283 rfl ls st H Q
theorem r150_285 : sw_A 150 285 ls st H Q = (sw_ldi False ls 20 fun x => sw_A 150 287 ls (.int x :: st) H Q) := sw_A_step (cc := cL_law) rfl dL_law_285 rfl ls st H Q
theorem r150_287 : sw_A 150 287 ls st H Q = (sw_pop False 2 st [] fun args r => sw_ck False r (sw_M 30 args H (sw_K 150 290 none ls r Q))) := sw_A_step (cc := cL_law) rfl dL_law_287 rfl ls st H Q
theorem r150_290 : sw_A 150 290 ls st H Q = (sw_i2 False st fun x y r => if x = y then sw_A 150 295 ls r H Q else sw_A 150 293 ls r H Q) := sw_A_step (cc := cL_law) rfl dL_law_290 rfl ls st H Q
theorem r150_293 : sw_A 150 293 ls st H Q = (sw_A 150 294 ls (.int (Int32.ofInt 0) :: st) H Q) := sw_A_step (cc := cL_law) rfl dL_law_293 rfl ls st H Q
theorem r150_294 : sw_A 150 294 ls st H Q = (match st with | [.int x] => (if 2 = 1 ∨ 2 = 2 ∧ (x = 0 ∨ x = 1) then Q (some (some (.int x))) H else False) | _ => False) := sw_A_step (cc := cL_law) rfl dL_law_294 rfl ls st H Q
theorem r150_295 : sw_A 150 295 ls st H Q = (sw_ldi False ls 21 fun x => sw_A 150 297 ls (.int x :: st) H Q) := sw_A_step (cc := cL_law) rfl dL_law_295 rfl ls st H Q
theorem r150_297 : sw_A 150 297 ls st H Q = (sw_i1 False st fun x r => if x = 0 then sw_A 150 310 ls r H Q else sw_A 150 300 ls r H Q) := sw_A_step (cc := cL_law) rfl dL_law_297 rfl ls st H Q
theorem r150_300 : sw_A 150 300 ls st H Q = (sw_ldl False ls 7 fun x => sw_A 150 302 ls (.long x :: st) H Q) := sw_A_step (cc := cL_law) rfl dL_law_300 rfl ls st H Q
theorem r150_302 : sw_A 150 302 ls st H Q = (sw_A 150 303 ls (.long (Int64.ofNat 1) :: st) H Q) := sw_A_step (cc := cL_law) rfl dL_law_302 rfl ls st H Q
theorem r150_303 : sw_A 150 303 ls st H Q = (sw_ldi False ls 20 fun x => sw_A 150 305 ls (.int x :: st) H Q) := sw_A_step (cc := cL_law) rfl dL_law_303 rfl ls st H Q
theorem r150_305 : sw_A 150 305 ls st H Q = (sw_li False st fun x y r => sw_A 150 306 ls (.long (x <<< (y.toInt64 &&& 63)) :: r) H Q) := sw_A_step (cc := cL_law) rfl dL_law_305 rfl ls st H Q
theorem r150_306 : sw_A 150 306 ls st H Q = (sw_l2 False st fun x y r => sw_A 150 307 ls (.long (x ||| y) :: r) H Q) := sw_A_step (cc := cL_law) rfl dL_law_306 rfl ls st H Q
theorem r150_307 : sw_A 150 307 ls st H Q = (sw_A 150 321 ls st H Q) := sw_A_step (cc := cL_law) rfl dL_law_307 rfl ls st H Q
theorem r150_310 : sw_A 150 310 ls st H Q = (sw_ldl False ls 7 fun x => sw_A 150 312 ls (.long x :: st) H Q) := sw_A_step (cc := cL_law) rfl dL_law_310 rfl ls st H Q
theorem r150_312 : sw_A 150 312 ls st H Q = (sw_A 150 313 ls (.long (Int64.ofNat 1) :: st) H Q) := sw_A_step (cc := cL_law) rfl dL_law_312 rfl ls st H Q
theorem r150_313 : sw_A 150 313 ls st H Q = (sw_ldi False ls 20 fun x => sw_A 150 315 ls (.int x :: st) H Q) := sw_A_step (cc := cL_law) rfl dL_law_313 rfl ls st H Q
theorem r150_315 : sw_A 150 315 ls st H Q = (sw_li False st fun x y r => sw_A 150 316 ls (.long (x <<< (y.toInt64 &&& 63)) :: r) H Q) := sw_A_step (cc := cL_law) rfl dL_law_315 rfl ls st H Q
theorem r150_316 : sw_A 150 316 ls st H Q = (sw_A 150 319 ls (.long (Int64.ofInt (-1)) :: st) H Q) := sw_A_step (cc := cL_law) rfl dL_law_316 rfl ls st H Q
theorem r150_319 : sw_A 150 319 ls st H Q = (sw_l2 False st fun x y r => sw_A 150 320 ls (.long (x ^^^ y) :: r) H Q) := sw_A_step (cc := cL_law) rfl dL_law_319 rfl ls st H Q
theorem r150_320 : sw_A 150 320 ls st H Q = (sw_l2 False st fun x y r => sw_A 150 321 ls (.long (x &&& y) :: r) H Q) := sw_A_step (cc := cL_law) rfl dL_law_320 rfl ls st H Q
theorem r150_321 : sw_A 150 321 ls st H Q = (sw_has1 False ls 8 (sw_l1 False st fun x r => sw_A 150 323 (sw_set2 ls 7 (.long x)) r H Q)) := sw_A_step (cc := cL_law) rfl dL_law_321 rfl ls st H Q
theorem r150_323 : sw_A 150 323 ls st H Q = (sw_A 150 1275 ls st H Q) := sw_A_step (cc := cL_law) rfl dL_law_323 rfl ls st H Q
theorem r150_326 : sw_A 150 326 ls st H Q = (sw_ldi False ls 19 fun x => sw_A 150 328 ls (.int x :: st) H Q) := sw_A_step (cc := cL_law) rfl dL_law_326 rfl ls st H Q
theorem r150_328 : sw_A 150 328 ls st H Q = (sw_A 150 329 ls (.int (Int32.ofInt 3) :: st) H Q) := sw_A_step (cc := cL_law) rfl dL_law_328 rfl ls st H Q
theorem r150_329 : sw_A 150 329 ls st H Q = (sw_i2 False st fun x y r => if ¬ x = y then sw_A 150 454 ls r H Q else sw_A 150 332 ls r H Q) := sw_A_step (cc := cL_law) rfl dL_law_329 rfl ls st H Q
theorem r150_332 : sw_A 150 332 ls st H Q = (sw_ldi False ls 18 fun x => sw_A 150 334 ls (.int x :: st) H Q) := sw_A_step (cc := cL_law) rfl dL_law_332 rfl ls st H Q
theorem r150_334 : sw_A 150 334 ls st H Q = (sw_A 150 335 ls (.int (Int32.ofInt 4) :: st) H Q) := sw_A_step (cc := cL_law) rfl dL_law_334 rfl ls st H Q
theorem r150_335 : sw_A 150 335 ls st H Q = (sw_i2 False st fun x y r => sw_A 150 336 ls (.int (x >>> (y &&& 31)) :: r) H Q) := sw_A_step (cc := cL_law) rfl dL_law_335 rfl ls st H Q
theorem r150_336 : sw_A 150 336 ls st H Q = (sw_A 150 337 ls (.int (Int32.ofInt 3) :: st) H Q) := sw_A_step (cc := cL_law) rfl dL_law_336 rfl ls st H Q
theorem r150_337 : sw_A 150 337 ls st H Q = (sw_pop False 2 st [] fun args r => sw_ck False r (sw_M 16 args H (sw_K 150 340 none ls r Q))) := sw_A_step (cc := cL_law) rfl dL_law_337 rfl ls st H Q
theorem r150_340 : sw_A 150 340 ls st H Q = (sw_has1 False ls 21 (sw_i1 False st fun x r => sw_A 150 342 (sw_set1 ls 21 (.int x)) r H Q)) := sw_A_step (cc := cL_law) rfl dL_law_340 rfl ls st H Q
theorem r150_342 : sw_A 150 342 ls st H Q = (sw_A 150 343 ls (.int (Int32.ofInt 0) :: st) H Q) := sw_A_step (cc := cL_law) rfl dL_law_342 rfl ls st H Q
theorem r150_343 : sw_A 150 343 ls st H Q = (sw_has1 False ls 22 (sw_i1 False st fun x r => sw_A 150 345 (sw_set1 ls 22 (.int x)) r H Q)) := sw_A_step (cc := cL_law) rfl dL_law_343 rfl ls st H Q
theorem r150_345 : sw_A 150 345 ls st H Q = (sw_ldi False ls 22 fun x => sw_A 150 347 ls (.int x :: st) H Q) := sw_A_step (cc := cL_law) rfl dL_law_345 rfl ls st H Q
theorem r150_347 : sw_A 150 347 ls st H Q = (sw_ldi False ls 21 fun x => sw_A 150 349 ls (.int x :: st) H Q) := sw_A_step (cc := cL_law) rfl dL_law_347 rfl ls st H Q
theorem r150_349 : sw_A 150 349 ls st H Q = (sw_i2 False st fun x y r => if y ≤ x then sw_A 150 435 ls r H Q else sw_A 150 352 ls r H Q) := sw_A_step (cc := cL_law) rfl dL_law_349 rfl ls st H Q
theorem r150_352 : sw_A 150 352 ls st H Q = (sw_A 150 353 ls (.int (Int32.ofInt (-1)) :: st) H Q) := sw_A_step (cc := cL_law) rfl dL_law_352 rfl ls st H Q
theorem r150_353 : sw_A 150 353 ls st H Q = (sw_has1 False ls 23 (sw_i1 False st fun x r => sw_A 150 355 (sw_set1 ls 23 (.int x)) r H Q)) := sw_A_step (cc := cL_law) rfl dL_law_353 rfl ls st H Q
theorem r150_355 : sw_A 150 355 ls st H Q = (sw_A 150 356 ls (.int (Int32.ofInt 0) :: st) H Q) := sw_A_step (cc := cL_law) rfl dL_law_355 rfl ls st H Q
theorem r150_356 : sw_A 150 356 ls st H Q = (sw_has1 False ls 24 (sw_i1 False st fun x r => sw_A 150 358 (sw_set1 ls 24 (.int x)) r H Q)) := sw_A_step (cc := cL_law) rfl dL_law_356 rfl ls st H Q
theorem r150_358 : sw_A 150 358 ls st H Q = (sw_ldi False ls 24 fun x => sw_A 150 360 ls (.int x :: st) H Q) := sw_A_step (cc := cL_law) rfl dL_law_358 rfl ls st H Q
theorem r150_360 : sw_A 150 360 ls st H Q = (sw_A 150 362 ls (.int (Int32.ofInt 36) :: st) H Q) := sw_A_step (cc := cL_law) rfl dL_law_360 rfl ls st H Q
theorem r150_362 : sw_A 150 362 ls st H Q = (sw_i2 False st fun x y r => if y ≤ x then sw_A 150 415 ls r H Q else sw_A 150 365 ls r H Q) := sw_A_step (cc := cL_law) rfl dL_law_362 rfl ls st H Q
theorem r150_365 : sw_A 150 365 ls st H Q = (sw_ldl False ls 7 fun x => sw_A 150 367 ls (.long x :: st) H Q) := sw_A_step (cc := cL_law) rfl dL_law_365 rfl ls st H Q
theorem r150_367 : sw_A 150 367 ls st H Q = (sw_ldi False ls 24 fun x => sw_A 150 369 ls (.int x :: st) H Q) := sw_A_step (cc := cL_law) rfl dL_law_367 rfl ls st H Q
theorem r150_369 : sw_A 150 369 ls st H Q = (sw_pop False 2 st [] fun args r => sw_ck False r (sw_M 30 args H (sw_K 150 372 none ls r Q))) := sw_A_step (cc := cL_law) rfl dL_law_369 rfl ls st H Q
theorem r150_372 : sw_A 150 372 ls st H Q = (sw_i1 False st fun x r => if ¬ x = 0 then sw_A 150 409 ls r H Q else sw_A 150 375 ls r H Q) := sw_A_step (cc := cL_law) rfl dL_law_372 rfl ls st H Q
theorem r150_375 : sw_A 150 375 ls st H Q = (sw_ldi False ls 23 fun x => sw_A 150 377 ls (.int x :: st) H Q) := sw_A_step (cc := cL_law) rfl dL_law_375 rfl ls st H Q
theorem r150_377 : sw_A 150 377 ls st H Q = (sw_i1 False st fun x r => if x < 0 then sw_A 150 405 ls r H Q else sw_A 150 380 ls r H Q) := sw_A_step (cc := cL_law) rfl dL_law_377 rfl ls st H Q
theorem r150_380 : sw_A 150 380 ls st H Q = (sw_ldl False ls 7 fun x => sw_A 150 382 ls (.long x :: st) H Q) := sw_A_step (cc := cL_law) rfl dL_law_380 rfl ls st H Q
theorem r150_382 : sw_A 150 382 ls st H Q = (sw_A 150 385 ls (.long (Int64.ofInt (-1)) :: st) H Q) := sw_A_step (cc := cL_law) rfl dL_law_382 rfl ls st H Q
theorem r150_385 : sw_A 150 385 ls st H Q = (sw_l2 False st fun x y r => sw_A 150 386 ls (.long (x ^^^ y) :: r) H Q) := sw_A_step (cc := cL_law) rfl dL_law_385 rfl ls st H Q
theorem r150_386 : sw_A 150 386 ls st H Q = (sw_ldi False ls 24 fun x => sw_A 150 388 ls (.int x :: st) H Q) := sw_A_step (cc := cL_law) rfl dL_law_386 rfl ls st H Q
theorem r150_388 : sw_A 150 388 ls st H Q = (sw_pop False 2 st [] fun args r => sw_ck False r (sw_M 31 args H (sw_K 150 391 none ls r Q))) := sw_A_step (cc := cL_law) rfl dL_law_388 rfl ls st H Q
theorem r150_391 : sw_A 150 391 ls st H Q = (sw_ldl False ls 7 fun x => sw_A 150 393 ls (.long x :: st) H Q) := sw_A_step (cc := cL_law) rfl dL_law_391 rfl ls st H Q
theorem r150_393 : sw_A 150 393 ls st H Q = (sw_A 150 396 ls (.long (Int64.ofInt (-1)) :: st) H Q) := sw_A_step (cc := cL_law) rfl dL_law_393 rfl ls st H Q
theorem r150_396 : sw_A 150 396 ls st H Q = (sw_l2 False st fun x y r => sw_A 150 397 ls (.long (x ^^^ y) :: r) H Q) := sw_A_step (cc := cL_law) rfl dL_law_396 rfl ls st H Q
theorem r150_397 : sw_A 150 397 ls st H Q = (sw_ldi False ls 23 fun x => sw_A 150 399 ls (.int x :: st) H Q) := sw_A_step (cc := cL_law) rfl dL_law_397 rfl ls st H Q
theorem r150_399 : sw_A 150 399 ls st H Q = (sw_pop False 2 st [] fun args r => sw_ck False r (sw_M 31 args H (sw_K 150 402 none ls r Q))) := sw_A_step (cc := cL_law) rfl dL_law_399 rfl ls st H Q
theorem r150_402 : sw_A 150 402 ls st H Q = (sw_i2 False st fun x y r => if x ≤ y then sw_A 150 409 ls r H Q else sw_A 150 405 ls r H Q) := sw_A_step (cc := cL_law) rfl dL_law_402 rfl ls st H Q
theorem r150_405 : sw_A 150 405 ls st H Q = (sw_ldi False ls 24 fun x => sw_A 150 407 ls (.int x :: st) H Q) := sw_A_step (cc := cL_law) rfl dL_law_405 rfl ls st H Q
theorem r150_407 : sw_A 150 407 ls st H Q = (sw_has1 False ls 23 (sw_i1 False st fun x r => sw_A 150 409 (sw_set1 ls 23 (.int x)) r H Q)) := sw_A_step (cc := cL_law) rfl dL_law_407 rfl ls st H Q
theorem r150_409 : sw_A 150 409 ls st H Q = (sw_ldi False ls 24 fun x => sw_A 150 412 (sw_set1 ls 24 (.int (x + Int32.ofInt 1))) st H Q) := sw_A_step (cc := cL_law) rfl dL_law_409 rfl ls st H Q
theorem r150_412 : sw_A 150 412 ls st H Q = (sw_A 150 358 ls st H Q) := sw_A_step (cc := cL_law) rfl dL_law_412 rfl ls st H Q
theorem r150_415 : sw_A 150 415 ls st H Q = (sw_ldi False ls 23 fun x => sw_A 150 417 ls (.int x :: st) H Q) := sw_A_step (cc := cL_law) rfl dL_law_415 rfl ls st H Q
theorem r150_417 : sw_A 150 417 ls st H Q = (sw_i1 False st fun x r => if x < 0 then sw_A 150 429 ls r H Q else sw_A 150 420 ls r H Q) := sw_A_step (cc := cL_law) rfl dL_law_417 rfl ls st H Q
theorem r150_420 : sw_A 150 420 ls st H Q = (sw_ldl False ls 7 fun x => sw_A 150 422 ls (.long x :: st) H Q) := sw_A_step (cc := cL_law) rfl dL_law_420 rfl ls st H Q
theorem r150_422 : sw_A 150 422 ls st H Q = (sw_A 150 423 ls (.long (Int64.ofNat 1) :: st) H Q) := sw_A_step (cc := cL_law) rfl dL_law_422 rfl ls st H Q
theorem r150_423 : sw_A 150 423 ls st H Q = (sw_ldi False ls 23 fun x => sw_A 150 425 ls (.int x :: st) H Q) := sw_A_step (cc := cL_law) rfl dL_law_423 rfl ls st H Q
theorem r150_425 : sw_A 150 425 ls st H Q = (sw_li False st fun x y r => sw_A 150 426 ls (.long (x <<< (y.toInt64 &&& 63)) :: r) H Q) := sw_A_step (cc := cL_law) rfl dL_law_425 rfl ls st H Q
theorem r150_426 : sw_A 150 426 ls st H Q = (sw_l2 False st fun x y r => sw_A 150 427 ls (.long (x ||| y) :: r) H Q) := sw_A_step (cc := cL_law) rfl dL_law_426 rfl ls st H Q
theorem r150_427 : sw_A 150 427 ls st H Q = (sw_has1 False ls 8 (sw_l1 False st fun x r => sw_A 150 429 (sw_set2 ls 7 (.long x)) r H Q)) := sw_A_step (cc := cL_law) rfl dL_law_427 rfl ls st H Q
theorem r150_429 : sw_A 150 429 ls st H Q = (sw_ldi False ls 22 fun x => sw_A 150 432 (sw_set1 ls 22 (.int (x + Int32.ofInt 1))) st H Q) := sw_A_step (cc := cL_law) rfl dL_law_429 rfl ls st H Q
theorem r150_432 : sw_A 150 432 ls st H Q = (sw_A 150 345 ls st H Q) := sw_A_step (cc := cL_law) rfl dL_law_432 rfl ls st H Q
theorem r150_435 : sw_A 150 435 ls st H Q = (sw_lda False ls 1 fun x => sw_A 150 436 ls (.ref x :: st) H Q) := sw_A_step (cc := cL_law) rfl dL_law_435 rfl ls st H Q
theorem r150_436 : sw_A 150 436 ls st H Q = (sw_ldi False ls 21 fun x => sw_A 150 438 ls (.int x :: st) H Q) := sw_A_step (cc := cL_law) rfl dL_law_436 rfl ls st H Q
theorem r150_438 : sw_A 150 438 ls st H Q = (sw_pop False 2 st [] fun args r => sw_ck False r (sw_rc False H (some 11) args (sw_M 36 args H (sw_K 150 441 none ls r Q)))) := sw_A_step (cc := cL_law) rfl dL_law_438 rfl ls st H Q
theorem r150_441 : sw_A 150 441 ls st H Q = (sw_ldl False ls 7 fun x => sw_A 150 443 ls (.long x :: st) H Q) := sw_A_step (cc := cL_law) rfl dL_law_441 rfl ls st H Q
theorem r150_443 : sw_A 150 443 ls st H Q = (sw_pop False 1 st [] fun args r => sw_ck False r (sw_M 37 args H (sw_K 150 446 none ls r Q))) := sw_A_step (cc := cL_law) rfl dL_law_443 rfl ls st H Q
theorem r150_446 : sw_A 150 446 ls st H Q = (sw_i2 False st fun x y r => if x = y then sw_A 150 451 ls r H Q else sw_A 150 449 ls r H Q) := sw_A_step (cc := cL_law) rfl dL_law_446 rfl ls st H Q
theorem r150_449 : sw_A 150 449 ls st H Q = (sw_A 150 450 ls (.int (Int32.ofInt 0) :: st) H Q) := sw_A_step (cc := cL_law) rfl dL_law_449 rfl ls st H Q
theorem r150_450 : sw_A 150 450 ls st H Q = (match st with | [.int x] => (if 2 = 1 ∨ 2 = 2 ∧ (x = 0 ∨ x = 1) then Q (some (some (.int x))) H else False) | _ => False) := sw_A_step (cc := cL_law) rfl dL_law_450 rfl ls st H Q
theorem r150_451 : sw_A 150 451 ls st H Q = (sw_A 150 1275 ls st H Q) := sw_A_step (cc := cL_law) rfl dL_law_451 rfl ls st H Q
theorem r150_454 : sw_A 150 454 ls st H Q = (sw_ldi False ls 19 fun x => sw_A 150 456 ls (.int x :: st) H Q) := sw_A_step (cc := cL_law) rfl dL_law_454 rfl ls st H Q
theorem r150_456 : sw_A 150 456 ls st H Q = (sw_A 150 457 ls (.int (Int32.ofInt 4) :: st) H Q) := sw_A_step (cc := cL_law) rfl dL_law_456 rfl ls st H Q
theorem r150_457 : sw_A 150 457 ls st H Q = (sw_i2 False st fun x y r => if ¬ x = y then sw_A 150 603 ls r H Q else sw_A 150 460 ls r H Q) := sw_A_step (cc := cL_law) rfl dL_law_457 rfl ls st H Q
theorem r150_460 : sw_A 150 460 ls st H Q = (sw_A 150 461 ls (.int (Int32.ofInt 0) :: st) H Q) := sw_A_step (cc := cL_law) rfl dL_law_460 rfl ls st H Q
theorem r150_461 : sw_A 150 461 ls st H Q = (sw_has1 False ls 21 (sw_i1 False st fun x r => sw_A 150 463 (sw_set1 ls 21 (.int x)) r H Q)) := sw_A_step (cc := cL_law) rfl dL_law_461 rfl ls st H Q
theorem r150_463 : sw_A 150 463 ls st H Q = (sw_ldi False ls 21 fun x => sw_A 150 465 ls (.int x :: st) H Q) := sw_A_step (cc := cL_law) rfl dL_law_463 rfl ls st H Q
theorem r150_465 : sw_A 150 465 ls st H Q = (sw_A 150 466 ls (.int (Int32.ofInt 5) :: st) H Q) := sw_A_step (cc := cL_law) rfl dL_law_465 rfl ls st H Q
theorem r150_466 : sw_A 150 466 ls st H Q = (sw_i2 False st fun x y r => if y ≤ x then sw_A 150 590 ls r H Q else sw_A 150 469 ls r H Q) := sw_A_step (cc := cL_law) rfl dL_law_466 rfl ls st H Q
theorem r150_469 : sw_A 150 469 ls st H Q = (sw_ldi False ls 20 fun x => sw_A 150 471 ls (.int x :: st) H Q) := sw_A_step (cc := cL_law) rfl dL_law_469 rfl ls st H Q
theorem r150_471 : sw_A 150 471 ls st H Q = (sw_A 150 473 ls (.int (Int32.ofInt 7) :: st) H Q) := sw_A_step (cc := cL_law) rfl dL_law_471 rfl ls st H Q
theorem r150_473 : sw_A 150 473 ls st H Q = (sw_ldi False ls 21 fun x => sw_A 150 475 ls (.int x :: st) H Q) := sw_A_step (cc := cL_law) rfl dL_law_473 rfl ls st H Q
theorem r150_475 : sw_A 150 475 ls st H Q = (sw_i2 False st fun x y r => sw_A 150 476 ls (.int (x * y) :: r) H Q) := sw_A_step (cc := cL_law) rfl dL_law_475 rfl ls st H Q
theorem r150_476 : sw_A 150 476 ls st H Q = (sw_i2 False st fun x y r => sw_A 150 477 ls (.int (x + y) :: r) H Q) := sw_A_step (cc := cL_law) rfl dL_law_476 rfl ls st H Q
theorem r150_477 : sw_A 150 477 ls st H Q = (sw_A 150 479 ls (.int (Int32.ofInt 36) :: st) H Q) := sw_A_step (cc := cL_law) rfl dL_law_477 rfl ls st H Q
theorem r150_479 : sw_A 150 479 ls st H Q = (sw_i2 False st fun x y r => if y = 0 then False else sw_A 150 480 ls (.int (x - x / y * y) :: r) H Q) := sw_A_step (cc := cL_law) rfl dL_law_479 rfl ls st H Q
theorem r150_480 : sw_A 150 480 ls st H Q = (sw_has1 False ls 22 (sw_i1 False st fun x r => sw_A 150 482 (sw_set1 ls 22 (.int x)) r H Q)) := sw_A_step (cc := cL_law) rfl dL_law_480 rfl ls st H Q
theorem r150_482 : sw_A 150 482 ls st H Q = (sw_ldi False ls 17 fun x => sw_A 150 484 ls (.int x :: st) H Q) := sw_A_step (cc := cL_law) rfl dL_law_482 rfl ls st H Q
theorem r150_484 : sw_A 150 484 ls st H Q = (sw_A 150 485 ls (.int (Int32.ofInt 5) :: st) H Q) := sw_A_step (cc := cL_law) rfl dL_law_484 rfl ls st H Q
theorem r150_485 : sw_A 150 485 ls st H Q = (sw_ldi False ls 21 fun x => sw_A 150 487 ls (.int x :: st) H Q) := sw_A_step (cc := cL_law) rfl dL_law_485 rfl ls st H Q
theorem r150_487 : sw_A 150 487 ls st H Q = (sw_i2 False st fun x y r => sw_A 150 488 ls (.int (x + y) :: r) H Q) := sw_A_step (cc := cL_law) rfl dL_law_487 rfl ls st H Q
theorem r150_488 : sw_A 150 488 ls st H Q = (sw_i2 False st fun x y r => sw_A 150 489 ls (.int (x >>> (y &&& 31)) :: r) H Q) := sw_A_step (cc := cL_law) rfl dL_law_488 rfl ls st H Q
theorem r150_489 : sw_A 150 489 ls st H Q = (sw_A 150 490 ls (.int (Int32.ofInt 4) :: st) H Q) := sw_A_step (cc := cL_law) rfl dL_law_489 rfl ls st H Q
theorem r150_490 : sw_A 150 490 ls st H Q = (sw_pop False 2 st [] fun args r => sw_ck False r (sw_M 16 args H (sw_K 150 493 none ls r Q))) := sw_A_step (cc := cL_law) rfl dL_law_490 rfl ls st H Q
theorem r150_493 : sw_A 150 493 ls st H Q = (sw_i1 False st fun x r => if x ≤ 0 then sw_A 150 500 ls r H Q else sw_A 150 496 ls r H Q) := sw_A_step (cc := cL_law) rfl dL_law_493 rfl ls st H Q
theorem r150_496 : sw_A 150 496 ls st H Q = (sw_A 150 497 ls (.int (Int32.ofInt 1) :: st) H Q) := sw_A_step (cc := cL_law) rfl dL_law_496 rfl ls st H Q
theorem r150_497 : sw_A 150 497 ls st H Q = (sw_A 150 501 ls st H Q) := sw_A_step (cc := cL_law) rfl dL_law_497 rfl ls st H Q
theorem r150_500 : sw_A 150 500 ls st H Q = (sw_A 150 501 ls (.int (Int32.ofInt 0) :: st) H Q) := sw_A_step (cc := cL_law) rfl dL_law_500 rfl ls st H Q
theorem r150_501 : sw_A 150 501 ls st H Q = (sw_has1 False ls 23 (sw_i1 False st fun x r => sw_A 150 503 (sw_set1 ls 23 (.int x)) r H Q)) := sw_A_step (cc := cL_law) rfl dL_law_501 rfl ls st H Q
theorem r150_503 : sw_A 150 503 ls st H Q = (sw_lda False ls 1 fun x => sw_A 150 504 ls (.ref x :: st) H Q) := sw_A_step (cc := cL_law) rfl dL_law_503 rfl ls st H Q
theorem r150_504 : sw_A 150 504 ls st H Q = (sw_ldi False ls 22 fun x => sw_A 150 506 ls (.int x :: st) H Q) := sw_A_step (cc := cL_law) rfl dL_law_504 rfl ls st H Q
theorem r150_506 : sw_A 150 506 ls st H Q = (sw_ldi False ls 23 fun x => sw_A 150 508 ls (.int x :: st) H Q) := sw_A_step (cc := cL_law) rfl dL_law_506 rfl ls st H Q
theorem r150_508 : sw_A 150 508 ls st H Q = (sw_pop False 3 st [] fun args r => sw_ck False r (sw_M 40 args H (sw_K 150 511 none ls r Q))) := sw_A_step (cc := cL_law) rfl dL_law_508 rfl ls st H Q
theorem r150_511 : sw_A 150 511 ls st H Q = (sw_ldl False ls 7 fun x => sw_A 150 513 ls (.long x :: st) H Q) := sw_A_step (cc := cL_law) rfl dL_law_511 rfl ls st H Q
theorem r150_513 : sw_A 150 513 ls st H Q = (sw_ldi False ls 22 fun x => sw_A 150 515 ls (.int x :: st) H Q) := sw_A_step (cc := cL_law) rfl dL_law_513 rfl ls st H Q
theorem r150_515 : sw_A 150 515 ls st H Q = (sw_pop False 2 st [] fun args r => sw_ck False r (sw_M 30 args H (sw_K 150 518 none ls r Q))) := sw_A_step (cc := cL_law) rfl dL_law_515 rfl ls st H Q
theorem r150_518 : sw_A 150 518 ls st H Q = (sw_i1 False st fun x r => if x = 0 then sw_A 150 526 ls r H Q else sw_A 150 521 ls r H Q) := sw_A_step (cc := cL_law) rfl dL_law_518 rfl ls st H Q
theorem r150_521 : sw_A 150 521 ls st H Q = (sw_A 150 523 ls (.int (Int32.ofInt (-9)) :: st) H Q) := sw_A_step (cc := cL_law) rfl dL_law_521 rfl ls st H Q
theorem r150_523 : sw_A 150 523 ls st H Q = (sw_A 150 541 ls st H Q) := sw_A_step (cc := cL_law) rfl dL_law_523 rfl ls st H Q
theorem r150_526 : sw_A 150 526 ls st H Q = (sw_ldl False ls 9 fun x => sw_A 150 528 ls (.long x :: st) H Q) := sw_A_step (cc := cL_law) rfl dL_law_526 rfl ls st H Q
theorem r150_528 : sw_A 150 528 ls st H Q = (sw_ldi False ls 22 fun x => sw_A 150 530 ls (.int x :: st) H Q) := sw_A_step (cc := cL_law) rfl dL_law_528 rfl ls st H Q
theorem r150_530 : sw_A 150 530 ls st H Q = (sw_pop False 2 st [] fun args r => sw_ck False r (sw_M 30 args H (sw_K 150 533 none ls r Q))) := sw_A_step (cc := cL_law) rfl dL_law_530 rfl ls st H Q
theorem r150_533 : sw_A 150 533 ls st H Q = (sw_i1 False st fun x r => if x = 0 then sw_A 150 540 ls r H Q else sw_A 150 536 ls r H Q) := sw_A_step (cc := cL_law) rfl dL_law_533 rfl ls st H Q
theorem r150_536 : sw_A 150 536 ls st H Q = (sw_A 150 537 ls (.int (Int32.ofInt 1) :: st) H Q) := sw_A_step (cc := cL_law) rfl dL_law_536 rfl ls st H Q
theorem r150_537 : sw_A 150 537 ls st H Q = (sw_A 150 541 ls st H Q) := sw_A_step (cc := cL_law) rfl dL_law_537 rfl ls st H Q
theorem r150_540 : sw_A 150 540 ls st H Q = (sw_A 150 541 ls (.int (Int32.ofInt 0) :: st) H Q) := sw_A_step (cc := cL_law) rfl dL_law_540 rfl ls st H Q
theorem r150_541 : sw_A 150 541 ls st H Q = (sw_i2 False st fun x y r => if x = y then sw_A 150 546 ls r H Q else sw_A 150 544 ls r H Q) := sw_A_step (cc := cL_law) rfl dL_law_541 rfl ls st H Q
theorem r150_544 : sw_A 150 544 ls st H Q = (sw_A 150 545 ls (.int (Int32.ofInt 0) :: st) H Q) := sw_A_step (cc := cL_law) rfl dL_law_544 rfl ls st H Q
theorem r150_545 : sw_A 150 545 ls st H Q = (match st with | [.int x] => (if 2 = 1 ∨ 2 = 2 ∧ (x = 0 ∨ x = 1) then Q (some (some (.int x))) H else False) | _ => False) := sw_A_step (cc := cL_law) rfl dL_law_545 rfl ls st H Q
theorem r150_546 : sw_A 150 546 ls st H Q = (sw_ldl False ls 7 fun x => sw_A 150 548 ls (.long x :: st) H Q) := sw_A_step (cc := cL_law) rfl dL_law_546 rfl ls st H Q
theorem r150_548 : sw_A 150 548 ls st H Q = (sw_ldi False ls 22 fun x => sw_A 150 550 ls (.int x :: st) H Q) := sw_A_step (cc := cL_law) rfl dL_law_548 rfl ls st H Q
theorem r150_550 : sw_A 150 550 ls st H Q = (sw_pop False 2 st [] fun args r => sw_ck False r (sw_M 30 args H (sw_K 150 553 none ls r Q))) := sw_A_step (cc := cL_law) rfl dL_law_550 rfl ls st H Q
theorem r150_553 : sw_A 150 553 ls st H Q = (sw_i1 False st fun x r => if ¬ x = 0 then sw_A 150 584 ls r H Q else sw_A 150 556 ls r H Q) := sw_A_step (cc := cL_law) rfl dL_law_553 rfl ls st H Q
theorem r150_556 : sw_A 150 556 ls st H Q = (sw_ldi False ls 23 fun x => sw_A 150 558 ls (.int x :: st) H Q) := sw_A_step (cc := cL_law) rfl dL_law_556 rfl ls st H Q
theorem r150_558 : sw_A 150 558 ls st H Q = (sw_i1 False st fun x r => if x = 0 then sw_A 150 571 ls r H Q else sw_A 150 561 ls r H Q) := sw_A_step (cc := cL_law) rfl dL_law_558 rfl ls st H Q
theorem r150_561 : sw_A 150 561 ls st H Q = (sw_ldl False ls 9 fun x => sw_A 150 563 ls (.long x :: st) H Q) := sw_A_step (cc := cL_law) rfl dL_law_561 rfl ls st H Q
theorem r150_563 : sw_A 150 563 ls st H Q = (sw_A 150 564 ls (.long (Int64.ofNat 1) :: st) H Q) := sw_A_step (cc := cL_law) rfl dL_law_563 rfl ls st H Q
theorem r150_564 : sw_A 150 564 ls st H Q = (sw_ldi False ls 22 fun x => sw_A 150 566 ls (.int x :: st) H Q) := sw_A_step (cc := cL_law) rfl dL_law_564 rfl ls st H Q
theorem r150_566 : sw_A 150 566 ls st H Q = (sw_li False st fun x y r => sw_A 150 567 ls (.long (x <<< (y.toInt64 &&& 63)) :: r) H Q) := sw_A_step (cc := cL_law) rfl dL_law_566 rfl ls st H Q
theorem r150_567 : sw_A 150 567 ls st H Q = (sw_l2 False st fun x y r => sw_A 150 568 ls (.long (x ||| y) :: r) H Q) := sw_A_step (cc := cL_law) rfl dL_law_567 rfl ls st H Q
theorem r150_568 : sw_A 150 568 ls st H Q = (sw_A 150 582 ls st H Q) := sw_A_step (cc := cL_law) rfl dL_law_568 rfl ls st H Q
theorem r150_571 : sw_A 150 571 ls st H Q = (sw_ldl False ls 9 fun x => sw_A 150 573 ls (.long x :: st) H Q) := sw_A_step (cc := cL_law) rfl dL_law_571 rfl ls st H Q
theorem r150_573 : sw_A 150 573 ls st H Q = (sw_A 150 574 ls (.long (Int64.ofNat 1) :: st) H Q) := sw_A_step (cc := cL_law) rfl dL_law_573 rfl ls st H Q
theorem r150_574 : sw_A 150 574 ls st H Q = (sw_ldi False ls 22 fun x => sw_A 150 576 ls (.int x :: st) H Q) := sw_A_step (cc := cL_law) rfl dL_law_574 rfl ls st H Q
theorem r150_576 : sw_A 150 576 ls st H Q = (sw_li False st fun x y r => sw_A 150 577 ls (.long (x <<< (y.toInt64 &&& 63)) :: r) H Q) := sw_A_step (cc := cL_law) rfl dL_law_576 rfl ls st H Q
theorem r150_577 : sw_A 150 577 ls st H Q = (sw_A 150 580 ls (.long (Int64.ofInt (-1)) :: st) H Q) := sw_A_step (cc := cL_law) rfl dL_law_577 rfl ls st H Q
theorem r150_580 : sw_A 150 580 ls st H Q = (sw_l2 False st fun x y r => sw_A 150 581 ls (.long (x ^^^ y) :: r) H Q) := sw_A_step (cc := cL_law) rfl dL_law_580 rfl ls st H Q
theorem r150_581 : sw_A 150 581 ls st H Q = (sw_l2 False st fun x y r => sw_A 150 582 ls (.long (x &&& y) :: r) H Q) := sw_A_step (cc := cL_law) rfl dL_law_581 rfl ls st H Q
theorem r150_582 : sw_A 150 582 ls st H Q = (sw_has1 False ls 10 (sw_l1 False st fun x r => sw_A 150 584 (sw_set2 ls 9 (.long x)) r H Q)) := sw_A_step (cc := cL_law) rfl dL_law_582 rfl ls st H Q
theorem r150_584 : sw_A 150 584 ls st H Q = (sw_ldi False ls 21 fun x => sw_A 150 587 (sw_set1 ls 21 (.int (x + Int32.ofInt 1))) st H Q) := sw_A_step (cc := cL_law) rfl dL_law_584 rfl ls st H Q
theorem r150_587 : sw_A 150 587 ls st H Q = (sw_A 150 463 ls st H Q) := sw_A_step (cc := cL_law) rfl dL_law_587 rfl ls st H Q
theorem r150_590 : sw_A 150 590 ls st H Q = (sw_lda False ls 1 fun x => sw_A 150 591 ls (.ref x :: st) H Q) := sw_A_step (cc := cL_law) rfl dL_law_590 rfl ls st H Q
theorem r150_591 : sw_A 150 591 ls st H Q = (sw_ldl False ls 7 fun x => sw_A 150 593 ls (.long x :: st) H Q) := sw_A_step (cc := cL_law) rfl dL_law_591 rfl ls st H Q
theorem r150_593 : sw_A 150 593 ls st H Q = (sw_ldl False ls 9 fun x => sw_A 150 595 ls (.long x :: st) H Q) := sw_A_step (cc := cL_law) rfl dL_law_593 rfl ls st H Q
theorem r150_595 : sw_A 150 595 ls st H Q = (sw_pop False 3 st [] fun args r => sw_ck False r (sw_M 45 args H (sw_K 150 598 none ls r Q))) := sw_A_step (cc := cL_law) rfl dL_law_595 rfl ls st H Q
theorem r150_598 : sw_A 150 598 ls st H Q = (sw_i1 False st fun x r => if ¬ x = 0 then sw_A 150 1275 ls r H Q else sw_A 150 601 ls r H Q) := sw_A_step (cc := cL_law) rfl dL_law_598 rfl ls st H Q
theorem r150_601 : sw_A 150 601 ls st H Q = (sw_A 150 602 ls (.int (Int32.ofInt 0) :: st) H Q) := sw_A_step (cc := cL_law) rfl dL_law_601 rfl ls st H Q
theorem r150_602 : sw_A 150 602 ls st H Q = (match st with | [.int x] => (if 2 = 1 ∨ 2 = 2 ∧ (x = 0 ∨ x = 1) then Q (some (some (.int x))) H else False) | _ => False) := sw_A_step (cc := cL_law) rfl dL_law_602 rfl ls st H Q
theorem r150_603 : sw_A 150 603 ls st H Q = (sw_ldi False ls 19 fun x => sw_A 150 605 ls (.int x :: st) H Q) := sw_A_step (cc := cL_law) rfl dL_law_603 rfl ls st H Q
theorem r150_605 : sw_A 150 605 ls st H Q = (sw_A 150 606 ls (.int (Int32.ofInt 5) :: st) H Q) := sw_A_step (cc := cL_law) rfl dL_law_605 rfl ls st H Q
theorem r150_606 : sw_A 150 606 ls st H Q = (sw_i2 False st fun x y r => if ¬ x = y then sw_A 150 739 ls r H Q else sw_A 150 609 ls r H Q) := sw_A_step (cc := cL_law) rfl dL_law_606 rfl ls st H Q
theorem r150_609 : sw_A 150 609 ls st H Q = (sw_A 150 610 ls (.int (Int32.ofInt 1) :: st) H Q) := sw_A_step (cc := cL_law) rfl dL_law_609 rfl ls st H Q
theorem r150_610 : sw_A 150 610 ls st H Q = (sw_ldi False ls 18 fun x => sw_A 150 612 ls (.int x :: st) H Q) := sw_A_step (cc := cL_law) rfl dL_law_610 rfl ls st H Q
theorem r150_612 : sw_A 150 612 ls st H Q = (sw_A 150 613 ls (.int (Int32.ofInt 5) :: st) H Q) := sw_A_step (cc := cL_law) rfl dL_law_612 rfl ls st H Q
theorem r150_613 : sw_A 150 613 ls st H Q = (sw_i2 False st fun x y r => sw_A 150 614 ls (.int (x >>> (y &&& 31)) :: r) H Q) := sw_A_step (cc := cL_law) rfl dL_law_613 rfl ls st H Q
theorem r150_614 : sw_A 150 614 ls st H Q = (sw_A 150 616 ls (.int (Int32.ofInt 40) :: st) H Q) := sw_A_step (cc := cL_law) rfl dL_law_614 rfl ls st H Q
theorem r150_616 : sw_A 150 616 ls st H Q = (sw_pop False 2 st [] fun args r => sw_ck False r (sw_M 16 args H (sw_K 150 619 none ls r Q))) := sw_A_step (cc := cL_law) rfl dL_law_616 rfl ls st H Q
theorem r150_619 : sw_A 150 619 ls st H Q = (sw_i2 False st fun x y r => sw_A 150 620 ls (.int (x + y) :: r) H Q) := sw_A_step (cc := cL_law) rfl dL_law_619 rfl ls st H Q
theorem r150_620 : sw_A 150 620 ls st H Q = (sw_has1 False ls 21 (sw_i1 False st fun x r => sw_A 150 622 (sw_set1 ls 21 (.int x)) r H Q)) := sw_A_step (cc := cL_law) rfl dL_law_620 rfl ls st H Q
theorem r150_622 : sw_A 150 622 ls st H Q = (sw_A 150 623 ls (.int (Int32.ofInt 0) :: st) H Q) := sw_A_step (cc := cL_law) rfl dL_law_622 rfl ls st H Q
theorem r150_623 : sw_A 150 623 ls st H Q = (sw_has1 False ls 22 (sw_i1 False st fun x r => sw_A 150 625 (sw_set1 ls 22 (.int x)) r H Q)) := sw_A_step (cc := cL_law) rfl dL_law_623 rfl ls st H Q
theorem r150_625 : sw_A 150 625 ls st H Q = (sw_ldi False ls 22 fun x => sw_A 150 627 ls (.int x :: st) H Q) := sw_A_step (cc := cL_law) rfl dL_law_625 rfl ls st H Q
theorem r150_627 : sw_A 150 627 ls st H Q = (sw_ldi False ls 21 fun x => sw_A 150 629 ls (.int x :: st) H Q) := sw_A_step (cc := cL_law) rfl dL_law_627 rfl ls st H Q
theorem r150_629 : sw_A 150 629 ls st H Q = (sw_i2 False st fun x y r => if y ≤ x then sw_A 150 670 ls r H Q else sw_A 150 632 ls r H Q) := sw_A_step (cc := cL_law) rfl dL_law_629 rfl ls st H Q
theorem r150_632 : sw_A 150 632 ls st H Q = (sw_ldi False ls 15 fun x => sw_A 150 634 ls (.int x :: st) H Q) := sw_A_step (cc := cL_law) rfl dL_law_632 rfl ls st H Q
theorem r150_634 : sw_A 150 634 ls st H Q = (sw_pop False 1 st [] fun args r => sw_ck False r (sw_M 21 args H (sw_K 150 637 none ls r Q))) := sw_A_step (cc := cL_law) rfl dL_law_634 rfl ls st H Q
theorem r150_637 : sw_A 150 637 ls st H Q = (sw_has1 False ls 15 (sw_i1 False st fun x r => sw_A 150 639 (sw_set1 ls 15 (.int x)) r H Q)) := sw_A_step (cc := cL_law) rfl dL_law_637 rfl ls st H Q
theorem r150_639 : sw_A 150 639 ls st H Q = (sw_ldl False ls 7 fun x => sw_A 150 641 ls (.long x :: st) H Q) := sw_A_step (cc := cL_law) rfl dL_law_639 rfl ls st H Q
theorem r150_641 : sw_A 150 641 ls st H Q = (sw_ldi False ls 15 fun x => sw_A 150 643 ls (.int x :: st) H Q) := sw_A_step (cc := cL_law) rfl dL_law_641 rfl ls st H Q
theorem r150_643 : sw_A 150 643 ls st H Q = (sw_A 150 645 ls (.int (Int32.ofInt 36) :: st) H Q) := sw_A_step (cc := cL_law) rfl dL_law_643 rfl ls st H Q
theorem r150_645 : sw_A 150 645 ls st H Q = (sw_i2 False st fun x y r => if y = 0 then False else sw_A 150 646 ls (.int (x - x / y * y) :: r) H Q) := sw_A_step (cc := cL_law) rfl dL_law_645 rfl ls st H Q
theorem r150_646 : sw_A 150 646 ls st H Q = (sw_pop False 2 st [] fun args r => sw_ck False r (sw_M 30 args H (sw_K 150 649 none ls r Q))) := sw_A_step (cc := cL_law) rfl dL_law_646 rfl ls st H Q
theorem r150_649 : sw_A 150 649 ls st H Q = (sw_i1 False st fun x r => if ¬ x = 0 then sw_A 150 664 ls r H Q else sw_A 150 652 ls r H Q) := sw_A_step (cc := cL_law) rfl dL_law_649 rfl ls st H Q
theorem r150_652 : sw_A 150 652 ls st H Q = (sw_ldl False ls 11 fun x => sw_A 150 654 ls (.long x :: st) H Q) := sw_A_step (cc := cL_law) rfl dL_law_652 rfl ls st H Q
theorem r150_654 : sw_A 150 654 ls st H Q = (sw_A 150 655 ls (.long (Int64.ofNat 1) :: st) H Q) := sw_A_step (cc := cL_law) rfl dL_law_654 rfl ls st H Q
theorem r150_655 : sw_A 150 655 ls st H Q = (sw_ldi False ls 15 fun x => sw_A 150 657 ls (.int x :: st) H Q) := sw_A_step (cc := cL_law) rfl dL_law_655 rfl ls st H Q
theorem r150_657 : sw_A 150 657 ls st H Q = (sw_A 150 659 ls (.int (Int32.ofInt 36) :: st) H Q) := sw_A_step (cc := cL_law) rfl dL_law_657 rfl ls st H Q
theorem r150_659 : sw_A 150 659 ls st H Q = (sw_i2 False st fun x y r => if y = 0 then False else sw_A 150 660 ls (.int (x - x / y * y) :: r) H Q) := sw_A_step (cc := cL_law) rfl dL_law_659 rfl ls st H Q
theorem r150_660 : sw_A 150 660 ls st H Q = (sw_li False st fun x y r => sw_A 150 661 ls (.long (x <<< (y.toInt64 &&& 63)) :: r) H Q) := sw_A_step (cc := cL_law) rfl dL_law_660 rfl ls st H Q
theorem r150_661 : sw_A 150 661 ls st H Q = (sw_l2 False st fun x y r => sw_A 150 662 ls (.long (x ||| y) :: r) H Q) := sw_A_step (cc := cL_law) rfl dL_law_661 rfl ls st H Q
theorem r150_662 : sw_A 150 662 ls st H Q = (sw_has1 False ls 12 (sw_l1 False st fun x r => sw_A 150 664 (sw_set2 ls 11 (.long x)) r H Q)) := sw_A_step (cc := cL_law) rfl dL_law_662 rfl ls st H Q
theorem r150_664 : sw_A 150 664 ls st H Q = (sw_ldi False ls 22 fun x => sw_A 150 667 (sw_set1 ls 22 (.int (x + Int32.ofInt 1))) st H Q) := sw_A_step (cc := cL_law) rfl dL_law_664 rfl ls st H Q
theorem r150_667 : sw_A 150 667 ls st H Q = (sw_A 150 625 ls st H Q) := sw_A_step (cc := cL_law) rfl dL_law_667 rfl ls st H Q
theorem r150_670 : sw_A 150 670 ls st H Q = (sw_lda False ls 1 fun x => sw_A 150 671 ls (.ref x :: st) H Q) := sw_A_step (cc := cL_law) rfl dL_law_670 rfl ls st H Q
theorem r150_671 : sw_A 150 671 ls st H Q = (sw_ldi False ls 21 fun x => sw_A 150 673 ls (.int x :: st) H Q) := sw_A_step (cc := cL_law) rfl dL_law_671 rfl ls st H Q
theorem r150_673 : sw_A 150 673 ls st H Q = (sw_pop False 2 st [] fun args r => sw_ck False r (sw_rc False H (some 11) args (sw_M 47 args H (sw_K 150 676 none ls r Q)))) := sw_A_step (cc := cL_law) rfl dL_law_673 rfl ls st H Q
theorem r150_676 : sw_A 150 676 ls st H Q = (sw_ldl False ls 11 fun x => sw_A 150 678 ls (.long x :: st) H Q) := sw_A_step (cc := cL_law) rfl dL_law_676 rfl ls st H Q
theorem r150_678 : sw_A 150 678 ls st H Q = (sw_pop False 1 st [] fun args r => sw_ck False r (sw_M 37 args H (sw_K 150 681 none ls r Q))) := sw_A_step (cc := cL_law) rfl dL_law_678 rfl ls st H Q
theorem r150_681 : sw_A 150 681 ls st H Q = (sw_i2 False st fun x y r => if x = y then sw_A 150 686 ls r H Q else sw_A 150 684 ls r H Q) := sw_A_step (cc := cL_law) rfl dL_law_681 rfl ls st H Q
theorem r150_684 : sw_A 150 684 ls st H Q = (sw_A 150 685 ls (.int (Int32.ofInt 0) :: st) H Q) := sw_A_step (cc := cL_law) rfl dL_law_684 rfl ls st H Q
theorem r150_685 : sw_A 150 685 ls st H Q = (match st with | [.int x] => (if 2 = 1 ∨ 2 = 2 ∧ (x = 0 ∨ x = 1) then Q (some (some (.int x))) H else False) | _ => False) := sw_A_step (cc := cL_law) rfl dL_law_685 rfl ls st H Q
theorem r150_686 : sw_A 150 686 ls st H Q = (sw_ldl False ls 11 fun x => sw_A 150 688 ls (.long x :: st) H Q) := sw_A_step (cc := cL_law) rfl dL_law_686 rfl ls st H Q
theorem r150_688 : sw_A 150 688 ls st H Q = (sw_A 150 689 ls (.long (Int64.ofNat 1) :: st) H Q) := sw_A_step (cc := cL_law) rfl dL_law_688 rfl ls st H Q
theorem r150_689 : sw_A 150 689 ls st H Q = (sw_ldi False ls 20 fun x => sw_A 150 691 ls (.int x :: st) H Q) := sw_A_step (cc := cL_law) rfl dL_law_689 rfl ls st H Q
theorem r150_691 : sw_A 150 691 ls st H Q = (sw_li False st fun x y r => sw_A 150 692 ls (.long (x <<< (y.toInt64 &&& 63)) :: r) H Q) := sw_A_step (cc := cL_law) rfl dL_law_691 rfl ls st H Q
theorem r150_692 : sw_A 150 692 ls st H Q = (sw_pop False 2 st [] fun args r => sw_ck False r (sw_M 48 args H (sw_K 150 695 none ls r Q))) := sw_A_step (cc := cL_law) rfl dL_law_692 rfl ls st H Q
theorem r150_695 : sw_A 150 695 ls st H Q = (sw_has1 False ls 23 (sw_l1 False st fun x r => sw_A 150 697 (sw_set2 ls 22 (.long x)) r H Q)) := sw_A_step (cc := cL_law) rfl dL_law_695 rfl ls st H Q
theorem r150_697 : sw_A 150 697 ls st H Q = (sw_ldi False ls 17 fun x => sw_A 150 699 ls (.int x :: st) H Q) := sw_A_step (cc := cL_law) rfl dL_law_697 rfl ls st H Q
theorem r150_699 : sw_A 150 699 ls st H Q = (sw_A 150 701 ls (.int (Int32.ofInt 6) :: st) H Q) := sw_A_step (cc := cL_law) rfl dL_law_699 rfl ls st H Q
theorem r150_701 : sw_A 150 701 ls st H Q = (sw_i2 False st fun x y r => sw_A 150 702 ls (.int (x >>> (y &&& 31)) :: r) H Q) := sw_A_step (cc := cL_law) rfl dL_law_701 rfl ls st H Q
theorem r150_702 : sw_A 150 702 ls st H Q = (sw_A 150 703 ls (.int (Int32.ofInt 2) :: st) H Q) := sw_A_step (cc := cL_law) rfl dL_law_702 rfl ls st H Q
theorem r150_703 : sw_A 150 703 ls st H Q = (sw_pop False 2 st [] fun args r => sw_ck False r (sw_M 16 args H (sw_K 150 706 none ls r Q))) := sw_A_step (cc := cL_law) rfl dL_law_703 rfl ls st H Q
theorem r150_706 : sw_A 150 706 ls st H Q = (sw_i1 False st fun x r => if ¬ x = 0 then sw_A 150 736 ls r H Q else sw_A 150 709 ls r H Q) := sw_A_step (cc := cL_law) rfl dL_law_706 rfl ls st H Q
theorem r150_709 : sw_A 150 709 ls st H Q = (sw_lda False ls 1 fun x => sw_A 150 710 ls (.ref x :: st) H Q) := sw_A_step (cc := cL_law) rfl dL_law_709 rfl ls st H Q
theorem r150_710 : sw_A 150 710 ls st H Q = (sw_ldi False ls 20 fun x => sw_A 150 712 ls (.int x :: st) H Q) := sw_A_step (cc := cL_law) rfl dL_law_710 rfl ls st H Q
theorem r150_712 : sw_A 150 712 ls st H Q = (sw_pop False 2 st [] fun args r => sw_ck False r (sw_rc False H (some 11) args (sw_M 54 args H (sw_K 150 715 none ls r Q)))) := sw_A_step (cc := cL_law) rfl dL_law_712 rfl ls st H Q
theorem r150_715 : sw_A 150 715 ls st H Q = (sw_ldl False ls 22 fun x => sw_A 150 717 ls (.long x :: st) H Q) := sw_A_step (cc := cL_law) rfl dL_law_715 rfl ls st H Q
theorem r150_717 : sw_A 150 717 ls st H Q = (sw_pop False 1 st [] fun args r => sw_ck False r (sw_M 37 args H (sw_K 150 720 none ls r Q))) := sw_A_step (cc := cL_law) rfl dL_law_717 rfl ls st H Q
theorem r150_720 : sw_A 150 720 ls st H Q = (sw_i2 False st fun x y r => if x = y then sw_A 150 725 ls r H Q else sw_A 150 723 ls r H Q) := sw_A_step (cc := cL_law) rfl dL_law_720 rfl ls st H Q
theorem r150_723 : sw_A 150 723 ls st H Q = (sw_A 150 724 ls (.int (Int32.ofInt 0) :: st) H Q) := sw_A_step (cc := cL_law) rfl dL_law_723 rfl ls st H Q
theorem r150_724 : sw_A 150 724 ls st H Q = (match st with | [.int x] => (if 2 = 1 ∨ 2 = 2 ∧ (x = 0 ∨ x = 1) then Q (some (some (.int x))) H else False) | _ => False) := sw_A_step (cc := cL_law) rfl dL_law_724 rfl ls st H Q
theorem r150_725 : sw_A 150 725 ls st H Q = (sw_ldl False ls 11 fun x => sw_A 150 727 ls (.long x :: st) H Q) := sw_A_step (cc := cL_law) rfl dL_law_725 rfl ls st H Q
theorem r150_727 : sw_A 150 727 ls st H Q = (sw_ldl False ls 22 fun x => sw_A 150 729 ls (.long x :: st) H Q) := sw_A_step (cc := cL_law) rfl dL_law_727 rfl ls st H Q
theorem r150_729 : sw_A 150 729 ls st H Q = (sw_A 150 732 ls (.long (Int64.ofInt (-1)) :: st) H Q) := sw_A_step (cc := cL_law) rfl dL_law_729 rfl ls st H Q
theorem r150_732 : sw_A 150 732 ls st H Q = (sw_l2 False st fun x y r => sw_A 150 733 ls (.long (x ^^^ y) :: r) H Q) := sw_A_step (cc := cL_law) rfl dL_law_732 rfl ls st H Q
theorem r150_733 : sw_A 150 733 ls st H Q = (sw_l2 False st fun x y r => sw_A 150 734 ls (.long (x &&& y) :: r) H Q) := sw_A_step (cc := cL_law) rfl dL_law_733 rfl ls st H Q
theorem r150_734 : sw_A 150 734 ls st H Q = (sw_has1 False ls 12 (sw_l1 False st fun x r => sw_A 150 736 (sw_set2 ls 11 (.long x)) r H Q)) := sw_A_step (cc := cL_law) rfl dL_law_734 rfl ls st H Q
theorem r150_736 : sw_A 150 736 ls st H Q = (sw_A 150 1275 ls st H Q) := sw_A_step (cc := cL_law) rfl dL_law_736 rfl ls st H Q
theorem r150_739 : sw_A 150 739 ls st H Q = (sw_ldi False ls 19 fun x => sw_A 150 741 ls (.int x :: st) H Q) := sw_A_step (cc := cL_law) rfl dL_law_739 rfl ls st H Q
theorem r150_741 : sw_A 150 741 ls st H Q = (sw_A 150 743 ls (.int (Int32.ofInt 6) :: st) H Q) := sw_A_step (cc := cL_law) rfl dL_law_741 rfl ls st H Q
theorem r150_743 : sw_A 150 743 ls st H Q = (sw_i2 False st fun x y r => if ¬ x = y then sw_A 150 984 ls r H Q else sw_A 150 746 ls r H Q) := sw_A_step (cc := cL_law) rfl dL_law_743 rfl ls st H Q
theorem r150_746 : sw_A 150 746 ls st H Q = (sw_ldi False ls 18 fun x => sw_A 150 748 ls (.int x :: st) H Q) := sw_A_step (cc := cL_law) rfl dL_law_746 rfl ls st H Q
theorem r150_748 : sw_A 150 748 ls st H Q = (sw_A 150 750 ls (.int (Int32.ofInt 12) :: st) H Q) := sw_A_step (cc := cL_law) rfl dL_law_748 rfl ls st H Q
theorem r150_750 : sw_A 150 750 ls st H Q = (sw_pop False 2 st [] fun args r => sw_ck False r (sw_M 16 args H (sw_K 150 753 none ls r Q))) := sw_A_step (cc := cL_law) rfl dL_law_750 rfl ls st H Q
theorem r150_753 : sw_A 150 753 ls st H Q = (sw_has1 False ls 21 (sw_i1 False st fun x r => sw_A 150 755 (sw_set1 ls 21 (.int x)) r H Q)) := sw_A_step (cc := cL_law) rfl dL_law_753 rfl ls st H Q
theorem r150_755 : sw_A 150 755 ls st H Q = (sw_A 150 756 ls (.int (Int32.ofInt 1) :: st) H Q) := sw_A_step (cc := cL_law) rfl dL_law_755 rfl ls st H Q
theorem r150_756 : sw_A 150 756 ls st H Q = (sw_ldi False ls 18 fun x => sw_A 150 758 ls (.int x :: st) H Q) := sw_A_step (cc := cL_law) rfl dL_law_756 rfl ls st H Q
theorem r150_758 : sw_A 150 758 ls st H Q = (sw_A 150 759 ls (.int (Int32.ofInt 4) :: st) H Q) := sw_A_step (cc := cL_law) rfl dL_law_758 rfl ls st H Q
theorem r150_759 : sw_A 150 759 ls st H Q = (sw_i2 False st fun x y r => sw_A 150 760 ls (.int (x >>> (y &&& 31)) :: r) H Q) := sw_A_step (cc := cL_law) rfl dL_law_759 rfl ls st H Q
theorem r150_760 : sw_A 150 760 ls st H Q = (sw_A 150 763 ls (.int (Int32.ofInt 1000) :: st) H Q) := sw_A_step (cc := cL_law) rfl dL_law_760 rfl ls st H Q
theorem r150_763 : sw_A 150 763 ls st H Q = (sw_pop False 2 st [] fun args r => sw_ck False r (sw_M 16 args H (sw_K 150 766 none ls r Q))) := sw_A_step (cc := cL_law) rfl dL_law_763 rfl ls st H Q
theorem r150_766 : sw_A 150 766 ls st H Q = (sw_i2 False st fun x y r => sw_A 150 767 ls (.int (x + y) :: r) H Q) := sw_A_step (cc := cL_law) rfl dL_law_766 rfl ls st H Q
theorem r150_767 : sw_A 150 767 ls st H Q = (sw_has1 False ls 22 (sw_i1 False st fun x r => sw_A 150 769 (sw_set1 ls 22 (.int x)) r H Q)) := sw_A_step (cc := cL_law) rfl dL_law_767 rfl ls st H Q
theorem r150_769 : sw_A 150 769 ls st H Q = (sw_lda False ls 1 fun x => sw_A 150 770 ls (.ref x :: st) H Q) := sw_A_step (cc := cL_law) rfl dL_law_769 rfl ls st H Q
theorem r150_770 : sw_A 150 770 ls st H Q = (sw_ldi False ls 21 fun x => sw_A 150 772 ls (.int x :: st) H Q) := sw_A_step (cc := cL_law) rfl dL_law_770 rfl ls st H Q
theorem r150_772 : sw_A 150 772 ls st H Q = (sw_ldi False ls 22 fun x => sw_A 150 774 ls (.int x :: st) H Q) := sw_A_step (cc := cL_law) rfl dL_law_772 rfl ls st H Q
theorem r150_774 : sw_A 150 774 ls st H Q = (sw_pop False 3 st [] fun args r => sw_ck False r (sw_rc False H (some 11) args (sw_M 56 args H (sw_K 150 777 none ls r Q)))) := sw_A_step (cc := cL_law) rfl dL_law_774 rfl ls st H Q
theorem r150_777 : sw_A 150 777 ls st H Q = (sw_lda False ls 6 fun x => sw_A 150 779 ls (.ref x :: st) H Q) := sw_A_step (cc := cL_law) rfl dL_law_777 rfl ls st H Q
theorem r150_779 : sw_A 150 779 ls st H Q = (sw_ldi False ls 21 fun x => sw_A 150 781 ls (.int x :: st) H Q) := sw_A_step (cc := cL_law) rfl dL_law_779 rfl ls st H Q
theorem r150_781 : sw_A 150 781 ls st H Q = (sw_ri False st fun a i r => sw_ald False H 0 a i fun x => sw_A 150 782 ls (.int x :: r) H Q) := sw_A_step (cc := cL_law) rfl dL_law_781 rfl ls st H Q
theorem r150_782 : sw_A 150 782 ls st H Q = (sw_i2 False st fun x y r => if x = y then sw_A 150 787 ls r H Q else sw_A 150 785 ls r H Q) := sw_A_step (cc := cL_law) rfl dL_law_782 rfl ls st H Q
theorem r150_785 : sw_A 150 785 ls st H Q = (sw_A 150 786 ls (.int (Int32.ofInt 0) :: st) H Q) := sw_A_step (cc := cL_law) rfl dL_law_785 rfl ls st H Q
theorem r150_786 : sw_A 150 786 ls st H Q = (match st with | [.int x] => (if 2 = 1 ∨ 2 = 2 ∧ (x = 0 ∨ x = 1) then Q (some (some (.int x))) H else False) | _ => False) := sw_A_step (cc := cL_law) rfl dL_law_786 rfl ls st H Q
theorem r150_787 : sw_A 150 787 ls st H Q = (sw_lda False ls 6 fun x => sw_A 150 789 ls (.ref x :: st) H Q) := sw_A_step (cc := cL_law) rfl dL_law_787 rfl ls st H Q
theorem r150_789 : sw_A 150 789 ls st H Q = (sw_ldi False ls 21 fun x => sw_A 150 791 ls (.int x :: st) H Q) := sw_A_step (cc := cL_law) rfl dL_law_789 rfl ls st H Q
theorem r150_791 : sw_A 150 791 ls st H Q = (sw_ldi False ls 22 fun x => sw_A 150 793 ls (.int x :: st) H Q) := sw_A_step (cc := cL_law) rfl dL_law_791 rfl ls st H Q
theorem r150_793 : sw_A 150 793 ls st H Q = (sw_rix False st fun a i x r => sw_ast False H 0 a i x fun H1 => sw_A 150 794 ls r H1 Q) := sw_A_step (cc := cL_law) rfl dL_law_793 rfl ls st H Q
theorem r150_794 : sw_A 150 794 ls st H Q = (sw_A 150 795 ls (.int (Int32.ofInt 0) :: st) H Q) := sw_A_step (cc := cL_law) rfl dL_law_794 rfl ls st H Q
theorem r150_795 : sw_A 150 795 ls st H Q = (sw_has1 False ls 23 (sw_i1 False st fun x r => sw_A 150 797 (sw_set1 ls 23 (.int x)) r H Q)) := sw_A_step (cc := cL_law) rfl dL_law_795 rfl ls st H Q
theorem r150_797 : sw_A 150 797 ls st H Q = (sw_ldi False ls 23 fun x => sw_A 150 799 ls (.int x :: st) H Q) := sw_A_step (cc := cL_law) rfl dL_law_797 rfl ls st H Q
theorem r150_799 : sw_A 150 799 ls st H Q = (sw_A 150 800 ls (.int (Int32.ofInt 4) :: st) H Q) := sw_A_step (cc := cL_law) rfl dL_law_799 rfl ls st H Q
theorem r150_800 : sw_A 150 800 ls st H Q = (sw_i2 False st fun x y r => if y ≤ x then sw_A 150 874 ls r H Q else sw_A 150 803 ls r H Q) := sw_A_step (cc := cL_law) rfl dL_law_800 rfl ls st H Q
theorem r150_803 : sw_A 150 803 ls st H Q = (sw_ldi False ls 17 fun x => sw_A 150 805 ls (.int x :: st) H Q) := sw_A_step (cc := cL_law) rfl dL_law_803 rfl ls st H Q
theorem r150_805 : sw_A 150 805 ls st H Q = (sw_A 150 806 ls (.int (Int32.ofInt 3) :: st) H Q) := sw_A_step (cc := cL_law) rfl dL_law_805 rfl ls st H Q
theorem r150_806 : sw_A 150 806 ls st H Q = (sw_ldi False ls 23 fun x => sw_A 150 808 ls (.int x :: st) H Q) := sw_A_step (cc := cL_law) rfl dL_law_806 rfl ls st H Q
theorem r150_808 : sw_A 150 808 ls st H Q = (sw_i2 False st fun x y r => sw_A 150 809 ls (.int (x * y) :: r) H Q) := sw_A_step (cc := cL_law) rfl dL_law_808 rfl ls st H Q
theorem r150_809 : sw_A 150 809 ls st H Q = (sw_i2 False st fun x y r => sw_A 150 810 ls (.int (x >>> (y &&& 31)) :: r) H Q) := sw_A_step (cc := cL_law) rfl dL_law_809 rfl ls st H Q
theorem r150_810 : sw_A 150 810 ls st H Q = (sw_ldi False ls 23 fun x => sw_A 150 812 ls (.int x :: st) H Q) := sw_A_step (cc := cL_law) rfl dL_law_810 rfl ls st H Q
theorem r150_812 : sw_A 150 812 ls st H Q = (sw_A 150 813 ls (.int (Int32.ofInt 2) :: st) H Q) := sw_A_step (cc := cL_law) rfl dL_law_812 rfl ls st H Q
theorem r150_813 : sw_A 150 813 ls st H Q = (sw_i2 False st fun x y r => if y ≤ x then sw_A 150 822 ls r H Q else sw_A 150 816 ls r H Q) := sw_A_step (cc := cL_law) rfl dL_law_813 rfl ls st H Q
theorem r150_816 : sw_A 150 816 ls st H Q = (sw_A 150 819 ls (.int (Int32.ofInt 3000) :: st) H Q) := sw_A_step (cc := cL_law) rfl dL_law_816 rfl ls st H Q
theorem r150_819 : sw_A 150 819 ls st H Q = (sw_A 150 825 ls st H Q) := sw_A_step (cc := cL_law) rfl dL_law_819 rfl ls st H Q
theorem r150_822 : sw_A 150 822 ls st H Q = (sw_A 150 825 ls (.int (Int32.ofInt 20001) :: st) H Q) := sw_A_step (cc := cL_law) rfl dL_law_822 rfl ls st H Q
theorem r150_825 : sw_A 150 825 ls st H Q = (sw_pop False 2 st [] fun args r => sw_ck False r (sw_M 16 args H (sw_K 150 828 none ls r Q))) := sw_A_step (cc := cL_law) rfl dL_law_825 rfl ls st H Q
theorem r150_828 : sw_A 150 828 ls st H Q = (sw_has1 False ls 24 (sw_i1 False st fun x r => sw_A 150 830 (sw_set1 ls 24 (.int x)) r H Q)) := sw_A_step (cc := cL_law) rfl dL_law_828 rfl ls st H Q
theorem r150_830 : sw_A 150 830 ls st H Q = (sw_lda False ls 1 fun x => sw_A 150 831 ls (.ref x :: st) H Q) := sw_A_step (cc := cL_law) rfl dL_law_830 rfl ls st H Q
theorem r150_831 : sw_A 150 831 ls st H Q = (sw_ldi False ls 24 fun x => sw_A 150 833 ls (.int x :: st) H Q) := sw_A_step (cc := cL_law) rfl dL_law_831 rfl ls st H Q
theorem r150_833 : sw_A 150 833 ls st H Q = (sw_A 150 834 ls (.int (Int32.ofInt 0) :: st) H Q) := sw_A_step (cc := cL_law) rfl dL_law_833 rfl ls st H Q
theorem r150_834 : sw_A 150 834 ls st H Q = (sw_pop False 3 st [] fun args r => sw_ck False r (sw_rc False H (some 11) args (sw_M 63 args H (sw_K 150 837 none ls r Q)))) := sw_A_step (cc := cL_law) rfl dL_law_834 rfl ls st H Q
theorem r150_837 : sw_A 150 837 ls st H Q = (sw_lda False ls 6 fun x => sw_A 150 839 ls (.ref x :: st) H Q) := sw_A_step (cc := cL_law) rfl dL_law_837 rfl ls st H Q
theorem r150_839 : sw_A 150 839 ls st H Q = (sw_ldi False ls 24 fun x => sw_A 150 841 ls (.int x :: st) H Q) := sw_A_step (cc := cL_law) rfl dL_law_839 rfl ls st H Q
theorem r150_841 : sw_A 150 841 ls st H Q = (sw_A 150 842 ls (.int (Int32.ofInt 0) :: st) H Q) := sw_A_step (cc := cL_law) rfl dL_law_841 rfl ls st H Q
theorem r150_842 : sw_A 150 842 ls st H Q = (sw_pop False 3 st [] fun args r => sw_ck False r (sw_M 64 args H (sw_K 150 845 none ls r Q))) := sw_A_step (cc := cL_law) rfl dL_law_842 rfl ls st H Q
theorem r150_845 : sw_A 150 845 ls st H Q = (sw_i2 False st fun x y r => if ¬ x = y then sw_A 150 866 ls r H Q else sw_A 150 848 ls r H Q) := sw_A_step (cc := cL_law) rfl dL_law_845 rfl ls st H Q
theorem r150_848 : sw_A 150 848 ls st H Q = (sw_lda False ls 1 fun x => sw_A 150 849 ls (.ref x :: st) H Q) := sw_A_step (cc := cL_law) rfl dL_law_848 rfl ls st H Q
theorem r150_849 : sw_A 150 849 ls st H Q = (sw_ldi False ls 24 fun x => sw_A 150 851 ls (.int x :: st) H Q) := sw_A_step (cc := cL_law) rfl dL_law_849 rfl ls st H Q
theorem r150_851 : sw_A 150 851 ls st H Q = (sw_A 150 852 ls (.int (Int32.ofInt 1) :: st) H Q) := sw_A_step (cc := cL_law) rfl dL_law_851 rfl ls st H Q
theorem r150_852 : sw_A 150 852 ls st H Q = (sw_pop False 3 st [] fun args r => sw_ck False r (sw_rc False H (some 11) args (sw_M 63 args H (sw_K 150 855 none ls r Q)))) := sw_A_step (cc := cL_law) rfl dL_law_852 rfl ls st H Q
theorem r150_855 : sw_A 150 855 ls st H Q = (sw_lda False ls 6 fun x => sw_A 150 857 ls (.ref x :: st) H Q) := sw_A_step (cc := cL_law) rfl dL_law_855 rfl ls st H Q
theorem r150_857 : sw_A 150 857 ls st H Q = (sw_ldi False ls 24 fun x => sw_A 150 859 ls (.int x :: st) H Q) := sw_A_step (cc := cL_law) rfl dL_law_857 rfl ls st H Q
theorem r150_859 : sw_A 150 859 ls st H Q = (sw_A 150 860 ls (.int (Int32.ofInt 1) :: st) H Q) := sw_A_step (cc := cL_law) rfl dL_law_859 rfl ls st H Q
theorem r150_860 : sw_A 150 860 ls st H Q = (sw_pop False 3 st [] fun args r => sw_ck False r (sw_M 64 args H (sw_K 150 863 none ls r Q))) := sw_A_step (cc := cL_law) rfl dL_law_860 rfl ls st H Q
theorem r150_863 : sw_A 150 863 ls st H Q = (sw_i2 False st fun x y r => if x = y then sw_A 150 868 ls r H Q else sw_A 150 866 ls r H Q) := sw_A_step (cc := cL_law) rfl dL_law_863 rfl ls st H Q
theorem r150_866 : sw_A 150 866 ls st H Q = (sw_A 150 867 ls (.int (Int32.ofInt 0) :: st) H Q) := sw_A_step (cc := cL_law) rfl dL_law_866 rfl ls st H Q
theorem r150_867 : sw_A 150 867 ls st H Q = (match st with | [.int x] => (if 2 = 1 ∨ 2 = 2 ∧ (x = 0 ∨ x = 1) then Q (some (some (.int x))) H else False) | _ => False) := sw_A_step (cc := cL_law) rfl dL_law_867 rfl ls st H Q
theorem r150_868 : sw_A 150 868 ls st H Q = (sw_ldi False ls 23 fun x => sw_A 150 871 (sw_set1 ls 23 (.int (x + Int32.ofInt 1))) st H Q) := sw_A_step (cc := cL_law) rfl dL_law_868 rfl ls st H Q
theorem r150_871 : sw_A 150 871 ls st H Q = (sw_A 150 797 ls st H Q) := sw_A_step (cc := cL_law) rfl dL_law_871 rfl ls st H Q
theorem r150_874 : sw_A 150 874 ls st H Q = (sw_ldi False ls 16 fun x => sw_A 150 876 ls (.int x :: st) H Q) := sw_A_step (cc := cL_law) rfl dL_law_874 rfl ls st H Q
theorem r150_876 : sw_A 150 876 ls st H Q = (sw_A 150 878 ls (.int (Int32.ofInt 30) :: st) H Q) := sw_A_step (cc := cL_law) rfl dL_law_876 rfl ls st H Q
theorem r150_878 : sw_A 150 878 ls st H Q = (sw_i2 False st fun x y r => if x ≤ y then sw_A 150 981 ls r H Q else sw_A 150 881 ls r H Q) := sw_A_step (cc := cL_law) rfl dL_law_878 rfl ls st H Q
theorem r150_881 : sw_A 150 881 ls st H Q = (sw_ldi False ls 17 fun x => sw_A 150 883 ls (.int x :: st) H Q) := sw_A_step (cc := cL_law) rfl dL_law_881 rfl ls st H Q
theorem r150_883 : sw_A 150 883 ls st H Q = (sw_A 150 884 ls (.int (Int32.ofInt 4) :: st) H Q) := sw_A_step (cc := cL_law) rfl dL_law_883 rfl ls st H Q
theorem r150_884 : sw_A 150 884 ls st H Q = (sw_i2 False st fun x y r => sw_A 150 885 ls (.int (x >>> (y &&& 31)) :: r) H Q) := sw_A_step (cc := cL_law) rfl dL_law_884 rfl ls st H Q
theorem r150_885 : sw_A 150 885 ls st H Q = (sw_A 150 886 ls (.int (Int32.ofInt 2) :: st) H Q) := sw_A_step (cc := cL_law) rfl dL_law_885 rfl ls st H Q
theorem r150_886 : sw_A 150 886 ls st H Q = (sw_pop False 2 st [] fun args r => sw_ck False r (sw_M 16 args H (sw_K 150 889 none ls r Q))) := sw_A_step (cc := cL_law) rfl dL_law_886 rfl ls st H Q
theorem r150_889 : sw_A 150 889 ls st H Q = (sw_i1 False st fun x r => if ¬ x = 0 then sw_A 150 896 ls r H Q else sw_A 150 892 ls r H Q) := sw_A_step (cc := cL_law) rfl dL_law_889 rfl ls st H Q
theorem r150_892 : sw_A 150 892 ls st H Q = (sw_A 150 893 ls (.int (Int32.ofInt 1) :: st) H Q) := sw_A_step (cc := cL_law) rfl dL_law_892 rfl ls st H Q
theorem r150_893 : sw_A 150 893 ls st H Q = (sw_A 150 897 ls st H Q) := sw_A_step (cc := cL_law) rfl dL_law_893 rfl ls st H Q
theorem r150_896 : sw_A 150 896 ls st H Q = (sw_A 150 897 ls (.int (Int32.ofInt 0) :: st) H Q) := sw_A_step (cc := cL_law) rfl dL_law_896 rfl ls st H Q
theorem r150_897 : sw_A 150 897 ls st H Q = (sw_has1 False ls 23 (sw_i1 False st fun x r => sw_A 150 899 (sw_set1 ls 23 (.int x)) r H Q)) := sw_A_step (cc := cL_law) rfl dL_law_897 rfl ls st H Q
theorem r150_899 : sw_A 150 899 ls st H Q = (sw_lda False ls 1 fun x => sw_A 150 900 ls (.ref x :: st) H Q) := sw_A_step (cc := cL_law) rfl dL_law_899 rfl ls st H Q
theorem r150_900 : sw_A 150 900 ls st H Q = (sw_ldi False ls 23 fun x => sw_A 150 902 ls (.int x :: st) H Q) := sw_A_step (cc := cL_law) rfl dL_law_900 rfl ls st H Q
theorem r150_902 : sw_A 150 902 ls st H Q = (sw_pop False 2 st [] fun args r => sw_ck False r (sw_rc False H (some 11) args (sw_M 68 args H (sw_K 150 905 none ls r Q)))) := sw_A_step (cc := cL_law) rfl dL_law_902 rfl ls st H Q
theorem r150_905 : sw_A 150 905 ls st H Q = (sw_has1 False ls 24 (sw_i1 False st fun x r => sw_A 150 907 (sw_set1 ls 24 (.int x)) r H Q)) := sw_A_step (cc := cL_law) rfl dL_law_905 rfl ls st H Q
theorem r150_907 : sw_A 150 907 ls st H Q = (sw_lda False ls 6 fun x => sw_A 150 909 ls (.ref x :: st) H Q) := sw_A_step (cc := cL_law) rfl dL_law_907 rfl ls st H Q
theorem r150_909 : sw_A 150 909 ls st H Q = (sw_ldi False ls 24 fun x => sw_A 150 911 ls (.int x :: st) H Q) := sw_A_step (cc := cL_law) rfl dL_law_909 rfl ls st H Q
theorem r150_911 : sw_A 150 911 ls st H Q = (sw_ldi False ls 23 fun x => sw_A 150 913 ls (.int x :: st) H Q) := sw_A_step (cc := cL_law) rfl dL_law_911 rfl ls st H Q
theorem r150_913 : sw_A 150 913 ls st H Q = (sw_pop False 3 st [] fun args r => sw_ck False r (sw_M 64 args H (sw_K 150 916 none ls r Q))) := sw_A_step (cc := cL_law) rfl dL_law_913 rfl ls st H Q
theorem r150_916 : sw_A 150 916 ls st H Q = (sw_A 150 918 ls (.int (Int32.ofInt 12) :: st) H Q) := sw_A_step (cc := cL_law) rfl dL_law_916 rfl ls st H Q
theorem r150_918 : sw_A 150 918 ls st H Q = (sw_i2 False st fun x y r => if x = y then sw_A 150 937 ls r H Q else sw_A 150 921 ls r H Q) := sw_A_step (cc := cL_law) rfl dL_law_918 rfl ls st H Q
theorem r150_921 : sw_A 150 921 ls st H Q = (sw_lda False ls 6 fun x => sw_A 150 923 ls (.ref x :: st) H Q) := sw_A_step (cc := cL_law) rfl dL_law_921 rfl ls st H Q
theorem r150_923 : sw_A 150 923 ls st H Q = (sw_ldi False ls 24 fun x => sw_A 150 925 ls (.int x :: st) H Q) := sw_A_step (cc := cL_law) rfl dL_law_923 rfl ls st H Q
theorem r150_925 : sw_A 150 925 ls st H Q = (sw_A 150 926 ls (.int (Int32.ofInt 1) :: st) H Q) := sw_A_step (cc := cL_law) rfl dL_law_925 rfl ls st H Q
theorem r150_926 : sw_A 150 926 ls st H Q = (sw_i2 False st fun x y r => sw_A 150 927 ls (.int (x + y) :: r) H Q) := sw_A_step (cc := cL_law) rfl dL_law_926 rfl ls st H Q
theorem r150_927 : sw_A 150 927 ls st H Q = (sw_ldi False ls 23 fun x => sw_A 150 929 ls (.int x :: st) H Q) := sw_A_step (cc := cL_law) rfl dL_law_927 rfl ls st H Q
theorem r150_929 : sw_A 150 929 ls st H Q = (sw_pop False 3 st [] fun args r => sw_ck False r (sw_M 64 args H (sw_K 150 932 none ls r Q))) := sw_A_step (cc := cL_law) rfl dL_law_929 rfl ls st H Q
theorem r150_932 : sw_A 150 932 ls st H Q = (sw_A 150 934 ls (.int (Int32.ofInt 12) :: st) H Q) := sw_A_step (cc := cL_law) rfl dL_law_932 rfl ls st H Q
theorem r150_934 : sw_A 150 934 ls st H Q = (sw_i2 False st fun x y r => if x = y then sw_A 150 939 ls r H Q else sw_A 150 937 ls r H Q) := sw_A_step (cc := cL_law) rfl dL_law_934 rfl ls st H Q
theorem r150_937 : sw_A 150 937 ls st H Q = (sw_A 150 938 ls (.int (Int32.ofInt 0) :: st) H Q) := sw_A_step (cc := cL_law) rfl dL_law_937 rfl ls st H Q
theorem r150_938 : sw_A 150 938 ls st H Q = (match st with | [.int x] => (if 2 = 1 ∨ 2 = 2 ∧ (x = 0 ∨ x = 1) then Q (some (some (.int x))) H else False) | _ => False) := sw_A_step (cc := cL_law) rfl dL_law_938 rfl ls st H Q
theorem r150_939 : sw_A 150 939 ls st H Q = (sw_A 150 940 ls (.int (Int32.ofInt 0) :: st) H Q) := sw_A_step (cc := cL_law) rfl dL_law_939 rfl ls st H Q
theorem r150_940 : sw_A 150 940 ls st H Q = (sw_has1 False ls 25 (sw_i1 False st fun x r => sw_A 150 942 (sw_set1 ls 25 (.int x)) r H Q)) := sw_A_step (cc := cL_law) rfl dL_law_940 rfl ls st H Q
theorem r150_942 : sw_A 150 942 ls st H Q = (sw_ldi False ls 25 fun x => sw_A 150 944 ls (.int x :: st) H Q) := sw_A_step (cc := cL_law) rfl dL_law_942 rfl ls st H Q
theorem r150_944 : sw_A 150 944 ls st H Q = (sw_A 150 946 ls (.int (Int32.ofInt 12) :: st) H Q) := sw_A_step (cc := cL_law) rfl dL_law_944 rfl ls st H Q
theorem r150_946 : sw_A 150 946 ls st H Q = (sw_i2 False st fun x y r => if y ≤ x then sw_A 150 981 ls r H Q else sw_A 150 949 ls r H Q) := sw_A_step (cc := cL_law) rfl dL_law_946 rfl ls st H Q
theorem r150_949 : sw_A 150 949 ls st H Q = (sw_lda False ls 6 fun x => sw_A 150 951 ls (.ref x :: st) H Q) := sw_A_step (cc := cL_law) rfl dL_law_949 rfl ls st H Q
theorem r150_951 : sw_A 150 951 ls st H Q = (sw_ldi False ls 18 fun x => sw_A 150 953 ls (.int x :: st) H Q) := sw_A_step (cc := cL_law) rfl dL_law_951 rfl ls st H Q
theorem r150_953 : sw_A 150 953 ls st H Q = (sw_ldi False ls 25 fun x => sw_A 150 955 ls (.int x :: st) H Q) := sw_A_step (cc := cL_law) rfl dL_law_953 rfl ls st H Q
theorem r150_955 : sw_A 150 955 ls st H Q = (sw_i2 False st fun x y r => sw_A 150 956 ls (.int (x >>> (y &&& 31)) :: r) H Q) := sw_A_step (cc := cL_law) rfl dL_law_955 rfl ls st H Q
theorem r150_956 : sw_A 150 956 ls st H Q = (sw_ldi False ls 24 fun x => sw_A 150 958 ls (.int x :: st) H Q) := sw_A_step (cc := cL_law) rfl dL_law_956 rfl ls st H Q
theorem r150_958 : sw_A 150 958 ls st H Q = (sw_A 150 959 ls (.int (Int32.ofInt 1) :: st) H Q) := sw_A_step (cc := cL_law) rfl dL_law_958 rfl ls st H Q
theorem r150_959 : sw_A 150 959 ls st H Q = (sw_i2 False st fun x y r => sw_A 150 960 ls (.int (x + y) :: r) H Q) := sw_A_step (cc := cL_law) rfl dL_law_959 rfl ls st H Q
theorem r150_960 : sw_A 150 960 ls st H Q = (sw_pop False 2 st [] fun args r => sw_ck False r (sw_M 16 args H (sw_K 150 963 none ls r Q))) := sw_A_step (cc := cL_law) rfl dL_law_960 rfl ls st H Q
theorem r150_963 : sw_A 150 963 ls st H Q = (sw_ldi False ls 23 fun x => sw_A 150 965 ls (.int x :: st) H Q) := sw_A_step (cc := cL_law) rfl dL_law_963 rfl ls st H Q
theorem r150_965 : sw_A 150 965 ls st H Q = (sw_pop False 3 st [] fun args r => sw_ck False r (sw_M 64 args H (sw_K 150 968 none ls r Q))) := sw_A_step (cc := cL_law) rfl dL_law_965 rfl ls st H Q
theorem r150_968 : sw_A 150 968 ls st H Q = (sw_A 150 970 ls (.int (Int32.ofInt 12) :: st) H Q) := sw_A_step (cc := cL_law) rfl dL_law_968 rfl ls st H Q
theorem r150_970 : sw_A 150 970 ls st H Q = (sw_i2 False st fun x y r => if ¬ x = y then sw_A 150 975 ls r H Q else sw_A 150 973 ls r H Q) := sw_A_step (cc := cL_law) rfl dL_law_970 rfl ls st H Q
theorem r150_973 : sw_A 150 973 ls st H Q = (sw_A 150 974 ls (.int (Int32.ofInt 0) :: st) H Q) := sw_A_step (cc := cL_law) rfl dL_law_973 rfl ls st H Q
theorem r150_974 : sw_A 150 974 ls st H Q = (match st with | [.int x] => (if 2 = 1 ∨ 2 = 2 ∧ (x = 0 ∨ x = 1) then Q (some (some (.int x))) H else False) | _ => False) := sw_A_step (cc := cL_law) rfl dL_law_974 rfl ls st H Q
theorem r150_975 : sw_A 150 975 ls st H Q = (sw_ldi False ls 25 fun x => sw_A 150 978 (sw_set1 ls 25 (.int (x + Int32.ofInt 1))) st H Q) := sw_A_step (cc := cL_law) rfl dL_law_975 rfl ls st H Q
theorem r150_978 : sw_A 150 978 ls st H Q = (sw_A 150 942 ls st H Q) := sw_A_step (cc := cL_law) rfl dL_law_978 rfl ls st H Q
theorem r150_981 : sw_A 150 981 ls st H Q = (sw_A 150 1275 ls st H Q) := sw_A_step (cc := cL_law) rfl dL_law_981 rfl ls st H Q
theorem r150_984 : sw_A 150 984 ls st H Q = (sw_ldi False ls 19 fun x => sw_A 150 986 ls (.int x :: st) H Q) := sw_A_step (cc := cL_law) rfl dL_law_984 rfl ls st H Q
theorem r150_986 : sw_A 150 986 ls st H Q = (sw_A 150 988 ls (.int (Int32.ofInt 7) :: st) H Q) := sw_A_step (cc := cL_law) rfl dL_law_986 rfl ls st H Q
theorem r150_988 : sw_A 150 988 ls st H Q = (sw_i2 False st fun x y r => if ¬ x = y then sw_A 150 1033 ls r H Q else sw_A 150 991 ls r H Q) := sw_A_step (cc := cL_law) rfl dL_law_988 rfl ls st H Q
theorem r150_991 : sw_A 150 991 ls st H Q = (sw_ldi False ls 18 fun x => sw_A 150 993 ls (.int x :: st) H Q) := sw_A_step (cc := cL_law) rfl dL_law_991 rfl ls st H Q
theorem r150_993 : sw_A 150 993 ls st H Q = (sw_A 150 996 ls (.int (Int32.ofInt 1001) :: st) H Q) := sw_A_step (cc := cL_law) rfl dL_law_993 rfl ls st H Q
theorem r150_996 : sw_A 150 996 ls st H Q = (sw_pop False 2 st [] fun args r => sw_ck False r (sw_M 16 args H (sw_K 150 999 none ls r Q))) := sw_A_step (cc := cL_law) rfl dL_law_996 rfl ls st H Q
theorem r150_999 : sw_A 150 999 ls st H Q = (sw_has1 False ls 21 (sw_i1 False st fun x r => sw_A 150 1001 (sw_set1 ls 21 (.int x)) r H Q)) := sw_A_step (cc := cL_law) rfl dL_law_999 rfl ls st H Q
theorem r150_1001 : sw_A 150 1001 ls st H Q = (sw_lda False ls 3 fun x => sw_A 150 1002 ls (.ref x :: st) H Q) := sw_A_step (cc := cL_law) rfl dL_law_1001 rfl ls st H Q
theorem r150_1002 : sw_A 150 1002 ls st H Q = (sw_ldl False ls 7 fun x => sw_A 150 1004 ls (.long x :: st) H Q) := sw_A_step (cc := cL_law) rfl dL_law_1002 rfl ls st H Q
theorem r150_1004 : sw_A 150 1004 ls st H Q = (sw_ldl False ls 13 fun x => sw_A 150 1006 ls (.long x :: st) H Q) := sw_A_step (cc := cL_law) rfl dL_law_1004 rfl ls st H Q
theorem r150_1006 : sw_A 150 1006 ls st H Q = (sw_ldi False ls 21 fun x => sw_A 150 1008 ls (.int x :: st) H Q) := sw_A_step (cc := cL_law) rfl dL_law_1006 rfl ls st H Q
theorem r150_1008 : sw_A 150 1008 ls st H Q = (sw_A 150 1009 ls (.int (Int32.ofInt 1) :: st) H Q) := sw_A_step (cc := cL_law) rfl dL_law_1008 rfl ls st H Q
theorem r150_1009 : sw_A 150 1009 ls st H Q = (sw_pop False 5 st [] fun args r => sw_ck False r (sw_M 70 args H (sw_K 150 1012 none ls r Q))) := sw_A_step (cc := cL_law) rfl dL_law_1009 rfl ls st H Q
theorem r150_1012 : sw_A 150 1012 ls st H Q = (sw_has1 False ls 14 (sw_l1 False st fun x r => sw_A 150 1014 (sw_set2 ls 13 (.long x)) r H Q)) := sw_A_step (cc := cL_law) rfl dL_law_1012 rfl ls st H Q
theorem r150_1014 : sw_A 150 1014 ls st H Q = (sw_lda False ls 1 fun x => sw_A 150 1015 ls (.ref x :: st) H Q) := sw_A_step (cc := cL_law) rfl dL_law_1014 rfl ls st H Q
theorem r150_1015 : sw_A 150 1015 ls st H Q = (sw_ldi False ls 21 fun x => sw_A 150 1017 ls (.int x :: st) H Q) := sw_A_step (cc := cL_law) rfl dL_law_1015 rfl ls st H Q
theorem r150_1017 : sw_A 150 1017 ls st H Q = (sw_pop False 2 st [] fun args r => sw_ck False r (sw_rc False H (some 11) args (sw_M 77 args H (sw_K 150 1020 none ls r Q)))) := sw_A_step (cc := cL_law) rfl dL_law_1017 rfl ls st H Q
theorem r150_1020 : sw_A 150 1020 ls st H Q = (sw_ldl False ls 13 fun x => sw_A 150 1022 ls (.long x :: st) H Q) := sw_A_step (cc := cL_law) rfl dL_law_1020 rfl ls st H Q
theorem r150_1022 : sw_A 150 1022 ls st H Q = (sw_pop False 1 st [] fun args r => sw_ck False r (sw_M 37 args H (sw_K 150 1025 none ls r Q))) := sw_A_step (cc := cL_law) rfl dL_law_1022 rfl ls st H Q
theorem r150_1025 : sw_A 150 1025 ls st H Q = (sw_i2 False st fun x y r => if x = y then sw_A 150 1030 ls r H Q else sw_A 150 1028 ls r H Q) := sw_A_step (cc := cL_law) rfl dL_law_1025 rfl ls st H Q
theorem r150_1028 : sw_A 150 1028 ls st H Q = (sw_A 150 1029 ls (.int (Int32.ofInt 0) :: st) H Q) := sw_A_step (cc := cL_law) rfl dL_law_1028 rfl ls st H Q
theorem r150_1029 : sw_A 150 1029 ls st H Q = (match st with | [.int x] => (if 2 = 1 ∨ 2 = 2 ∧ (x = 0 ∨ x = 1) then Q (some (some (.int x))) H else False) | _ => False) := sw_A_step (cc := cL_law) rfl dL_law_1029 rfl ls st H Q
theorem r150_1030 : sw_A 150 1030 ls st H Q = (sw_A 150 1275 ls st H Q) := sw_A_step (cc := cL_law) rfl dL_law_1030 rfl ls st H Q
theorem r150_1033 : sw_A 150 1033 ls st H Q = (sw_ldi False ls 19 fun x => sw_A 150 1035 ls (.int x :: st) H Q) := sw_A_step (cc := cL_law) rfl dL_law_1033 rfl ls st H Q
theorem r150_1035 : sw_A 150 1035 ls st H Q = (sw_A 150 1037 ls (.int (Int32.ofInt 8) :: st) H Q) := sw_A_step (cc := cL_law) rfl dL_law_1035 rfl ls st H Q
theorem r150_1037 : sw_A 150 1037 ls st H Q = (sw_i2 False st fun x y r => if ¬ x = y then sw_A 150 1082 ls r H Q else sw_A 150 1040 ls r H Q) := sw_A_step (cc := cL_law) rfl dL_law_1037 rfl ls st H Q
theorem r150_1040 : sw_A 150 1040 ls st H Q = (sw_ldi False ls 18 fun x => sw_A 150 1042 ls (.int x :: st) H Q) := sw_A_step (cc := cL_law) rfl dL_law_1040 rfl ls st H Q
theorem r150_1042 : sw_A 150 1042 ls st H Q = (sw_A 150 1045 ls (.int (Int32.ofInt 1001) :: st) H Q) := sw_A_step (cc := cL_law) rfl dL_law_1042 rfl ls st H Q
theorem r150_1045 : sw_A 150 1045 ls st H Q = (sw_pop False 2 st [] fun args r => sw_ck False r (sw_M 16 args H (sw_K 150 1048 none ls r Q))) := sw_A_step (cc := cL_law) rfl dL_law_1045 rfl ls st H Q
theorem r150_1048 : sw_A 150 1048 ls st H Q = (sw_has1 False ls 21 (sw_i1 False st fun x r => sw_A 150 1050 (sw_set1 ls 21 (.int x)) r H Q)) := sw_A_step (cc := cL_law) rfl dL_law_1048 rfl ls st H Q
theorem r150_1050 : sw_A 150 1050 ls st H Q = (sw_lda False ls 3 fun x => sw_A 150 1051 ls (.ref x :: st) H Q) := sw_A_step (cc := cL_law) rfl dL_law_1050 rfl ls st H Q
theorem r150_1051 : sw_A 150 1051 ls st H Q = (sw_ldl False ls 7 fun x => sw_A 150 1053 ls (.long x :: st) H Q) := sw_A_step (cc := cL_law) rfl dL_law_1051 rfl ls st H Q
theorem r150_1053 : sw_A 150 1053 ls st H Q = (sw_ldl False ls 13 fun x => sw_A 150 1055 ls (.long x :: st) H Q) := sw_A_step (cc := cL_law) rfl dL_law_1053 rfl ls st H Q
theorem r150_1055 : sw_A 150 1055 ls st H Q = (sw_ldi False ls 21 fun x => sw_A 150 1057 ls (.int x :: st) H Q) := sw_A_step (cc := cL_law) rfl dL_law_1055 rfl ls st H Q
theorem r150_1057 : sw_A 150 1057 ls st H Q = (sw_A 150 1058 ls (.int (Int32.ofInt 0) :: st) H Q) := sw_A_step (cc := cL_law) rfl dL_law_1057 rfl ls st H Q
theorem r150_1058 : sw_A 150 1058 ls st H Q = (sw_pop False 5 st [] fun args r => sw_ck False r (sw_M 70 args H (sw_K 150 1061 none ls r Q))) := sw_A_step (cc := cL_law) rfl dL_law_1058 rfl ls st H Q
theorem r150_1061 : sw_A 150 1061 ls st H Q = (sw_has1 False ls 14 (sw_l1 False st fun x r => sw_A 150 1063 (sw_set2 ls 13 (.long x)) r H Q)) := sw_A_step (cc := cL_law) rfl dL_law_1061 rfl ls st H Q
theorem r150_1063 : sw_A 150 1063 ls st H Q = (sw_lda False ls 1 fun x => sw_A 150 1064 ls (.ref x :: st) H Q) := sw_A_step (cc := cL_law) rfl dL_law_1063 rfl ls st H Q
theorem r150_1064 : sw_A 150 1064 ls st H Q = (sw_ldi False ls 21 fun x => sw_A 150 1066 ls (.int x :: st) H Q) := sw_A_step (cc := cL_law) rfl dL_law_1064 rfl ls st H Q
theorem r150_1066 : sw_A 150 1066 ls st H Q = (sw_pop False 2 st [] fun args r => sw_ck False r (sw_rc False H (some 11) args (sw_M 78 args H (sw_K 150 1069 none ls r Q)))) := sw_A_step (cc := cL_law) rfl dL_law_1066 rfl ls st H Q
theorem r150_1069 : sw_A 150 1069 ls st H Q = (sw_ldl False ls 13 fun x => sw_A 150 1071 ls (.long x :: st) H Q) := sw_A_step (cc := cL_law) rfl dL_law_1069 rfl ls st H Q
theorem r150_1071 : sw_A 150 1071 ls st H Q = (sw_pop False 1 st [] fun args r => sw_ck False r (sw_M 37 args H (sw_K 150 1074 none ls r Q))) := sw_A_step (cc := cL_law) rfl dL_law_1071 rfl ls st H Q
theorem r150_1074 : sw_A 150 1074 ls st H Q = (sw_i2 False st fun x y r => if x = y then sw_A 150 1079 ls r H Q else sw_A 150 1077 ls r H Q) := sw_A_step (cc := cL_law) rfl dL_law_1074 rfl ls st H Q
theorem r150_1077 : sw_A 150 1077 ls st H Q = (sw_A 150 1078 ls (.int (Int32.ofInt 0) :: st) H Q) := sw_A_step (cc := cL_law) rfl dL_law_1077 rfl ls st H Q
theorem r150_1078 : sw_A 150 1078 ls st H Q = (match st with | [.int x] => (if 2 = 1 ∨ 2 = 2 ∧ (x = 0 ∨ x = 1) then Q (some (some (.int x))) H else False) | _ => False) := sw_A_step (cc := cL_law) rfl dL_law_1078 rfl ls st H Q
theorem r150_1079 : sw_A 150 1079 ls st H Q = (sw_A 150 1275 ls st H Q) := sw_A_step (cc := cL_law) rfl dL_law_1079 rfl ls st H Q
theorem r150_1082 : sw_A 150 1082 ls st H Q = (sw_A 150 1083 ls (.int (Int32.ofInt 1) :: st) H Q) := sw_A_step (cc := cL_law) rfl dL_law_1082 rfl ls st H Q
theorem r150_1083 : sw_A 150 1083 ls st H Q = (sw_ldi False ls 18 fun x => sw_A 150 1085 ls (.int x :: st) H Q) := sw_A_step (cc := cL_law) rfl dL_law_1083 rfl ls st H Q
theorem r150_1085 : sw_A 150 1085 ls st H Q = (sw_A 150 1087 ls (.int (Int32.ofInt 6) :: st) H Q) := sw_A_step (cc := cL_law) rfl dL_law_1085 rfl ls st H Q
theorem r150_1087 : sw_A 150 1087 ls st H Q = (sw_pop False 2 st [] fun args r => sw_ck False r (sw_M 16 args H (sw_K 150 1090 none ls r Q))) := sw_A_step (cc := cL_law) rfl dL_law_1087 rfl ls st H Q
theorem r150_1090 : sw_A 150 1090 ls st H Q = (sw_i2 False st fun x y r => sw_A 150 1091 ls (.int (x + y) :: r) H Q) := sw_A_step (cc := cL_law) rfl dL_law_1090 rfl ls st H Q
theorem r150_1091 : sw_A 150 1091 ls st H Q = (sw_has1 False ls 21 (sw_i1 False st fun x r => sw_A 150 1093 (sw_set1 ls 21 (.int x)) r H Q)) := sw_A_step (cc := cL_law) rfl dL_law_1091 rfl ls st H Q
theorem r150_1093 : sw_A 150 1093 ls st H Q = (sw_ldi False ls 17 fun x => sw_A 150 1095 ls (.int x :: st) H Q) := sw_A_step (cc := cL_law) rfl dL_law_1093 rfl ls st H Q
theorem r150_1095 : sw_A 150 1095 ls st H Q = (sw_A 150 1096 ls (.int (Int32.ofInt 4) :: st) H Q) := sw_A_step (cc := cL_law) rfl dL_law_1095 rfl ls st H Q
theorem r150_1096 : sw_A 150 1096 ls st H Q = (sw_i2 False st fun x y r => sw_A 150 1097 ls (.int (x >>> (y &&& 31)) :: r) H Q) := sw_A_step (cc := cL_law) rfl dL_law_1096 rfl ls st H Q
theorem r150_1097 : sw_A 150 1097 ls st H Q = (sw_A 150 1098 ls (.int (Int32.ofInt 3) :: st) H Q) := sw_A_step (cc := cL_law) rfl dL_law_1097 rfl ls st H Q
theorem r150_1098 : sw_A 150 1098 ls st H Q = (sw_pop False 2 st [] fun args r => sw_ck False r (sw_M 16 args H (sw_K 150 1101 none ls r Q))) := sw_A_step (cc := cL_law) rfl dL_law_1098 rfl ls st H Q
theorem r150_1101 : sw_A 150 1101 ls st H Q = (sw_has1 False ls 22 (sw_i1 False st fun x r => sw_A 150 1103 (sw_set1 ls 22 (.int x)) r H Q)) := sw_A_step (cc := cL_law) rfl dL_law_1101 rfl ls st H Q
theorem r150_1103 : sw_A 150 1103 ls st H Q = (sw_A 150 1106 ls (.int (Int32.ofInt 400) :: st) H Q) := sw_A_step (cc := cL_law) rfl dL_law_1103 rfl ls st H Q
theorem r150_1106 : sw_A 150 1106 ls st H Q = (sw_ldi False ls 18 fun x => sw_A 150 1108 ls (.int x :: st) H Q) := sw_A_step (cc := cL_law) rfl dL_law_1106 rfl ls st H Q
theorem r150_1108 : sw_A 150 1108 ls st H Q = (sw_A 150 1109 ls (.int (Int32.ofInt 5) :: st) H Q) := sw_A_step (cc := cL_law) rfl dL_law_1108 rfl ls st H Q
theorem r150_1109 : sw_A 150 1109 ls st H Q = (sw_i2 False st fun x y r => sw_A 150 1110 ls (.int (x >>> (y &&& 31)) :: r) H Q) := sw_A_step (cc := cL_law) rfl dL_law_1109 rfl ls st H Q
theorem r150_1110 : sw_A 150 1110 ls st H Q = (sw_A 150 1113 ls (.int (Int32.ofInt 500) :: st) H Q) := sw_A_step (cc := cL_law) rfl dL_law_1110 rfl ls st H Q
theorem r150_1113 : sw_A 150 1113 ls st H Q = (sw_pop False 2 st [] fun args r => sw_ck False r (sw_M 16 args H (sw_K 150 1116 none ls r Q))) := sw_A_step (cc := cL_law) rfl dL_law_1113 rfl ls st H Q
theorem r150_1116 : sw_A 150 1116 ls st H Q = (sw_i2 False st fun x y r => sw_A 150 1117 ls (.int (x + y) :: r) H Q) := sw_A_step (cc := cL_law) rfl dL_law_1116 rfl ls st H Q
theorem r150_1117 : sw_A 150 1117 ls st H Q = (sw_has1 False ls 23 (sw_i1 False st fun x r => sw_A 150 1119 (sw_set1 ls 23 (.int x)) r H Q)) := sw_A_step (cc := cL_law) rfl dL_law_1117 rfl ls st H Q
theorem r150_1119 : sw_A 150 1119 ls st H Q = (sw_A 150 1120 ls (.int (Int32.ofInt 0) :: st) H Q) := sw_A_step (cc := cL_law) rfl dL_law_1119 rfl ls st H Q
theorem r150_1120 : sw_A 150 1120 ls st H Q = (sw_has1 False ls 24 (sw_i1 False st fun x r => sw_A 150 1122 (sw_set1 ls 24 (.int x)) r H Q)) := sw_A_step (cc := cL_law) rfl dL_law_1120 rfl ls st H Q
theorem r150_1122 : sw_A 150 1122 ls st H Q = (sw_A 150 1123 ls (.int (Int32.ofInt 1) :: st) H Q) := sw_A_step (cc := cL_law) rfl dL_law_1122 rfl ls st H Q
theorem r150_1123 : sw_A 150 1123 ls st H Q = (sw_has1 False ls 25 (sw_i1 False st fun x r => sw_A 150 1125 (sw_set1 ls 25 (.int x)) r H Q)) := sw_A_step (cc := cL_law) rfl dL_law_1123 rfl ls st H Q
theorem r150_1125 : sw_A 150 1125 ls st H Q = (sw_ldi False ls 25 fun x => sw_A 150 1127 ls (.int x :: st) H Q) := sw_A_step (cc := cL_law) rfl dL_law_1125 rfl ls st H Q
theorem r150_1127 : sw_A 150 1127 ls st H Q = (sw_ldi False ls 21 fun x => sw_A 150 1129 ls (.int x :: st) H Q) := sw_A_step (cc := cL_law) rfl dL_law_1127 rfl ls st H Q
theorem r150_1129 : sw_A 150 1129 ls st H Q = (sw_i2 False st fun x y r => if y < x then sw_A 150 1175 ls r H Q else sw_A 150 1132 ls r H Q) := sw_A_step (cc := cL_law) rfl dL_law_1129 rfl ls st H Q
theorem r150_1132 : sw_A 150 1132 ls st H Q = (sw_ldi False ls 25 fun x => sw_A 150 1134 ls (.int x :: st) H Q) := sw_A_step (cc := cL_law) rfl dL_law_1132 rfl ls st H Q
theorem r150_1134 : sw_A 150 1134 ls st H Q = (sw_lda False ls 4 fun x => sw_A 150 1136 ls (.ref x :: st) H Q) := sw_A_step (cc := cL_law) rfl dL_law_1134 rfl ls st H Q
theorem r150_1136 : sw_A 150 1136 ls st H Q = (sw_lda False ls 5 fun x => sw_A 150 1138 ls (.ref x :: st) H Q) := sw_A_step (cc := cL_law) rfl dL_law_1136 rfl ls st H Q
theorem r150_1138 : sw_A 150 1138 ls st H Q = (sw_pop False 3 st [] fun args r => sw_ck False r (sw_M 22 args H (sw_K 150 1141 none ls r Q))) := sw_A_step (cc := cL_law) rfl dL_law_1138 rfl ls st H Q
theorem r150_1141 : sw_A 150 1141 ls st H Q = (sw_ldi False ls 24 fun x => sw_A 150 1143 ls (.int x :: st) H Q) := sw_A_step (cc := cL_law) rfl dL_law_1141 rfl ls st H Q
theorem r150_1143 : sw_A 150 1143 ls st H Q = (sw_lda False ls 4 fun x => sw_A 150 1145 ls (.ref x :: st) H Q) := sw_A_step (cc := cL_law) rfl dL_law_1143 rfl ls st H Q
theorem r150_1145 : sw_A 150 1145 ls st H Q = (sw_lda False ls 5 fun x => sw_A 150 1147 ls (.ref x :: st) H Q) := sw_A_step (cc := cL_law) rfl dL_law_1145 rfl ls st H Q
theorem r150_1147 : sw_A 150 1147 ls st H Q = (sw_ldl False ls 7 fun x => sw_A 150 1149 ls (.long x :: st) H Q) := sw_A_step (cc := cL_law) rfl dL_law_1147 rfl ls st H Q
theorem r150_1149 : sw_A 150 1149 ls st H Q = (sw_ldi False ls 22 fun x => sw_A 150 1151 ls (.int x :: st) H Q) := sw_A_step (cc := cL_law) rfl dL_law_1149 rfl ls st H Q
theorem r150_1151 : sw_A 150 1151 ls st H Q = (sw_ldi False ls 23 fun x => sw_A 150 1153 ls (.int x :: st) H Q) := sw_A_step (cc := cL_law) rfl dL_law_1151 rfl ls st H Q
theorem r150_1153 : sw_A 150 1153 ls st H Q = (sw_A 150 1154 ls (.int (Int32.ofInt 0) :: st) H Q) := sw_A_step (cc := cL_law) rfl dL_law_1153 rfl ls st H Q
theorem r150_1154 : sw_A 150 1154 ls st H Q = (sw_A 150 1155 ls (.int (Int32.ofInt (-1)) :: st) H Q) := sw_A_step (cc := cL_law) rfl dL_law_1154 rfl ls st H Q
theorem r150_1155 : sw_A 150 1155 ls st H Q = (sw_pop False 7 st [] fun args r => sw_ck False r (sw_M 83 args H (sw_K 150 1158 none ls r Q))) := sw_A_step (cc := cL_law) rfl dL_law_1155 rfl ls st H Q
theorem r150_1158 : sw_A 150 1158 ls st H Q = (sw_i1 False st fun x r => if x = 0 then sw_A 150 1165 ls r H Q else sw_A 150 1161 ls r H Q) := sw_A_step (cc := cL_law) rfl dL_law_1158 rfl ls st H Q
theorem r150_1161 : sw_A 150 1161 ls st H Q = (sw_A 150 1162 ls (.int (Int32.ofInt 1) :: st) H Q) := sw_A_step (cc := cL_law) rfl dL_law_1161 rfl ls st H Q
theorem r150_1162 : sw_A 150 1162 ls st H Q = (sw_A 150 1166 ls st H Q) := sw_A_step (cc := cL_law) rfl dL_law_1162 rfl ls st H Q
theorem r150_1165 : sw_A 150 1165 ls st H Q = (sw_A 150 1166 ls (.int (Int32.ofInt 0) :: st) H Q) := sw_A_step (cc := cL_law) rfl dL_law_1165 rfl ls st H Q
theorem r150_1166 : sw_A 150 1166 ls st H Q = (sw_i2 False st fun x y r => sw_A 150 1167 ls (.int (x + y) :: r) H Q) := sw_A_step (cc := cL_law) rfl dL_law_1166 rfl ls st H Q
theorem r150_1167 : sw_A 150 1167 ls st H Q = (sw_has1 False ls 24 (sw_i1 False st fun x r => sw_A 150 1169 (sw_set1 ls 24 (.int x)) r H Q)) := sw_A_step (cc := cL_law) rfl dL_law_1167 rfl ls st H Q
theorem r150_1169 : sw_A 150 1169 ls st H Q = (sw_ldi False ls 25 fun x => sw_A 150 1172 (sw_set1 ls 25 (.int (x + Int32.ofInt 1))) st H Q) := sw_A_step (cc := cL_law) rfl dL_law_1169 rfl ls st H Q
theorem r150_1172 : sw_A 150 1172 ls st H Q = (sw_A 150 1125 ls st H Q) := sw_A_step (cc := cL_law) rfl dL_law_1172 rfl ls st H Q
theorem r150_1175 : sw_A 150 1175 ls st H Q = (sw_lda False ls 1 fun x => sw_A 150 1176 ls (.ref x :: st) H Q) := sw_A_step (cc := cL_law) rfl dL_law_1175 rfl ls st H Q
theorem r150_1176 : sw_A 150 1176 ls st H Q = (sw_ldi False ls 22 fun x => sw_A 150 1178 ls (.int x :: st) H Q) := sw_A_step (cc := cL_law) rfl dL_law_1176 rfl ls st H Q
theorem r150_1178 : sw_A 150 1178 ls st H Q = (sw_ldi False ls 23 fun x => sw_A 150 1180 ls (.int x :: st) H Q) := sw_A_step (cc := cL_law) rfl dL_law_1178 rfl ls st H Q
theorem r150_1180 : sw_A 150 1180 ls st H Q = (sw_ldi False ls 21 fun x => sw_A 150 1182 ls (.int x :: st) H Q) := sw_A_step (cc := cL_law) rfl dL_law_1180 rfl ls st H Q
theorem r150_1182 : sw_A 150 1182 ls st H Q = (sw_pop False 4 st [] fun args r => sw_ck False r (sw_rc False H (some 11) args (sw_M 92 args H (sw_K 150 1185 none ls r Q)))) := sw_A_step (cc := cL_law) rfl dL_law_1182 rfl ls st H Q
theorem r150_1185 : sw_A 150 1185 ls st H Q = (sw_ldi False ls 24 fun x => sw_A 150 1187 ls (.int x :: st) H Q) := sw_A_step (cc := cL_law) rfl dL_law_1185 rfl ls st H Q
theorem r150_1187 : sw_A 150 1187 ls st H Q = (sw_i2 False st fun x y r => if x = y then sw_A 150 1192 ls r H Q else sw_A 150 1190 ls r H Q) := sw_A_step (cc := cL_law) rfl dL_law_1187 rfl ls st H Q
theorem r150_1190 : sw_A 150 1190 ls st H Q = (sw_A 150 1191 ls (.int (Int32.ofInt 0) :: st) H Q) := sw_A_step (cc := cL_law) rfl dL_law_1190 rfl ls st H Q
theorem r150_1191 : sw_A 150 1191 ls st H Q = (match st with | [.int x] => (if 2 = 1 ∨ 2 = 2 ∧ (x = 0 ∨ x = 1) then Q (some (some (.int x))) H else False) | _ => False) := sw_A_step (cc := cL_law) rfl dL_law_1191 rfl ls st H Q
theorem r150_1192 : sw_A 150 1192 ls st H Q = (sw_ldi False ls 23 fun x => sw_A 150 1194 ls (.int x :: st) H Q) := sw_A_step (cc := cL_law) rfl dL_law_1192 rfl ls st H Q
theorem r150_1194 : sw_A 150 1194 ls st H Q = (sw_i1 False st fun x r => sw_A 150 1195 ls (.long x.toInt64 :: r) H Q) := sw_A_step (cc := cL_law) rfl dL_law_1194 rfl ls st H Q
theorem r150_1195 : sw_A 150 1195 ls st H Q = (sw_has1 False ls 26 (sw_l1 False st fun x r => sw_A 150 1197 (sw_set2 ls 25 (.long x)) r H Q)) := sw_A_step (cc := cL_law) rfl dL_law_1195 rfl ls st H Q
theorem r150_1197 : sw_A 150 1197 ls st H Q = (sw_A 150 1198 ls (.int (Int32.ofInt 0) :: st) H Q) := sw_A_step (cc := cL_law) rfl dL_law_1197 rfl ls st H Q
theorem r150_1198 : sw_A 150 1198 ls st H Q = (sw_has1 False ls 27 (sw_i1 False st fun x r => sw_A 150 1200 (sw_set1 ls 27 (.int x)) r H Q)) := sw_A_step (cc := cL_law) rfl dL_law_1198 rfl ls st H Q
theorem r150_1200 : sw_A 150 1200 ls st H Q = (sw_ldi False ls 27 fun x => sw_A 150 1202 ls (.int x :: st) H Q) := sw_A_step (cc := cL_law) rfl dL_law_1200 rfl ls st H Q
theorem r150_1202 : sw_A 150 1202 ls st H Q = (sw_ldi False ls 21 fun x => sw_A 150 1204 ls (.int x :: st) H Q) := sw_A_step (cc := cL_law) rfl dL_law_1202 rfl ls st H Q
theorem r150_1204 : sw_A 150 1204 ls st H Q = (sw_i2 False st fun x y r => if y ≤ x then sw_A 150 1258 ls r H Q else sw_A 150 1207 ls r H Q) := sw_A_step (cc := cL_law) rfl dL_law_1204 rfl ls st H Q
theorem r150_1207 : sw_A 150 1207 ls st H Q = (sw_A 150 1210 ls (.long (Int64.ofInt 1000) :: st) H Q) := sw_A_step (cc := cL_law) rfl dL_law_1207 rfl ls st H Q
theorem r150_1210 : sw_A 150 1210 ls st H Q = (sw_ldl False ls 25 fun x => sw_A 150 1212 ls (.long x :: st) H Q) := sw_A_step (cc := cL_law) rfl dL_law_1210 rfl ls st H Q
theorem r150_1212 : sw_A 150 1212 ls st H Q = (sw_l2 False st fun x y r => sw_A 150 1213 ls (.long (x - y) :: r) H Q) := sw_A_step (cc := cL_law) rfl dL_law_1212 rfl ls st H Q
theorem r150_1213 : sw_A 150 1213 ls st H Q = (sw_has1 False ls 29 (sw_l1 False st fun x r => sw_A 150 1215 (sw_set2 ls 28 (.long x)) r H Q)) := sw_A_step (cc := cL_law) rfl dL_law_1213 rfl ls st H Q
theorem r150_1215 : sw_A 150 1215 ls st H Q = (sw_ldl False ls 25 fun x => sw_A 150 1217 ls (.long x :: st) H Q) := sw_A_step (cc := cL_law) rfl dL_law_1215 rfl ls st H Q
theorem r150_1217 : sw_A 150 1217 ls st H Q = (sw_ldl False ls 25 fun x => sw_A 150 1219 ls (.long x :: st) H Q) := sw_A_step (cc := cL_law) rfl dL_law_1217 rfl ls st H Q
theorem r150_1219 : sw_A 150 1219 ls st H Q = (sw_l2 False st fun x y r => sw_A 150 1220 ls (.long (x * y) :: r) H Q) := sw_A_step (cc := cL_law) rfl dL_law_1219 rfl ls st H Q
theorem r150_1220 : sw_A 150 1220 ls st H Q = (sw_ldl False ls 25 fun x => sw_A 150 1222 ls (.long x :: st) H Q) := sw_A_step (cc := cL_law) rfl dL_law_1220 rfl ls st H Q
theorem r150_1222 : sw_A 150 1222 ls st H Q = (sw_ldl False ls 25 fun x => sw_A 150 1224 ls (.long x :: st) H Q) := sw_A_step (cc := cL_law) rfl dL_law_1222 rfl ls st H Q
theorem r150_1224 : sw_A 150 1224 ls st H Q = (sw_l2 False st fun x y r => sw_A 150 1225 ls (.long (x * y) :: r) H Q) := sw_A_step (cc := cL_law) rfl dL_law_1224 rfl ls st H Q
theorem r150_1225 : sw_A 150 1225 ls st H Q = (sw_A 150 1228 ls (.long (Int64.ofInt 4) :: st) H Q) := sw_A_step (cc := cL_law) rfl dL_law_1225 rfl ls st H Q
theorem r150_1228 : sw_A 150 1228 ls st H Q = (sw_ldl False ls 25 fun x => sw_A 150 1230 ls (.long x :: st) H Q) := sw_A_step (cc := cL_law) rfl dL_law_1228 rfl ls st H Q
theorem r150_1230 : sw_A 150 1230 ls st H Q = (sw_l2 False st fun x y r => sw_A 150 1231 ls (.long (x * y) :: r) H Q) := sw_A_step (cc := cL_law) rfl dL_law_1230 rfl ls st H Q
theorem r150_1231 : sw_A 150 1231 ls st H Q = (sw_ldl False ls 28 fun x => sw_A 150 1233 ls (.long x :: st) H Q) := sw_A_step (cc := cL_law) rfl dL_law_1231 rfl ls st H Q
theorem r150_1233 : sw_A 150 1233 ls st H Q = (sw_l2 False st fun x y r => sw_A 150 1234 ls (.long (x * y) :: r) H Q) := sw_A_step (cc := cL_law) rfl dL_law_1233 rfl ls st H Q
theorem r150_1234 : sw_A 150 1234 ls st H Q = (sw_l2 False st fun x y r => sw_A 150 1235 ls (.long (x + y) :: r) H Q) := sw_A_step (cc := cL_law) rfl dL_law_1234 rfl ls st H Q
theorem r150_1235 : sw_A 150 1235 ls st H Q = (sw_A 150 1238 ls (.long (Int64.ofInt 2) :: st) H Q) := sw_A_step (cc := cL_law) rfl dL_law_1235 rfl ls st H Q
theorem r150_1238 : sw_A 150 1238 ls st H Q = (sw_ldl False ls 28 fun x => sw_A 150 1240 ls (.long x :: st) H Q) := sw_A_step (cc := cL_law) rfl dL_law_1238 rfl ls st H Q
theorem r150_1240 : sw_A 150 1240 ls st H Q = (sw_l2 False st fun x y r => sw_A 150 1241 ls (.long (x * y) :: r) H Q) := sw_A_step (cc := cL_law) rfl dL_law_1240 rfl ls st H Q
theorem r150_1241 : sw_A 150 1241 ls st H Q = (sw_ldl False ls 28 fun x => sw_A 150 1243 ls (.long x :: st) H Q) := sw_A_step (cc := cL_law) rfl dL_law_1241 rfl ls st H Q
theorem r150_1243 : sw_A 150 1243 ls st H Q = (sw_l2 False st fun x y r => sw_A 150 1244 ls (.long (x * y) :: r) H Q) := sw_A_step (cc := cL_law) rfl dL_law_1243 rfl ls st H Q
theorem r150_1244 : sw_A 150 1244 ls st H Q = (sw_l2 False st fun x y r => sw_A 150 1245 ls (.long (x + y) :: r) H Q) := sw_A_step (cc := cL_law) rfl dL_law_1244 rfl ls st H Q
theorem r150_1245 : sw_A 150 1245 ls st H Q = (sw_l2 False st fun x y r => sw_A 150 1246 ls (.long (x * y) :: r) H Q) := sw_A_step (cc := cL_law) rfl dL_law_1245 rfl ls st H Q
theorem r150_1246 : sw_A 150 1246 ls st H Q = (sw_A 150 1249 ls (.long (Int64.ofInt 1000000000) :: st) H Q) := sw_A_step (cc := cL_law) rfl dL_law_1246 rfl ls st H Q
theorem r150_1249 : sw_A 150 1249 ls st H Q = (sw_l2 False st fun x y r => if y = 0 then False else sw_A 150 1250 ls (.long (x / y) :: r) H Q) := sw_A_step (cc := cL_law) rfl dL_law_1249 rfl ls st H Q
theorem r150_1250 : sw_A 150 1250 ls st H Q = (sw_has1 False ls 26 (sw_l1 False st fun x r => sw_A 150 1252 (sw_set2 ls 25 (.long x)) r H Q)) := sw_A_step (cc := cL_law) rfl dL_law_1250 rfl ls st H Q
theorem r150_1252 : sw_A 150 1252 ls st H Q = (sw_ldi False ls 27 fun x => sw_A 150 1255 (sw_set1 ls 27 (.int (x + Int32.ofInt 1))) st H Q) := sw_A_step (cc := cL_law) rfl dL_law_1252 rfl ls st H Q
theorem r150_1255 : sw_A 150 1255 ls st H Q = (sw_A 150 1200 ls st H Q) := sw_A_step (cc := cL_law) rfl dL_law_1255 rfl ls st H Q
theorem r150_1258 : sw_A 150 1258 ls st H Q = (sw_lda False ls 1 fun x => sw_A 150 1259 ls (.ref x :: st) H Q) := sw_A_step (cc := cL_law) rfl dL_law_1258 rfl ls st H Q
theorem r150_1259 : sw_A 150 1259 ls st H Q = (sw_ldi False ls 23 fun x => sw_A 150 1261 ls (.int x :: st) H Q) := sw_A_step (cc := cL_law) rfl dL_law_1259 rfl ls st H Q
theorem r150_1261 : sw_A 150 1261 ls st H Q = (sw_ldi False ls 21 fun x => sw_A 150 1263 ls (.int x :: st) H Q) := sw_A_step (cc := cL_law) rfl dL_law_1261 rfl ls st H Q
theorem r150_1263 : sw_A 150 1263 ls st H Q = (sw_pop False 3 st [] fun args r => sw_ck False r (sw_rc False H (some 11) args (sw_M 94 args H (sw_K 150 1266 none ls r Q)))) := sw_A_step (cc := cL_law) rfl dL_law_1263 rfl ls st H Q
theorem r150_1266 : sw_A 150 1266 ls st H Q = (sw_i1 False st fun x r => sw_A 150 1267 ls (.long x.toInt64 :: r) H Q) := sw_A_step (cc := cL_law) rfl dL_law_1266 rfl ls st H Q
theorem r150_1267 : sw_A 150 1267 ls st H Q = (sw_ldl False ls 25 fun x => sw_A 150 1269 ls (.long x :: st) H Q) := sw_A_step (cc := cL_law) rfl dL_law_1267 rfl ls st H Q
theorem r150_1269 : sw_A 150 1269 ls st H Q = (sw_l2 False st fun x y r => sw_A 150 1270 ls (.int (lg_cmp x y) :: r) H Q) := sw_A_step (cc := cL_law) rfl dL_law_1269 rfl ls st H Q
theorem r150_1270 : sw_A 150 1270 ls st H Q = (sw_i1 False st fun x r => if x = 0 then sw_A 150 1275 ls r H Q else sw_A 150 1273 ls r H Q) := sw_A_step (cc := cL_law) rfl dL_law_1270 rfl ls st H Q
theorem r150_1273 : sw_A 150 1273 ls st H Q = (sw_A 150 1274 ls (.int (Int32.ofInt 0) :: st) H Q) := sw_A_step (cc := cL_law) rfl dL_law_1273 rfl ls st H Q
theorem r150_1274 : sw_A 150 1274 ls st H Q = (match st with | [.int x] => (if 2 = 1 ∨ 2 = 2 ∧ (x = 0 ∨ x = 1) then Q (some (some (.int x))) H else False) | _ => False) := sw_A_step (cc := cL_law) rfl dL_law_1274 rfl ls st H Q
theorem r150_1275 : sw_A 150 1275 ls st H Q = (sw_ldl False ls 9 fun x => sw_A 150 1277 ls (.long x :: st) H Q) := sw_A_step (cc := cL_law) rfl dL_law_1275 rfl ls st H Q
theorem r150_1277 : sw_A 150 1277 ls st H Q = (sw_ldl False ls 7 fun x => sw_A 150 1279 ls (.long x :: st) H Q) := sw_A_step (cc := cL_law) rfl dL_law_1277 rfl ls st H Q
theorem r150_1279 : sw_A 150 1279 ls st H Q = (sw_A 150 1282 ls (.long (Int64.ofInt (-1)) :: st) H Q) := sw_A_step (cc := cL_law) rfl dL_law_1279 rfl ls st H Q
theorem r150_1282 : sw_A 150 1282 ls st H Q = (sw_l2 False st fun x y r => sw_A 150 1283 ls (.long (x ^^^ y) :: r) H Q) := sw_A_step (cc := cL_law) rfl dL_law_1282 rfl ls st H Q
theorem r150_1283 : sw_A 150 1283 ls st H Q = (sw_l2 False st fun x y r => sw_A 150 1284 ls (.long (x &&& y) :: r) H Q) := sw_A_step (cc := cL_law) rfl dL_law_1283 rfl ls st H Q
theorem r150_1284 : sw_A 150 1284 ls st H Q = (sw_has1 False ls 10 (sw_l1 False st fun x r => sw_A 150 1286 (sw_set2 ls 9 (.long x)) r H Q)) := sw_A_step (cc := cL_law) rfl dL_law_1284 rfl ls st H Q
theorem r150_1286 : sw_A 150 1286 ls st H Q = (sw_ldl False ls 11 fun x => sw_A 150 1288 ls (.long x :: st) H Q) := sw_A_step (cc := cL_law) rfl dL_law_1286 rfl ls st H Q
theorem r150_1288 : sw_A 150 1288 ls st H Q = (sw_ldl False ls 7 fun x => sw_A 150 1290 ls (.long x :: st) H Q) := sw_A_step (cc := cL_law) rfl dL_law_1288 rfl ls st H Q
theorem r150_1290 : sw_A 150 1290 ls st H Q = (sw_A 150 1293 ls (.long (Int64.ofInt (-1)) :: st) H Q) := sw_A_step (cc := cL_law) rfl dL_law_1290 rfl ls st H Q
theorem r150_1293 : sw_A 150 1293 ls st H Q = (sw_l2 False st fun x y r => sw_A 150 1294 ls (.long (x ^^^ y) :: r) H Q) := sw_A_step (cc := cL_law) rfl dL_law_1293 rfl ls st H Q
theorem r150_1294 : sw_A 150 1294 ls st H Q = (sw_l2 False st fun x y r => sw_A 150 1295 ls (.long (x &&& y) :: r) H Q) := sw_A_step (cc := cL_law) rfl dL_law_1294 rfl ls st H Q
theorem r150_1295 : sw_A 150 1295 ls st H Q = (sw_has1 False ls 12 (sw_l1 False st fun x r => sw_A 150 1297 (sw_set2 ls 11 (.long x)) r H Q)) := sw_A_step (cc := cL_law) rfl dL_law_1295 rfl ls st H Q
theorem r150_1297 : sw_A 150 1297 ls st H Q = (sw_ldl False ls 13 fun x => sw_A 150 1299 ls (.long x :: st) H Q) := sw_A_step (cc := cL_law) rfl dL_law_1297 rfl ls st H Q
theorem r150_1299 : sw_A 150 1299 ls st H Q = (sw_ldl False ls 7 fun x => sw_A 150 1301 ls (.long x :: st) H Q) := sw_A_step (cc := cL_law) rfl dL_law_1299 rfl ls st H Q
theorem r150_1301 : sw_A 150 1301 ls st H Q = (sw_A 150 1304 ls (.long (Int64.ofInt (-1)) :: st) H Q) := sw_A_step (cc := cL_law) rfl dL_law_1301 rfl ls st H Q
theorem r150_1304 : sw_A 150 1304 ls st H Q = (sw_l2 False st fun x y r => sw_A 150 1305 ls (.long (x ^^^ y) :: r) H Q) := sw_A_step (cc := cL_law) rfl dL_law_1304 rfl ls st H Q
theorem r150_1305 : sw_A 150 1305 ls st H Q = (sw_l2 False st fun x y r => sw_A 150 1306 ls (.long (x &&& y) :: r) H Q) := sw_A_step (cc := cL_law) rfl dL_law_1305 rfl ls st H Q
theorem r150_1306 : sw_A 150 1306 ls st H Q = (sw_has1 False ls 14 (sw_l1 False st fun x r => sw_A 150 1308 (sw_set2 ls 13 (.long x)) r H Q)) := sw_A_step (cc := cL_law) rfl dL_law_1306 rfl ls st H Q
theorem r150_1308 : sw_A 150 1308 ls st H Q = (sw_ldi False ls 18 fun x => sw_A 150 1310 ls (.int x :: st) H Q) := sw_A_step (cc := cL_law) rfl dL_law_1308 rfl ls st H Q
theorem r150_1310 : sw_A 150 1310 ls st H Q = (sw_A 150 1312 ls (.int (Int32.ofInt 8) :: st) H Q) := sw_A_step (cc := cL_law) rfl dL_law_1310 rfl ls st H Q
theorem r150_1312 : sw_A 150 1312 ls st H Q = (sw_i2 False st fun x y r => sw_A 150 1313 ls (.int (x >>> (y &&& 31)) :: r) H Q) := sw_A_step (cc := cL_law) rfl dL_law_1312 rfl ls st H Q
theorem r150_1313 : sw_A 150 1313 ls st H Q = (sw_A 150 1314 ls (.int (Int32.ofInt 4) :: st) H Q) := sw_A_step (cc := cL_law) rfl dL_law_1313 rfl ls st H Q
theorem r150_1314 : sw_A 150 1314 ls st H Q = (sw_pop False 2 st [] fun args r => sw_ck False r (sw_M 16 args H (sw_K 150 1317 none ls r Q))) := sw_A_step (cc := cL_law) rfl dL_law_1314 rfl ls st H Q
theorem r150_1317 : sw_A 150 1317 ls st H Q = (sw_i1 False st fun x r => if ¬ x = 0 then sw_A 150 1334 ls r H Q else sw_A 150 1320 ls r H Q) := sw_A_step (cc := cL_law) rfl dL_law_1317 rfl ls st H Q
theorem r150_1320 : sw_A 150 1320 ls st H Q = (sw_ldi False ls 18 fun x => sw_A 150 1322 ls (.int x :: st) H Q) := sw_A_step (cc := cL_law) rfl dL_law_1320 rfl ls st H Q
theorem r150_1322 : sw_A 150 1322 ls st H Q = (sw_A 150 1324 ls (.int (Int32.ofInt 9) :: st) H Q) := sw_A_step (cc := cL_law) rfl dL_law_1322 rfl ls st H Q
theorem r150_1324 : sw_A 150 1324 ls st H Q = (sw_i2 False st fun x y r => sw_A 150 1325 ls (.int (x >>> (y &&& 31)) :: r) H Q) := sw_A_step (cc := cL_law) rfl dL_law_1324 rfl ls st H Q
theorem r150_1325 : sw_A 150 1325 ls st H Q = (sw_A 150 1328 ls (.int (Int32.ofInt 1001) :: st) H Q) := sw_A_step (cc := cL_law) rfl dL_law_1325 rfl ls st H Q
theorem r150_1328 : sw_A 150 1328 ls st H Q = (sw_pop False 2 st [] fun args r => sw_ck False r (sw_M 16 args H (sw_K 150 1331 none ls r Q))) := sw_A_step (cc := cL_law) rfl dL_law_1328 rfl ls st H Q
theorem r150_1331 : sw_A 150 1331 ls st H Q = (sw_A 150 1349 ls st H Q) := sw_A_step (cc := cL_law) rfl dL_law_1331 rfl ls st H Q
theorem r150_1334 : sw_A 150 1334 ls st H Q = (sw_A 150 1337 ls (.int (Int32.ofInt 300) :: st) H Q) := sw_A_step (cc := cL_law) rfl dL_law_1334 rfl ls st H Q
theorem r150_1337 : sw_A 150 1337 ls st H Q = (sw_ldi False ls 18 fun x => sw_A 150 1339 ls (.int x :: st) H Q) := sw_A_step (cc := cL_law) rfl dL_law_1337 rfl ls st H Q
theorem r150_1339 : sw_A 150 1339 ls st H Q = (sw_A 150 1341 ls (.int (Int32.ofInt 9) :: st) H Q) := sw_A_step (cc := cL_law) rfl dL_law_1339 rfl ls st H Q
theorem r150_1341 : sw_A 150 1341 ls st H Q = (sw_i2 False st fun x y r => sw_A 150 1342 ls (.int (x >>> (y &&& 31)) :: r) H Q) := sw_A_step (cc := cL_law) rfl dL_law_1341 rfl ls st H Q
theorem r150_1342 : sw_A 150 1342 ls st H Q = (sw_A 150 1345 ls (.int (Int32.ofInt 600) :: st) H Q) := sw_A_step (cc := cL_law) rfl dL_law_1342 rfl ls st H Q
theorem r150_1345 : sw_A 150 1345 ls st H Q = (sw_pop False 2 st [] fun args r => sw_ck False r (sw_M 16 args H (sw_K 150 1348 none ls r Q))) := sw_A_step (cc := cL_law) rfl dL_law_1345 rfl ls st H Q
theorem r150_1348 : sw_A 150 1348 ls st H Q = (sw_i2 False st fun x y r => sw_A 150 1349 ls (.int (x + y) :: r) H Q) := sw_A_step (cc := cL_law) rfl dL_law_1348 rfl ls st H Q
theorem r150_1349 : sw_A 150 1349 ls st H Q = (sw_has1 False ls 21 (sw_i1 False st fun x r => sw_A 150 1351 (sw_set1 ls 21 (.int x)) r H Q)) := sw_A_step (cc := cL_law) rfl dL_law_1349 rfl ls st H Q
theorem r150_1351 : sw_A 150 1351 ls st H Q = (sw_lda False ls 1 fun x => sw_A 150 1352 ls (.ref x :: st) H Q) := sw_A_step (cc := cL_law) rfl dL_law_1351 rfl ls st H Q
theorem r150_1352 : sw_A 150 1352 ls st H Q = (sw_lda False ls 2 fun x => sw_A 150 1353 ls (.ref x :: st) H Q) := sw_A_step (cc := cL_law) rfl dL_law_1352 rfl ls st H Q
theorem r150_1353 : sw_A 150 1353 ls st H Q = (sw_lda False ls 3 fun x => sw_A 150 1354 ls (.ref x :: st) H Q) := sw_A_step (cc := cL_law) rfl dL_law_1353 rfl ls st H Q
theorem r150_1354 : sw_A 150 1354 ls st H Q = (sw_ldl False ls 7 fun x => sw_A 150 1356 ls (.long x :: st) H Q) := sw_A_step (cc := cL_law) rfl dL_law_1354 rfl ls st H Q
theorem r150_1356 : sw_A 150 1356 ls st H Q = (sw_ldi False ls 16 fun x => sw_A 150 1358 ls (.int x :: st) H Q) := sw_A_step (cc := cL_law) rfl dL_law_1356 rfl ls st H Q
theorem r150_1358 : sw_A 150 1358 ls st H Q = (sw_A 150 1359 ls (.int (Int32.ofInt 3) :: st) H Q) := sw_A_step (cc := cL_law) rfl dL_law_1358 rfl ls st H Q
theorem r150_1359 : sw_A 150 1359 ls st H Q = (sw_i2 False st fun x y r => if y = 0 then False else sw_A 150 1360 ls (.int (x - x / y * y) :: r) H Q) := sw_A_step (cc := cL_law) rfl dL_law_1359 rfl ls st H Q
theorem r150_1360 : sw_A 150 1360 ls st H Q = (sw_ldi False ls 21 fun x => sw_A 150 1362 ls (.int x :: st) H Q) := sw_A_step (cc := cL_law) rfl dL_law_1360 rfl ls st H Q
theorem r150_1362 : sw_A 150 1362 ls st H Q = (sw_ldi False ls 17 fun x => sw_A 150 1364 ls (.int x :: st) H Q) := sw_A_step (cc := cL_law) rfl dL_law_1362 rfl ls st H Q
theorem r150_1364 : sw_A 150 1364 ls st H Q = (sw_pop False 7 st [] fun args r => sw_ck False r (sw_M 130 args H (sw_K 150 1367 none ls r Q))) := sw_A_step (cc := cL_law) rfl dL_law_1364 rfl ls st H Q
theorem r150_1367 : sw_A 150 1367 ls st H Q = (sw_i1 False st fun x r => if ¬ x = 0 then sw_A 150 1372 ls r H Q else sw_A 150 1370 ls r H Q) := sw_A_step (cc := cL_law) rfl dL_law_1367 rfl ls st H Q
theorem r150_1370 : sw_A 150 1370 ls st H Q = (sw_A 150 1371 ls (.int (Int32.ofInt 0) :: st) H Q) := sw_A_step (cc := cL_law) rfl dL_law_1370 rfl ls st H Q
theorem r150_1371 : sw_A 150 1371 ls st H Q = (match st with | [.int x] => (if 2 = 1 ∨ 2 = 2 ∧ (x = 0 ∨ x = 1) then Q (some (some (.int x))) H else False) | _ => False) := sw_A_step (cc := cL_law) rfl dL_law_1371 rfl ls st H Q
theorem r150_1372 : sw_A 150 1372 ls st H Q = (sw_ldi False ls 16 fun x => sw_A 150 1374 ls (.int x :: st) H Q) := sw_A_step (cc := cL_law) rfl dL_law_1372 rfl ls st H Q
theorem r150_1374 : sw_A 150 1374 ls st H Q = (sw_A 150 1375 ls (.int (Int32.ofInt 5) :: st) H Q) := sw_A_step (cc := cL_law) rfl dL_law_1374 rfl ls st H Q
theorem r150_1375 : sw_A 150 1375 ls st H Q = (sw_i2 False st fun x y r => if y = 0 then False else sw_A 150 1376 ls (.int (x - x / y * y) :: r) H Q) := sw_A_step (cc := cL_law) rfl dL_law_1375 rfl ls st H Q
theorem r150_1376 : sw_A 150 1376 ls st H Q = (sw_A 150 1377 ls (.int (Int32.ofInt 4) :: st) H Q) := sw_A_step (cc := cL_law) rfl dL_law_1376 rfl ls st H Q
theorem r150_1377 : sw_A 150 1377 ls st H Q = (sw_i2 False st fun x y r => if ¬ x = y then sw_A 150 1398 ls r H Q else sw_A 150 1380 ls r H Q) := sw_A_step (cc := cL_law) rfl dL_law_1377 rfl ls st H Q
theorem r150_1380 : sw_A 150 1380 ls st H Q = (sw_lda False ls 1 fun x => sw_A 150 1381 ls (.ref x :: st) H Q) := sw_A_step (cc := cL_law) rfl dL_law_1380 rfl ls st H Q
theorem r150_1381 : sw_A 150 1381 ls st H Q = (sw_lda False ls 2 fun x => sw_A 150 1382 ls (.ref x :: st) H Q) := sw_A_step (cc := cL_law) rfl dL_law_1381 rfl ls st H Q
theorem r150_1382 : sw_A 150 1382 ls st H Q = (sw_ldl False ls 7 fun x => sw_A 150 1384 ls (.long x :: st) H Q) := sw_A_step (cc := cL_law) rfl dL_law_1382 rfl ls st H Q
theorem r150_1384 : sw_A 150 1384 ls st H Q = (sw_ldi False ls 17 fun x => sw_A 150 1386 ls (.int x :: st) H Q) := sw_A_step (cc := cL_law) rfl dL_law_1384 rfl ls st H Q
theorem r150_1386 : sw_A 150 1386 ls st H Q = (sw_A 150 1387 ls (.int (Int32.ofInt 3) :: st) H Q) := sw_A_step (cc := cL_law) rfl dL_law_1386 rfl ls st H Q
theorem r150_1387 : sw_A 150 1387 ls st H Q = (sw_i2 False st fun x y r => sw_A 150 1388 ls (.int (x >>> (y &&& 31)) :: r) H Q) := sw_A_step (cc := cL_law) rfl dL_law_1387 rfl ls st H Q
theorem r150_1388 : sw_A 150 1388 ls st H Q = (sw_ldi False ls 18 fun x => sw_A 150 1390 ls (.int x :: st) H Q) := sw_A_step (cc := cL_law) rfl dL_law_1388 rfl ls st H Q
theorem r150_1390 : sw_A 150 1390 ls st H Q = (sw_pop False 5 st [] fun args r => sw_ck False r (sw_M 145 args H (sw_K 150 1393 none ls r Q))) := sw_A_step (cc := cL_law) rfl dL_law_1390 rfl ls st H Q
theorem r150_1393 : sw_A 150 1393 ls st H Q = (sw_i1 False st fun x r => if ¬ x = 0 then sw_A 150 1398 ls r H Q else sw_A 150 1396 ls r H Q) := sw_A_step (cc := cL_law) rfl dL_law_1393 rfl ls st H Q
theorem r150_1396 : sw_A 150 1396 ls st H Q = (sw_A 150 1397 ls (.int (Int32.ofInt 0) :: st) H Q) := sw_A_step (cc := cL_law) rfl dL_law_1396 rfl ls st H Q
theorem r150_1397 : sw_A 150 1397 ls st H Q = (match st with | [.int x] => (if 2 = 1 ∨ 2 = 2 ∧ (x = 0 ∨ x = 1) then Q (some (some (.int x))) H else False) | _ => False) := sw_A_step (cc := cL_law) rfl dL_law_1397 rfl ls st H Q
theorem r150_1398 : sw_A 150 1398 ls st H Q = (sw_ldl False ls 13 fun x => sw_A 150 1400 ls (.long x :: st) H Q) := sw_A_step (cc := cL_law) rfl dL_law_1398 rfl ls st H Q
theorem r150_1400 : sw_A 150 1400 ls st H Q = (sw_A 150 1403 ls (.long (Int64.ofInt (-1)) :: st) H Q) := sw_A_step (cc := cL_law) rfl dL_law_1400 rfl ls st H Q
theorem r150_1403 : sw_A 150 1403 ls st H Q = (sw_l2 False st fun x y r => sw_A 150 1404 ls (.long (x ^^^ y) :: r) H Q) := sw_A_step (cc := cL_law) rfl dL_law_1403 rfl ls st H Q
theorem r150_1404 : sw_A 150 1404 ls st H Q = (sw_ldl False ls 7 fun x => sw_A 150 1406 ls (.long x :: st) H Q) := sw_A_step (cc := cL_law) rfl dL_law_1404 rfl ls st H Q
theorem r150_1406 : sw_A 150 1406 ls st H Q = (sw_A 150 1409 ls (.long (Int64.ofInt (-1)) :: st) H Q) := sw_A_step (cc := cL_law) rfl dL_law_1406 rfl ls st H Q
theorem r150_1409 : sw_A 150 1409 ls st H Q = (sw_l2 False st fun x y r => sw_A 150 1410 ls (.long (x ^^^ y) :: r) H Q) := sw_A_step (cc := cL_law) rfl dL_law_1409 rfl ls st H Q
theorem r150_1410 : sw_A 150 1410 ls st H Q = (sw_l2 False st fun x y r => sw_A 150 1411 ls (.long (x &&& y) :: r) H Q) := sw_A_step (cc := cL_law) rfl dL_law_1410 rfl ls st H Q
theorem r150_1411 : sw_A 150 1411 ls st H Q = (sw_A 150 1414 ls (.long (Int64.ofInt 68719476735) :: st) H Q) := sw_A_step (cc := cL_law) rfl dL_law_1411 rfl ls st H Q
theorem r150_1414 : sw_A 150 1414 ls st H Q = (sw_l2 False st fun x y r => sw_A 150 1415 ls (.long (x &&& y) :: r) H Q) := sw_A_step (cc := cL_law) rfl dL_law_1414 rfl ls st H Q
theorem r150_1415 : sw_A 150 1415 ls st H Q = (sw_has1 False ls 23 (sw_l1 False st fun x r => sw_A 150 1417 (sw_set2 ls 22 (.long x)) r H Q)) := sw_A_step (cc := cL_law) rfl dL_law_1415 rfl ls st H Q
theorem r150_1417 : sw_A 150 1417 ls st H Q = (sw_lda False ls 1 fun x => sw_A 150 1418 ls (.ref x :: st) H Q) := sw_A_step (cc := cL_law) rfl dL_law_1417 rfl ls st H Q
theorem r150_1418 : sw_A 150 1418 ls st H Q = (sw_A 150 1419 ls (.int (Int32.ofInt 1) :: st) H Q) := sw_A_step (cc := cL_law) rfl dL_law_1418 rfl ls st H Q
theorem r150_1419 : sw_A 150 1419 ls st H Q = (sw_pop False 2 st [] fun args r => sw_ck False r (sw_rc False H (some 11) args (sw_M 147 args H (sw_K 150 1422 none ls r Q)))) := sw_A_step (cc := cL_law) rfl dL_law_1419 rfl ls st H Q
theorem r150_1422 : sw_A 150 1422 ls st H Q = (sw_ldl False ls 13 fun x => sw_A 150 1424 ls (.long x :: st) H Q) := sw_A_step (cc := cL_law) rfl dL_law_1422 rfl ls st H Q
theorem r150_1424 : sw_A 150 1424 ls st H Q = (sw_ldl False ls 13 fun x => sw_A 150 1426 ls (.long x :: st) H Q) := sw_A_step (cc := cL_law) rfl dL_law_1424 rfl ls st H Q
theorem r150_1426 : sw_A 150 1426 ls st H Q = (sw_A 150 1427 ls (.int (Int32.ofInt 0) :: st) H Q) := sw_A_step (cc := cL_law) rfl dL_law_1426 rfl ls st H Q
theorem r150_1427 : sw_A 150 1427 ls st H Q = (sw_pop False 1 st [] fun args r => sw_ck False r (sw_M 69 args H (sw_K 150 1430 none ls r Q))) := sw_A_step (cc := cL_law) rfl dL_law_1427 rfl ls st H Q
theorem r150_1430 : sw_A 150 1430 ls st H Q = (sw_pop False 2 st [] fun args r => sw_ck False r (sw_M 48 args H (sw_K 150 1433 none ls r Q))) := sw_A_step (cc := cL_law) rfl dL_law_1430 rfl ls st H Q
theorem r150_1433 : sw_A 150 1433 ls st H Q = (sw_A 150 1436 ls (.long (Int64.ofInt (-1)) :: st) H Q) := sw_A_step (cc := cL_law) rfl dL_law_1433 rfl ls st H Q
theorem r150_1436 : sw_A 150 1436 ls st H Q = (sw_l2 False st fun x y r => sw_A 150 1437 ls (.long (x ^^^ y) :: r) H Q) := sw_A_step (cc := cL_law) rfl dL_law_1436 rfl ls st H Q
theorem r150_1437 : sw_A 150 1437 ls st H Q = (sw_l2 False st fun x y r => sw_A 150 1438 ls (.long (x &&& y) :: r) H Q) := sw_A_step (cc := cL_law) rfl dL_law_1437 rfl ls st H Q
theorem r150_1438 : sw_A 150 1438 ls st H Q = (sw_pop False 1 st [] fun args r => sw_ck False r (sw_M 37 args H (sw_K 150 1441 none ls r Q))) := sw_A_step (cc := cL_law) rfl dL_law_1438 rfl ls st H Q
theorem r150_1441 : sw_A 150 1441 ls st H Q = (sw_i2 False st fun x y r => if ¬ x = y then sw_A 150 1471 ls r H Q else sw_A 150 1444 ls r H Q) := sw_A_step (cc := cL_law) rfl dL_law_1441 rfl ls st H Q
theorem r150_1444 : sw_A 150 1444 ls st H Q = (sw_lda False ls 1 fun x => sw_A 150 1445 ls (.ref x :: st) H Q) := sw_A_step (cc := cL_law) rfl dL_law_1444 rfl ls st H Q
theorem r150_1445 : sw_A 150 1445 ls st H Q = (sw_A 150 1446 ls (.int (Int32.ofInt 0) :: st) H Q) := sw_A_step (cc := cL_law) rfl dL_law_1445 rfl ls st H Q
theorem r150_1446 : sw_A 150 1446 ls st H Q = (sw_pop False 2 st [] fun args r => sw_ck False r (sw_rc False H (some 11) args (sw_M 147 args H (sw_K 150 1449 none ls r Q)))) := sw_A_step (cc := cL_law) rfl dL_law_1446 rfl ls st H Q
theorem r150_1449 : sw_A 150 1449 ls st H Q = (sw_ldl False ls 22 fun x => sw_A 150 1451 ls (.long x :: st) H Q) := sw_A_step (cc := cL_law) rfl dL_law_1449 rfl ls st H Q
theorem r150_1451 : sw_A 150 1451 ls st H Q = (sw_ldl False ls 22 fun x => sw_A 150 1453 ls (.long x :: st) H Q) := sw_A_step (cc := cL_law) rfl dL_law_1451 rfl ls st H Q
theorem r150_1453 : sw_A 150 1453 ls st H Q = (sw_A 150 1454 ls (.int (Int32.ofInt 1) :: st) H Q) := sw_A_step (cc := cL_law) rfl dL_law_1453 rfl ls st H Q
theorem r150_1454 : sw_A 150 1454 ls st H Q = (sw_pop False 1 st [] fun args r => sw_ck False r (sw_M 69 args H (sw_K 150 1457 none ls r Q))) := sw_A_step (cc := cL_law) rfl dL_law_1454 rfl ls st H Q
theorem r150_1457 : sw_A 150 1457 ls st H Q = (sw_pop False 2 st [] fun args r => sw_ck False r (sw_M 48 args H (sw_K 150 1460 none ls r Q))) := sw_A_step (cc := cL_law) rfl dL_law_1457 rfl ls st H Q
theorem r150_1460 : sw_A 150 1460 ls st H Q = (sw_A 150 1463 ls (.long (Int64.ofInt (-1)) :: st) H Q) := sw_A_step (cc := cL_law) rfl dL_law_1460 rfl ls st H Q
theorem r150_1463 : sw_A 150 1463 ls st H Q = (sw_l2 False st fun x y r => sw_A 150 1464 ls (.long (x ^^^ y) :: r) H Q) := sw_A_step (cc := cL_law) rfl dL_law_1463 rfl ls st H Q
theorem r150_1464 : sw_A 150 1464 ls st H Q = (sw_l2 False st fun x y r => sw_A 150 1465 ls (.long (x &&& y) :: r) H Q) := sw_A_step (cc := cL_law) rfl dL_law_1464 rfl ls st H Q
theorem r150_1465 : sw_A 150 1465 ls st H Q = (sw_pop False 1 st [] fun args r => sw_ck False r (sw_M 37 args H (sw_K 150 1468 none ls r Q))) := sw_A_step (cc := cL_law) rfl dL_law_1465 rfl ls st H Q
theorem r150_1468 : sw_A 150 1468 ls st H Q = (sw_i2 False st fun x y r => if x = y then sw_A 150 1473 ls r H Q else sw_A 150 1471 ls r H Q) := sw_A_step (cc := cL_law) rfl dL_law_1468 rfl ls st H Q
theorem r150_1471 : sw_A 150 1471 ls st H Q = (sw_A 150 1472 ls (.int (Int32.ofInt 0) :: st) H Q) := sw_A_step (cc := cL_law) rfl dL_law_1471 rfl ls st H Q
theorem r150_1472 : sw_A 150 1472 ls st H Q = (match st with | [.int x] => (if 2 = 1 ∨ 2 = 2 ∧ (x = 0 ∨ x = 1) then Q (some (some (.int x))) H else False) | _ => False) := sw_A_step (cc := cL_law) rfl dL_law_1472 rfl ls st H Q
theorem r150_1473 : sw_A 150 1473 ls st H Q = (sw_lda False ls 1 fun x => sw_A 150 1474 ls (.ref x :: st) H Q) := sw_A_step (cc := cL_law) rfl dL_law_1473 rfl ls st H Q
theorem r150_1474 : sw_A 150 1474 ls st H Q = (sw_A 150 1475 ls (.int (Int32.ofInt 0) :: st) H Q) := sw_A_step (cc := cL_law) rfl dL_law_1474 rfl ls st H Q
theorem r150_1475 : sw_A 150 1475 ls st H Q = (sw_pop False 2 st [] fun args r => sw_ck False r (sw_rc False H (some 11) args (sw_M 148 args H (sw_K 150 1478 none ls r Q)))) := sw_A_step (cc := cL_law) rfl dL_law_1475 rfl ls st H Q
theorem r150_1478 : sw_A 150 1478 ls st H Q = (sw_ldl False ls 7 fun x => sw_A 150 1480 ls (.long x :: st) H Q) := sw_A_step (cc := cL_law) rfl dL_law_1478 rfl ls st H Q
theorem r150_1480 : sw_A 150 1480 ls st H Q = (sw_pop False 1 st [] fun args r => sw_ck False r (sw_M 37 args H (sw_K 150 1483 none ls r Q))) := sw_A_step (cc := cL_law) rfl dL_law_1480 rfl ls st H Q
theorem r150_1483 : sw_A 150 1483 ls st H Q = (sw_i2 False st fun x y r => if ¬ x = y then sw_A 150 1525 ls r H Q else sw_A 150 1486 ls r H Q) := sw_A_step (cc := cL_law) rfl dL_law_1483 rfl ls st H Q
theorem r150_1486 : sw_A 150 1486 ls st H Q = (sw_lda False ls 1 fun x => sw_A 150 1487 ls (.ref x :: st) H Q) := sw_A_step (cc := cL_law) rfl dL_law_1486 rfl ls st H Q
theorem r150_1487 : sw_A 150 1487 ls st H Q = (sw_A 150 1488 ls (.int (Int32.ofInt 1) :: st) H Q) := sw_A_step (cc := cL_law) rfl dL_law_1487 rfl ls st H Q
theorem r150_1488 : sw_A 150 1488 ls st H Q = (sw_pop False 2 st [] fun args r => sw_ck False r (sw_rc False H (some 11) args (sw_M 148 args H (sw_K 150 1491 none ls r Q)))) := sw_A_step (cc := cL_law) rfl dL_law_1488 rfl ls st H Q
theorem r150_1491 : sw_A 150 1491 ls st H Q = (sw_ldl False ls 11 fun x => sw_A 150 1493 ls (.long x :: st) H Q) := sw_A_step (cc := cL_law) rfl dL_law_1491 rfl ls st H Q
theorem r150_1493 : sw_A 150 1493 ls st H Q = (sw_pop False 1 st [] fun args r => sw_ck False r (sw_M 37 args H (sw_K 150 1496 none ls r Q))) := sw_A_step (cc := cL_law) rfl dL_law_1493 rfl ls st H Q
theorem r150_1496 : sw_A 150 1496 ls st H Q = (sw_i2 False st fun x y r => if ¬ x = y then sw_A 150 1525 ls r H Q else sw_A 150 1499 ls r H Q) := sw_A_step (cc := cL_law) rfl dL_law_1496 rfl ls st H Q
theorem r150_1499 : sw_A 150 1499 ls st H Q = (sw_lda False ls 1 fun x => sw_A 150 1500 ls (.ref x :: st) H Q) := sw_A_step (cc := cL_law) rfl dL_law_1499 rfl ls st H Q
theorem r150_1500 : sw_A 150 1500 ls st H Q = (sw_A 150 1501 ls (.int (Int32.ofInt 2) :: st) H Q) := sw_A_step (cc := cL_law) rfl dL_law_1500 rfl ls st H Q
theorem r150_1501 : sw_A 150 1501 ls st H Q = (sw_pop False 2 st [] fun args r => sw_ck False r (sw_rc False H (some 11) args (sw_M 148 args H (sw_K 150 1504 none ls r Q)))) := sw_A_step (cc := cL_law) rfl dL_law_1501 rfl ls st H Q
theorem r150_1504 : sw_A 150 1504 ls st H Q = (sw_ldl False ls 9 fun x => sw_A 150 1506 ls (.long x :: st) H Q) := sw_A_step (cc := cL_law) rfl dL_law_1504 rfl ls st H Q
theorem r150_1506 : sw_A 150 1506 ls st H Q = (sw_pop False 1 st [] fun args r => sw_ck False r (sw_M 37 args H (sw_K 150 1509 none ls r Q))) := sw_A_step (cc := cL_law) rfl dL_law_1506 rfl ls st H Q
theorem r150_1509 : sw_A 150 1509 ls st H Q = (sw_i2 False st fun x y r => if ¬ x = y then sw_A 150 1525 ls r H Q else sw_A 150 1512 ls r H Q) := sw_A_step (cc := cL_law) rfl dL_law_1509 rfl ls st H Q
theorem r150_1512 : sw_A 150 1512 ls st H Q = (sw_lda False ls 1 fun x => sw_A 150 1513 ls (.ref x :: st) H Q) := sw_A_step (cc := cL_law) rfl dL_law_1512 rfl ls st H Q
theorem r150_1513 : sw_A 150 1513 ls st H Q = (sw_A 150 1514 ls (.int (Int32.ofInt 3) :: st) H Q) := sw_A_step (cc := cL_law) rfl dL_law_1513 rfl ls st H Q
theorem r150_1514 : sw_A 150 1514 ls st H Q = (sw_pop False 2 st [] fun args r => sw_ck False r (sw_rc False H (some 11) args (sw_M 148 args H (sw_K 150 1517 none ls r Q)))) := sw_A_step (cc := cL_law) rfl dL_law_1514 rfl ls st H Q
theorem r150_1517 : sw_A 150 1517 ls st H Q = (sw_ldl False ls 13 fun x => sw_A 150 1519 ls (.long x :: st) H Q) := sw_A_step (cc := cL_law) rfl dL_law_1517 rfl ls st H Q
theorem r150_1519 : sw_A 150 1519 ls st H Q = (sw_pop False 1 st [] fun args r => sw_ck False r (sw_M 37 args H (sw_K 150 1522 none ls r Q))) := sw_A_step (cc := cL_law) rfl dL_law_1519 rfl ls st H Q
theorem r150_1522 : sw_A 150 1522 ls st H Q = (sw_i2 False st fun x y r => if x = y then sw_A 150 1527 ls r H Q else sw_A 150 1525 ls r H Q) := sw_A_step (cc := cL_law) rfl dL_law_1522 rfl ls st H Q
theorem r150_1525 : sw_A 150 1525 ls st H Q = (sw_A 150 1526 ls (.int (Int32.ofInt 0) :: st) H Q) := sw_A_step (cc := cL_law) rfl dL_law_1525 rfl ls st H Q
theorem r150_1526 : sw_A 150 1526 ls st H Q = (match st with | [.int x] => (if 2 = 1 ∨ 2 = 2 ∧ (x = 0 ∨ x = 1) then Q (some (some (.int x))) H else False) | _ => False) := sw_A_step (cc := cL_law) rfl dL_law_1526 rfl ls st H Q
theorem r150_1527 : sw_A 150 1527 ls st H Q = (sw_ldi False ls 17 fun x => sw_A 150 1529 ls (.int x :: st) H Q) := sw_A_step (cc := cL_law) rfl dL_law_1527 rfl ls st H Q
theorem r150_1529 : sw_A 150 1529 ls st H Q = (sw_A 150 1531 ls (.int (Int32.ofInt 11) :: st) H Q) := sw_A_step (cc := cL_law) rfl dL_law_1529 rfl ls st H Q
theorem r150_1531 : sw_A 150 1531 ls st H Q = (sw_i2 False st fun x y r => sw_A 150 1532 ls (.int (x >>> (y &&& 31)) :: r) H Q) := sw_A_step (cc := cL_law) rfl dL_law_1531 rfl ls st H Q
theorem r150_1532 : sw_A 150 1532 ls st H Q = (sw_A 150 1534 ls (.int (Int32.ofInt 60) :: st) H Q) := sw_A_step (cc := cL_law) rfl dL_law_1532 rfl ls st H Q
theorem r150_1534 : sw_A 150 1534 ls st H Q = (sw_pop False 2 st [] fun args r => sw_ck False r (sw_M 16 args H (sw_K 150 1537 none ls r Q))) := sw_A_step (cc := cL_law) rfl dL_law_1534 rfl ls st H Q
theorem r150_1537 : sw_A 150 1537 ls st H Q = (sw_has1 False ls 24 (sw_i1 False st fun x r => sw_A 150 1539 (sw_set1 ls 24 (.int x)) r H Q)) := sw_A_step (cc := cL_law) rfl dL_law_1537 rfl ls st H Q
theorem r150_1539 : sw_A 150 1539 ls st H Q = (sw_lda False ls 3 fun x => sw_A 150 1540 ls (.ref x :: st) H Q) := sw_A_step (cc := cL_law) rfl dL_law_1539 rfl ls st H Q
theorem r150_1540 : sw_A 150 1540 ls st H Q = (sw_ldi False ls 24 fun x => sw_A 150 1542 ls (.int x :: st) H Q) := sw_A_step (cc := cL_law) rfl dL_law_1540 rfl ls st H Q
theorem r150_1542 : sw_A 150 1542 ls st H Q = (sw_pop False 1 st [] fun args r => sw_ck False r (sw_M 79 args H (sw_K 150 1545 none ls r Q))) := sw_A_step (cc := cL_law) rfl dL_law_1542 rfl ls st H Q
theorem r150_1545 : sw_A 150 1545 ls st H Q = (sw_ri False st fun a i r => sw_ald False H 0 a i fun x => sw_A 150 1546 ls (.int x :: r) H Q) := sw_A_step (cc := cL_law) rfl dL_law_1545 rfl ls st H Q
theorem r150_1546 : sw_A 150 1546 ls st H Q = (sw_lda False ls 3 fun x => sw_A 150 1547 ls (.ref x :: st) H Q) := sw_A_step (cc := cL_law) rfl dL_law_1546 rfl ls st H Q
theorem r150_1547 : sw_A 150 1547 ls st H Q = (sw_ldi False ls 24 fun x => sw_A 150 1549 ls (.int x :: st) H Q) := sw_A_step (cc := cL_law) rfl dL_law_1547 rfl ls st H Q
theorem r150_1549 : sw_A 150 1549 ls st H Q = (sw_pop False 1 st [] fun args r => sw_ck False r (sw_M 80 args H (sw_K 150 1552 none ls r Q))) := sw_A_step (cc := cL_law) rfl dL_law_1549 rfl ls st H Q
theorem r150_1552 : sw_A 150 1552 ls st H Q = (sw_ri False st fun a i r => sw_ald False H 0 a i fun x => sw_A 150 1553 ls (.int x :: r) H Q) := sw_A_step (cc := cL_law) rfl dL_law_1552 rfl ls st H Q
theorem r150_1553 : sw_A 150 1553 ls st H Q = (sw_i2 False st fun x y r => if x ≤ y then sw_A 150 1566 ls r H Q else sw_A 150 1556 ls r H Q) := sw_A_step (cc := cL_law) rfl dL_law_1553 rfl ls st H Q
theorem r150_1556 : sw_A 150 1556 ls st H Q = (sw_lda False ls 3 fun x => sw_A 150 1557 ls (.ref x :: st) H Q) := sw_A_step (cc := cL_law) rfl dL_law_1556 rfl ls st H Q
theorem r150_1557 : sw_A 150 1557 ls st H Q = (sw_ldi False ls 24 fun x => sw_A 150 1559 ls (.int x :: st) H Q) := sw_A_step (cc := cL_law) rfl dL_law_1557 rfl ls st H Q
theorem r150_1559 : sw_A 150 1559 ls st H Q = (sw_pop False 1 st [] fun args r => sw_ck False r (sw_M 79 args H (sw_K 150 1562 none ls r Q))) := sw_A_step (cc := cL_law) rfl dL_law_1559 rfl ls st H Q
theorem r150_1562 : sw_A 150 1562 ls st H Q = (sw_ri False st fun a i r => sw_ald False H 0 a i fun x => sw_A 150 1563 ls (.int x :: r) H Q) := sw_A_step (cc := cL_law) rfl dL_law_1562 rfl ls st H Q
theorem r150_1563 : sw_A 150 1563 ls st H Q = (sw_A 150 1573 ls st H Q) := sw_A_step (cc := cL_law) rfl dL_law_1563 rfl ls st H Q
theorem r150_1566 : sw_A 150 1566 ls st H Q = (sw_lda False ls 3 fun x => sw_A 150 1567 ls (.ref x :: st) H Q) := sw_A_step (cc := cL_law) rfl dL_law_1566 rfl ls st H Q
theorem r150_1567 : sw_A 150 1567 ls st H Q = (sw_ldi False ls 24 fun x => sw_A 150 1569 ls (.int x :: st) H Q) := sw_A_step (cc := cL_law) rfl dL_law_1567 rfl ls st H Q
theorem r150_1569 : sw_A 150 1569 ls st H Q = (sw_pop False 1 st [] fun args r => sw_ck False r (sw_M 80 args H (sw_K 150 1572 none ls r Q))) := sw_A_step (cc := cL_law) rfl dL_law_1569 rfl ls st H Q
theorem r150_1572 : sw_A 150 1572 ls st H Q = (sw_ri False st fun a i r => sw_ald False H 0 a i fun x => sw_A 150 1573 ls (.int x :: r) H Q) := sw_A_step (cc := cL_law) rfl dL_law_1572 rfl ls st H Q
theorem r150_1573 : sw_A 150 1573 ls st H Q = (sw_has1 False ls 25 (sw_i1 False st fun x r => sw_A 150 1575 (sw_set1 ls 25 (.int x)) r H Q)) := sw_A_step (cc := cL_law) rfl dL_law_1573 rfl ls st H Q
theorem r150_1575 : sw_A 150 1575 ls st H Q = (sw_lda False ls 1 fun x => sw_A 150 1576 ls (.ref x :: st) H Q) := sw_A_step (cc := cL_law) rfl dL_law_1575 rfl ls st H Q
theorem r150_1576 : sw_A 150 1576 ls st H Q = (sw_A 150 1577 ls (.int (Int32.ofInt 0) :: st) H Q) := sw_A_step (cc := cL_law) rfl dL_law_1576 rfl ls st H Q
theorem r150_1577 : sw_A 150 1577 ls st H Q = (sw_ldi False ls 24 fun x => sw_A 150 1579 ls (.int x :: st) H Q) := sw_A_step (cc := cL_law) rfl dL_law_1577 rfl ls st H Q
theorem r150_1579 : sw_A 150 1579 ls st H Q = (sw_pop False 3 st [] fun args r => sw_ck False r (sw_rc False H (some 11) args (sw_M 149 args H (sw_K 150 1582 none ls r Q)))) := sw_A_step (cc := cL_law) rfl dL_law_1579 rfl ls st H Q
theorem r150_1582 : sw_A 150 1582 ls st H Q = (sw_lda False ls 2 fun x => sw_A 150 1583 ls (.ref x :: st) H Q) := sw_A_step (cc := cL_law) rfl dL_law_1582 rfl ls st H Q
theorem r150_1583 : sw_A 150 1583 ls st H Q = (sw_ldi False ls 24 fun x => sw_A 150 1585 ls (.int x :: st) H Q) := sw_A_step (cc := cL_law) rfl dL_law_1583 rfl ls st H Q
theorem r150_1585 : sw_A 150 1585 ls st H Q = (sw_ri False st fun a i r => sw_ald False H 0 a i fun x => sw_A 150 1586 ls (.int x :: r) H Q) := sw_A_step (cc := cL_law) rfl dL_law_1585 rfl ls st H Q
theorem r150_1586 : sw_A 150 1586 ls st H Q = (sw_i2 False st fun x y r => if ¬ x = y then sw_A 150 1629 ls r H Q else sw_A 150 1589 ls r H Q) := sw_A_step (cc := cL_law) rfl dL_law_1586 rfl ls st H Q
theorem r150_1589 : sw_A 150 1589 ls st H Q = (sw_lda False ls 1 fun x => sw_A 150 1590 ls (.ref x :: st) H Q) := sw_A_step (cc := cL_law) rfl dL_law_1589 rfl ls st H Q
theorem r150_1590 : sw_A 150 1590 ls st H Q = (sw_A 150 1591 ls (.int (Int32.ofInt 1) :: st) H Q) := sw_A_step (cc := cL_law) rfl dL_law_1590 rfl ls st H Q
theorem r150_1591 : sw_A 150 1591 ls st H Q = (sw_ldi False ls 24 fun x => sw_A 150 1593 ls (.int x :: st) H Q) := sw_A_step (cc := cL_law) rfl dL_law_1591 rfl ls st H Q
theorem r150_1593 : sw_A 150 1593 ls st H Q = (sw_pop False 3 st [] fun args r => sw_ck False r (sw_rc False H (some 11) args (sw_M 149 args H (sw_K 150 1596 none ls r Q)))) := sw_A_step (cc := cL_law) rfl dL_law_1593 rfl ls st H Q
theorem r150_1596 : sw_A 150 1596 ls st H Q = (sw_ldi False ls 25 fun x => sw_A 150 1598 ls (.int x :: st) H Q) := sw_A_step (cc := cL_law) rfl dL_law_1596 rfl ls st H Q
theorem r150_1598 : sw_A 150 1598 ls st H Q = (sw_i2 False st fun x y r => if ¬ x = y then sw_A 150 1629 ls r H Q else sw_A 150 1601 ls r H Q) := sw_A_step (cc := cL_law) rfl dL_law_1598 rfl ls st H Q
theorem r150_1601 : sw_A 150 1601 ls st H Q = (sw_lda False ls 1 fun x => sw_A 150 1602 ls (.ref x :: st) H Q) := sw_A_step (cc := cL_law) rfl dL_law_1601 rfl ls st H Q
theorem r150_1602 : sw_A 150 1602 ls st H Q = (sw_A 150 1603 ls (.int (Int32.ofInt 2) :: st) H Q) := sw_A_step (cc := cL_law) rfl dL_law_1602 rfl ls st H Q
theorem r150_1603 : sw_A 150 1603 ls st H Q = (sw_ldi False ls 24 fun x => sw_A 150 1605 ls (.int x :: st) H Q) := sw_A_step (cc := cL_law) rfl dL_law_1603 rfl ls st H Q
theorem r150_1605 : sw_A 150 1605 ls st H Q = (sw_pop False 3 st [] fun args r => sw_ck False r (sw_rc False H (some 11) args (sw_M 149 args H (sw_K 150 1608 none ls r Q)))) := sw_A_step (cc := cL_law) rfl dL_law_1605 rfl ls st H Q
theorem r150_1608 : sw_A 150 1608 ls st H Q = (sw_lda False ls 2 fun x => sw_A 150 1609 ls (.ref x :: st) H Q) := sw_A_step (cc := cL_law) rfl dL_law_1608 rfl ls st H Q
theorem r150_1609 : sw_A 150 1609 ls st H Q = (sw_ldi False ls 24 fun x => sw_A 150 1611 ls (.int x :: st) H Q) := sw_A_step (cc := cL_law) rfl dL_law_1609 rfl ls st H Q
theorem r150_1611 : sw_A 150 1611 ls st H Q = (sw_ri False st fun a i r => sw_ald False H 0 a i fun x => sw_A 150 1612 ls (.int x :: r) H Q) := sw_A_step (cc := cL_law) rfl dL_law_1611 rfl ls st H Q
theorem r150_1612 : sw_A 150 1612 ls st H Q = (sw_ldi False ls 25 fun x => sw_A 150 1614 ls (.int x :: st) H Q) := sw_A_step (cc := cL_law) rfl dL_law_1612 rfl ls st H Q
theorem r150_1614 : sw_A 150 1614 ls st H Q = (sw_i2 False st fun x y r => if x ≤ y then sw_A 150 1624 ls r H Q else sw_A 150 1617 ls r H Q) := sw_A_step (cc := cL_law) rfl dL_law_1614 rfl ls st H Q
theorem r150_1617 : sw_A 150 1617 ls st H Q = (sw_lda False ls 2 fun x => sw_A 150 1618 ls (.ref x :: st) H Q) := sw_A_step (cc := cL_law) rfl dL_law_1617 rfl ls st H Q
theorem r150_1618 : sw_A 150 1618 ls st H Q = (sw_ldi False ls 24 fun x => sw_A 150 1620 ls (.int x :: st) H Q) := sw_A_step (cc := cL_law) rfl dL_law_1618 rfl ls st H Q
theorem r150_1620 : sw_A 150 1620 ls st H Q = (sw_ri False st fun a i r => sw_ald False H 0 a i fun x => sw_A 150 1621 ls (.int x :: r) H Q) := sw_A_step (cc := cL_law) rfl dL_law_1620 rfl ls st H Q
theorem r150_1621 : sw_A 150 1621 ls st H Q = (sw_A 150 1626 ls st H Q) := sw_A_step (cc := cL_law) rfl dL_law_1621 rfl ls st H Q
theorem r150_1624 : sw_A 150 1624 ls st H Q = (sw_ldi False ls 25 fun x => sw_A 150 1626 ls (.int x :: st) H Q) := sw_A_step (cc := cL_law) rfl dL_law_1624 rfl ls st H Q
theorem r150_1626 : sw_A 150 1626 ls st H Q = (sw_i2 False st fun x y r => if x = y then sw_A 150 1631 ls r H Q else sw_A 150 1629 ls r H Q) := sw_A_step (cc := cL_law) rfl dL_law_1626 rfl ls st H Q
theorem r150_1629 : sw_A 150 1629 ls st H Q = (sw_A 150 1630 ls (.int (Int32.ofInt 0) :: st) H Q) := sw_A_step (cc := cL_law) rfl dL_law_1629 rfl ls st H Q
theorem r150_1630 : sw_A 150 1630 ls st H Q = (match st with | [.int x] => (if 2 = 1 ∨ 2 = 2 ∧ (x = 0 ∨ x = 1) then Q (some (some (.int x))) H else False) | _ => False) := sw_A_step (cc := cL_law) rfl dL_law_1630 rfl ls st H Q
theorem r150_1631 : sw_A 150 1631 ls st H Q = (sw_ldi False ls 16 fun x => sw_A 150 1634 (sw_set1 ls 16 (.int (x + Int32.ofInt 1))) st H Q) := sw_A_step (cc := cL_law) rfl dL_law_1631 rfl ls st H Q
theorem r150_1634 : sw_A 150 1634 ls st H Q = (sw_A 150 77 ls st H Q) := sw_A_step (cc := cL_law) rfl dL_law_1634 rfl ls st H Q
theorem r150_1637 : sw_A 150 1637 ls st H Q = (sw_A 150 1638 ls (.int (Int32.ofInt 1) :: st) H Q) := sw_A_step (cc := cL_law) rfl dL_law_1637 rfl ls st H Q
theorem r150_1638 : sw_A 150 1638 ls st H Q = (match st with | [.int x] => (if 2 = 1 ∨ 2 = 2 ∧ (x = 0 ∨ x = 1) then Q (some (some (.int x))) H else False) | _ => False) := sw_A_step (cc := cL_law) rfl dL_law_1638 rfl ls st H Q
end sw_R
