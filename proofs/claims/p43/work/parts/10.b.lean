section sw_m2
variable {H : sw_HS} {Q : sw_Ot → sw_HS → Prop}
theorem m23 (b : Int) (h1 : 0 ≤ b) (h2 : b < 60) : sw_M 23 [.int (Int32.ofInt b)] H Q = Q (some none) H := by
  rw [e23]
  simp (disch := omega) only [r23_0, r23_1, r23_4, r23_5, r23_7, r23_21, sw_ldi, sw_ldl, sw_lda, sw_has1, sw_i1, sw_i2, sw_l1, sw_l2, sw_li, sw_r1, sw_ri, sw_rix, sw_rv, sw_pop, sw_set1, sw_set2, List.set_cons_zero, List.set_cons_succ, List.getElem?_cons_zero, List.getElem?_cons_succ, ald_1, ald_2, ast_1, ast_2, aln_1, aln_2, gf_1, gf_2, pf_1, pf_2, nw_1, ck_0, ck_1, ck_2, ck_3, ck_4, rr_1, rc_1, rc_2, K_i, K_l, K_v, I_add, I_sub, I_mul, I_div, I_em, I_eq0, I_lt0, I_0lt, I_le0, I_0le, I_eq, I_lt, I_le, bv_and, bv_and0, bv_and1, bv_eq0, ↓reduceIte, Int.reduceEq, Int.reduceLT, Int.reduceLE, Int.reduceAdd, Int.reduceSub, Int.reduceMul, Int.reduceNeg, Int.reduceToNat, Nat.reduceLT, Nat.reduceEqDiff, List.length_cons, List.length_nil]
  rw [if_neg (by omega), if_pos (by omega)]
theorem m25 (b : Int) (h1 : 0 ≤ b) (h2 : b < 36) : sw_M 25 [.int (Int32.ofInt b)] H Q = Q (some none) H := by
  rw [e25]
  simp (disch := omega) only [r25_0, r25_1, r25_4, r25_5, r25_7, r25_21, sw_ldi, sw_ldl, sw_lda, sw_has1, sw_i1, sw_i2, sw_l1, sw_l2, sw_li, sw_r1, sw_ri, sw_rix, sw_rv, sw_pop, sw_set1, sw_set2, List.set_cons_zero, List.set_cons_succ, List.getElem?_cons_zero, List.getElem?_cons_succ, ald_1, ald_2, ast_1, ast_2, aln_1, aln_2, gf_1, gf_2, pf_1, pf_2, nw_1, ck_0, ck_1, ck_2, ck_3, ck_4, rr_1, rc_1, rc_2, K_i, K_l, K_v, I_add, I_sub, I_mul, I_div, I_em, I_eq0, I_lt0, I_0lt, I_le0, I_0le, I_eq, I_lt, I_le, bv_and, bv_and0, bv_and1, bv_eq0, ↓reduceIte, Int.reduceEq, Int.reduceLT, Int.reduceLE, Int.reduceAdd, Int.reduceSub, Int.reduceMul, Int.reduceNeg, Int.reduceToNat, Nat.reduceLT, Nat.reduceEqDiff, List.length_cons, List.length_nil]
  rw [if_neg (by omega), if_pos (by omega)]
theorem m55 (b : Int) (h1 : 0 ≤ b) (h2 : b < 12) : sw_M 55 [.int (Int32.ofInt b)] H Q = Q (some none) H := by
  rw [e55]
  simp (disch := omega) only [r55_0, r55_1, r55_4, r55_5, r55_7, r55_21, sw_ldi, sw_ldl, sw_lda, sw_has1, sw_i1, sw_i2, sw_l1, sw_l2, sw_li, sw_r1, sw_ri, sw_rix, sw_rv, sw_pop, sw_set1, sw_set2, List.set_cons_zero, List.set_cons_succ, List.getElem?_cons_zero, List.getElem?_cons_succ, ald_1, ald_2, ast_1, ast_2, aln_1, aln_2, gf_1, gf_2, pf_1, pf_2, nw_1, ck_0, ck_1, ck_2, ck_3, ck_4, rr_1, rc_1, rc_2, K_i, K_l, K_v, I_add, I_sub, I_mul, I_div, I_em, I_eq0, I_lt0, I_0lt, I_le0, I_0le, I_eq, I_lt, I_le, bv_and, bv_and0, bv_and1, bv_eq0, ↓reduceIte, Int.reduceEq, Int.reduceLT, Int.reduceLE, Int.reduceAdd, Int.reduceSub, Int.reduceMul, Int.reduceNeg, Int.reduceToNat, Nat.reduceLT, Nat.reduceEqDiff, List.length_cons, List.length_nil]
  rw [if_neg (by omega), if_pos (by omega)]
theorem m84 (b : Int) (h1 : 0 ≤ b) (h2 : b ≤ 2) : sw_M 84 [.int (Int32.ofInt b)] H Q = Q (some none) H := by
  rw [e84]
  simp (disch := omega) only [r84_0, r84_1, r84_4, r84_5, r84_6, r84_20, sw_ldi, sw_ldl, sw_lda, sw_has1, sw_i1, sw_i2, sw_l1, sw_l2, sw_li, sw_r1, sw_ri, sw_rix, sw_rv, sw_pop, sw_set1, sw_set2, List.set_cons_zero, List.set_cons_succ, List.getElem?_cons_zero, List.getElem?_cons_succ, ald_1, ald_2, ast_1, ast_2, aln_1, aln_2, gf_1, gf_2, pf_1, pf_2, nw_1, ck_0, ck_1, ck_2, ck_3, ck_4, rr_1, rc_1, rc_2, K_i, K_l, K_v, I_add, I_sub, I_mul, I_div, I_em, I_eq0, I_lt0, I_0lt, I_le0, I_0le, I_eq, I_lt, I_le, bv_and, bv_and0, bv_and1, bv_eq0, ↓reduceIte, Int.reduceEq, Int.reduceLT, Int.reduceLE, Int.reduceAdd, Int.reduceSub, Int.reduceMul, Int.reduceNeg, Int.reduceToNat, Nat.reduceLT, Nat.reduceEqDiff, List.length_cons, List.length_nil]
  rw [if_neg (by omega), if_pos (by omega)]
theorem m21 (z : Int) (h1 : 0 ≤ z) (h2 : z < 65536) : sw_M 21 [.int (Int32.ofInt z)] H Q = Q (some (some (.int (Int32.ofInt ((25173 * z + 13849) % 65536))))) H := by
  rw [e21]
  simp (disch := omega) only [r21_0, r21_3, r21_4, r21_5, r21_8, r21_9, r21_11, r21_12, sw_ldi, sw_ldl, sw_lda, sw_has1, sw_i1, sw_i2, sw_l1, sw_l2, sw_li, sw_r1, sw_ri, sw_rix, sw_rv, sw_pop, sw_set1, sw_set2, List.set_cons_zero, List.set_cons_succ, List.getElem?_cons_zero, List.getElem?_cons_succ, ald_1, ald_2, ast_1, ast_2, aln_1, aln_2, gf_1, gf_2, pf_1, pf_2, nw_1, ck_0, ck_1, ck_2, ck_3, ck_4, rr_1, rc_1, rc_2, K_i, K_l, K_v, I_add, I_sub, I_mul, I_div, I_em, I_eq0, I_lt0, I_0lt, I_le0, I_0le, I_eq, I_lt, I_le, bv_and, bv_and0, bv_and1, bv_eq0, ↓reduceIte, Int.reduceEq, Int.reduceLT, Int.reduceLE, Int.reduceAdd, Int.reduceSub, Int.reduceMul, Int.reduceNeg, Int.reduceToNat, Nat.reduceLT, Nat.reduceEqDiff, List.length_cons, List.length_nil]
theorem m71 (b : Bool) : sw_M 71 [.int (sw_bv b)] H Q = Q (some (some (.int (Int32.ofInt (if b then 1 else 2))))) H := by
  rw [e71]
  simp (disch := omega) only [r71_0, r71_1, r71_4, r71_5, r71_8, r71_9, sw_ldi, sw_ldl, sw_lda, sw_has1, sw_i1, sw_i2, sw_l1, sw_l2, sw_li, sw_r1, sw_ri, sw_rix, sw_rv, sw_pop, sw_set1, sw_set2, List.set_cons_zero, List.set_cons_succ, List.getElem?_cons_zero, List.getElem?_cons_succ, ald_1, ald_2, ast_1, ast_2, aln_1, aln_2, gf_1, gf_2, pf_1, pf_2, nw_1, ck_0, ck_1, ck_2, ck_3, ck_4, rr_1, rc_1, rc_2, K_i, K_l, K_v, I_add, I_sub, I_mul, I_div, I_em, I_eq0, I_lt0, I_0lt, I_le0, I_0le, I_eq, I_lt, I_le, bv_and, bv_and0, bv_and1, bv_eq0, ↓reduceIte, Int.reduceEq, Int.reduceLT, Int.reduceLE, Int.reduceAdd, Int.reduceSub, Int.reduceMul, Int.reduceNeg, Int.reduceToNat, Nat.reduceLT, Nat.reduceEqDiff, List.length_cons, List.length_nil]
  cases b <;> rfl
def f_lo (b : Int) : Int := if b < 30 then b / 5 * 6 + b % 5 else b - 30
def f_hi (b : Int) : Int := if b < 30 then b / 5 * 6 + b % 5 + 1 else b - 24
theorem f_lo_b {b : Int} (h1 : 0 ≤ b) (h2 : b < 60) : 0 ≤ f_lo b ∧ f_lo b < 36 := by unfold f_lo; split <;> omega
theorem f_hi_b {b : Int} (h1 : 0 ≤ b) (h2 : b < 60) : 0 ≤ f_hi b ∧ f_hi b < 36 := by unfold f_hi; split <;> omega
theorem m79 (b : Int) (h1 : 0 ≤ b) (h2 : b < 60) : sw_M 79 [.int (Int32.ofInt b)] H Q = Q (some (some (.int (Int32.ofInt (f_lo b))))) H := by
  rw [e79]
  simp (disch := omega) only [r79_0, r79_1, r79_3, r79_6, r79_7, r79_8, r79_9, r79_11, r79_12, r79_13, r79_14, r79_15, r79_16, r79_19, r79_20, r79_22, r79_23, sw_ldi, sw_ldl, sw_lda, sw_has1, sw_i1, sw_i2, sw_l1, sw_l2, sw_li, sw_r1, sw_ri, sw_rix, sw_rv, sw_pop, sw_set1, sw_set2, List.set_cons_zero, List.set_cons_succ, List.getElem?_cons_zero, List.getElem?_cons_succ, ald_1, ald_2, ast_1, ast_2, aln_1, aln_2, gf_1, gf_2, pf_1, pf_2, nw_1, ck_0, ck_1, ck_2, ck_3, ck_4, rr_1, rc_1, rc_2, K_i, K_l, K_v, I_add, I_sub, I_mul, I_div, I_em, I_eq0, I_lt0, I_0lt, I_le0, I_0le, I_eq, I_lt, I_le, bv_and, bv_and0, bv_and1, bv_eq0, ↓reduceIte, Int.reduceEq, Int.reduceLT, Int.reduceLE, Int.reduceAdd, Int.reduceSub, Int.reduceMul, Int.reduceNeg, Int.reduceToNat, Nat.reduceLT, Nat.reduceEqDiff, List.length_cons, List.length_nil]
  unfold f_lo
  (repeat' split) <;> first | rfl | (exfalso; omega) | exact congrArg (fun z => Q (some (some (.int (Int32.ofInt z)))) _) (by omega)
theorem m80 (b : Int) (h1 : 0 ≤ b) (h2 : b < 60) : sw_M 80 [.int (Int32.ofInt b)] H Q = Q (some (some (.int (Int32.ofInt (f_hi b))))) H := by
  rw [e80]
  simp (disch := omega) only [r80_0, r80_1, r80_3, r80_6, r80_7, r80_8, r80_9, r80_11, r80_12, r80_13, r80_14, r80_15, r80_16, r80_17, r80_18, r80_21, r80_22, r80_24, r80_25, sw_ldi, sw_ldl, sw_lda, sw_has1, sw_i1, sw_i2, sw_l1, sw_l2, sw_li, sw_r1, sw_ri, sw_rix, sw_rv, sw_pop, sw_set1, sw_set2, List.set_cons_zero, List.set_cons_succ, List.getElem?_cons_zero, List.getElem?_cons_succ, ald_1, ald_2, ast_1, ast_2, aln_1, aln_2, gf_1, gf_2, pf_1, pf_2, nw_1, ck_0, ck_1, ck_2, ck_3, ck_4, rr_1, rc_1, rc_2, K_i, K_l, K_v, I_add, I_sub, I_mul, I_div, I_em, I_eq0, I_lt0, I_0lt, I_le0, I_0le, I_eq, I_lt, I_le, bv_and, bv_and0, bv_and1, bv_eq0, ↓reduceIte, Int.reduceEq, Int.reduceLT, Int.reduceLE, Int.reduceAdd, Int.reduceSub, Int.reduceMul, Int.reduceNeg, Int.reduceToNat, Nat.reduceLT, Nat.reduceEqDiff, List.length_cons, List.length_nil]
  unfold f_hi
  (repeat' split) <;> first | rfl | (exfalso; omega) | exact congrArg (fun z => Q (some (some (.int (Int32.ofInt z)))) _) (by omega)
theorem lo85 (b : Int) (h1 : 0 ≤ b) (h2 : b < 60) : sw_M 85 [.int (Int32.ofInt b)] H Q = Q (some (some (.int (Int32.ofInt (f_lo b))))) H := by
  rw [m85 b h1 h2]
  unfold f_lo
  rw [Int.mul_comm]
theorem m86 (b : Int) (h1 : 0 ≤ b) (h2 : b < 60) : sw_M 86 [.int (Int32.ofInt b)] H Q = Q (some (some (.int (Int32.ofInt (f_hi b))))) H := by
  rw [e86]
  simp (disch := omega) only [r86_0, r86_1, r86_4, r86_5, r86_7, r86_10, r86_12, r86_15, r86_16, r86_17, lo85, sw_ldi, sw_ldl, sw_lda, sw_has1, sw_i1, sw_i2, sw_l1, sw_l2, sw_li, sw_r1, sw_ri, sw_rix, sw_rv, sw_pop, sw_set1, sw_set2, List.set_cons_zero, List.set_cons_succ, List.getElem?_cons_zero, List.getElem?_cons_succ, ald_1, ald_2, ast_1, ast_2, aln_1, aln_2, gf_1, gf_2, pf_1, pf_2, nw_1, ck_0, ck_1, ck_2, ck_3, ck_4, rr_1, rc_1, rc_2, K_i, K_l, K_v, I_add, I_sub, I_mul, I_div, I_em, I_eq0, I_lt0, I_0lt, I_le0, I_0le, I_eq, I_lt, I_le, bv_and, bv_and0, bv_and1, bv_eq0, ↓reduceIte, Int.reduceEq, Int.reduceLT, Int.reduceLE, Int.reduceAdd, Int.reduceSub, Int.reduceMul, Int.reduceNeg, Int.reduceToNat, Nat.reduceLT, Nat.reduceEqDiff, List.length_cons, List.length_nil]
  unfold f_lo f_hi
  (repeat' split) <;> first | rfl | (exfalso; omega) | exact congrArg (fun z => Q (some (some (.int (Int32.ofInt z)))) _) (by omega)
def f_bb (x y : Int) : Int := if x < y then (if x + y = 2 * x + 6 then 30 + x else 5 * (x / 6) + x % 6) else (if x + y = 2 * y + 6 then 30 + y else 5 * (y / 6) + y % 6)
theorem m89 (x y : Int) (h1 : 0 ≤ x) (h2 : x < 36) (h3 : 0 ≤ y) (h4 : y < 36) : sw_M 89 [.int (Int32.ofInt x), .int (Int32.ofInt y)] H Q = Q (some (some (.int (Int32.ofInt (f_bb x y))))) H := by
  rw [e89]
  simp (disch := omega) only [r89_0, r89_1, r89_2, r89_5, r89_6, r89_9, sw_ldi, sw_ldl, sw_lda, sw_has1, sw_i1, sw_i2, sw_l1, sw_l2, sw_li, sw_r1, sw_ri, sw_rix, sw_rv, sw_pop, sw_set1, sw_set2, List.set_cons_zero, List.set_cons_succ, List.getElem?_cons_zero, List.getElem?_cons_succ, ald_1, ald_2, ast_1, ast_2, aln_1, aln_2, gf_1, gf_2, pf_1, pf_2, nw_1, ck_0, ck_1, ck_2, ck_3, ck_4, rr_1, rc_1, rc_2, K_i, K_l, K_v, I_add, I_sub, I_mul, I_div, I_em, I_eq0, I_lt0, I_0lt, I_le0, I_0le, I_eq, I_lt, I_le, bv_and, bv_and0, bv_and1, bv_eq0, ↓reduceIte, Int.reduceEq, Int.reduceLT, Int.reduceLE, Int.reduceAdd, Int.reduceSub, Int.reduceMul, Int.reduceNeg, Int.reduceToNat, Nat.reduceLT, Nat.reduceEqDiff, List.length_cons, List.length_nil]
  unfold f_bb
  split
  · simp (disch := omega) only [r89_10, r89_11, r89_12, r89_13, r89_14, r89_15, r89_16, r89_17, r89_19, r89_20, r89_23, r89_24, r89_27, r89_28, r89_29, r89_30, r89_33, r89_35, r89_36, r89_37, r89_40, r89_41, r89_42, r89_44, r89_45, r89_46, r89_47, r89_49, r89_50, r89_51, sw_ldi, sw_ldl, sw_lda, sw_has1, sw_i1, sw_i2, sw_l1, sw_l2, sw_li, sw_r1, sw_ri, sw_rix, sw_rv, sw_pop, sw_set1, sw_set2, List.set_cons_zero, List.set_cons_succ, List.getElem?_cons_zero, List.getElem?_cons_succ, ald_1, ald_2, ast_1, ast_2, aln_1, aln_2, gf_1, gf_2, pf_1, pf_2, nw_1, ck_0, ck_1, ck_2, ck_3, ck_4, rr_1, rc_1, rc_2, K_i, K_l, K_v, I_add, I_sub, I_mul, I_div, I_em, I_eq0, I_lt0, I_0lt, I_le0, I_0le, I_eq, I_lt, I_le, bv_and, bv_and0, bv_and1, bv_eq0, ↓reduceIte, Int.reduceEq, Int.reduceLT, Int.reduceLE, Int.reduceAdd, Int.reduceSub, Int.reduceMul, Int.reduceNeg, Int.reduceToNat, Nat.reduceLT, Nat.reduceEqDiff, List.length_cons, List.length_nil]
    (repeat' split) <;> first | rfl | (exfalso; omega) | exact congrArg (fun z => Q (some (some (.int (Int32.ofInt z)))) _) (by omega)
  · simp (disch := omega) only [r89_10, r89_11, r89_12, r89_13, r89_14, r89_15, r89_16, r89_17, r89_19, r89_20, r89_23, r89_24, r89_27, r89_28, r89_29, r89_30, r89_33, r89_35, r89_36, r89_37, r89_40, r89_41, r89_42, r89_44, r89_45, r89_46, r89_47, r89_49, r89_50, r89_51, sw_ldi, sw_ldl, sw_lda, sw_has1, sw_i1, sw_i2, sw_l1, sw_l2, sw_li, sw_r1, sw_ri, sw_rix, sw_rv, sw_pop, sw_set1, sw_set2, List.set_cons_zero, List.set_cons_succ, List.getElem?_cons_zero, List.getElem?_cons_succ, ald_1, ald_2, ast_1, ast_2, aln_1, aln_2, gf_1, gf_2, pf_1, pf_2, nw_1, ck_0, ck_1, ck_2, ck_3, ck_4, rr_1, rc_1, rc_2, K_i, K_l, K_v, I_add, I_sub, I_mul, I_div, I_em, I_eq0, I_lt0, I_0lt, I_le0, I_0le, I_eq, I_lt, I_le, bv_and, bv_and0, bv_and1, bv_eq0, ↓reduceIte, Int.reduceEq, Int.reduceLT, Int.reduceLE, Int.reduceAdd, Int.reduceSub, Int.reduceMul, Int.reduceNeg, Int.reduceToNat, Nat.reduceLT, Nat.reduceEqDiff, List.length_cons, List.length_nil]
    (repeat' split) <;> first | rfl | (exfalso; omega) | exact congrArg (fun z => Q (some (some (.int (Int32.ofInt z)))) _) (by omega)
theorem m72 (s d : Int) (h1 : 0 ≤ s) (h2 : s < 36) (h3 : 0 ≤ d) (h4 : d < 4) : sw_M 72 [.int (Int32.ofInt s), .int (Int32.ofInt d)] H Q = Q (some (some (.int (sw_bv (decide (f_sb s d = -1)))))) H := by
  have hb : -1 ≤ f_sb s d ∧ f_sb s d < 42 := by
    have hd : d = 0 ∨ d = 1 ∨ d = 2 ∨ d = 3 := by omega
    rcases hd with rfl | rfl | rfl | rfl
    · rw [f_sb0]; split <;> omega
    · rw [f_sb1]; split <;> omega
    · rw [f_sb2]; split <;> omega
    · rw [f_sb3]; split <;> omega
  obtain ⟨hb1, hb2⟩ := hb
  rw [e72]
  simp (disch := omega) only [r72_0, r72_1, r72_2, m32, sw_ldi, sw_ldl, sw_lda, sw_has1, sw_i1, sw_i2, sw_l1, sw_l2, sw_li, sw_r1, sw_ri, sw_rix, sw_rv, sw_pop, sw_set1, sw_set2, List.set_cons_zero, List.set_cons_succ, List.getElem?_cons_zero, List.getElem?_cons_succ, ald_1, ald_2, ast_1, ast_2, aln_1, aln_2, gf_1, gf_2, pf_1, pf_2, nw_1, ck_0, ck_1, ck_2, ck_3, ck_4, rr_1, rc_1, rc_2, K_i, K_l, K_v, I_add, I_sub, I_mul, I_div, I_em, I_eq0, I_lt0, I_0lt, I_le0, I_0le, I_eq, I_lt, I_le, bv_and, bv_and0, bv_and1, bv_eq0, ↓reduceIte, Int.reduceEq, Int.reduceLT, Int.reduceLE, Int.reduceAdd, Int.reduceSub, Int.reduceMul, Int.reduceNeg, Int.reduceToNat, Nat.reduceLT, Nat.reduceEqDiff, List.length_cons, List.length_nil]
  generalize f_sb s d = z at hb1 hb2 ⊢
  simp (disch := omega) only [r72_5, r72_6, r72_9, r72_10, r72_13, r72_14, sw_ldi, sw_ldl, sw_lda, sw_has1, sw_i1, sw_i2, sw_l1, sw_l2, sw_li, sw_r1, sw_ri, sw_rix, sw_rv, sw_pop, sw_set1, sw_set2, List.set_cons_zero, List.set_cons_succ, List.getElem?_cons_zero, List.getElem?_cons_succ, ald_1, ald_2, ast_1, ast_2, aln_1, aln_2, gf_1, gf_2, pf_1, pf_2, nw_1, ck_0, ck_1, ck_2, ck_3, ck_4, rr_1, rc_1, rc_2, K_i, K_l, K_v, I_add, I_sub, I_mul, I_div, I_em, I_eq0, I_lt0, I_0lt, I_le0, I_0le, I_eq, I_lt, I_le, bv_and, bv_and0, bv_and1, bv_eq0, ↓reduceIte, Int.reduceEq, Int.reduceLT, Int.reduceLE, Int.reduceAdd, Int.reduceSub, Int.reduceMul, Int.reduceNeg, Int.reduceToNat, Nat.reduceLT, Nat.reduceEqDiff, List.length_cons, List.length_nil]
  by_cases hz : z = -1
  · subst hz; rfl
  · rw [if_pos hz, decide_eq_false hz]; rfl
end sw_m2
