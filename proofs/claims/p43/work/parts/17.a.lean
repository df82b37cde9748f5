/-! making: the heap as a list of cells -/
def hG (D : sw_Ce) (c : List sw_Ce) (n m : Nat) : sw_HS := (fun a => (c[a]?).getD D, c.length, n, m)
def ar (t n : Nat) : sw_Ce := .inr (t, n, I32 (fun _ => 0))
def afl : sw_Ce := .inr (0, 12, I32 (fil 12 100 (fun _ => 0)))
section sw_mkk
variable {D : sw_Ce} {c l : List sw_Ce} {n m : Nat} {Q : sw_Ot → sw_HS → Prop}
theorem hG_mk {x : sw_Ce} {k : Nat} : sw_mk (hG D (c ++ l) n m) x k = hG D (c ++ (l ++ [x])) (n + 1) (m + k) := by
  refine Prod.ext (funext fun a => ?_) ?_
  · show (if a = (c ++ l).length then x else ((c ++ l)[a]?).getD D) = ((c ++ (l ++ [x]))[a]?).getD D
    rw [← List.append_assoc]
    by_cases e : a = (c ++ l).length
    · rw [if_pos e, e, List.getElem?_append_right (Nat.le_refl _), Nat.sub_self]
      rfl
    · rw [if_neg e]
      by_cases h : a < (c ++ l).length
      · rw [List.getElem?_append_left h]
      · rw [List.getElem?_eq_none (by omega), List.getElem?_eq_none (by rw [List.length_append]; show (c ++ l).length + 1 ≤ a; omega)]
  · show ((c ++ l).length + 1, n + 1, m + k) = ((c ++ (l ++ [x])).length, n + 1, m + k)
    rw [← List.append_assoc, List.length_append (bs := [x])]
    rfl
theorem hG_nx : (hG D (c ++ l) n m).2.1 = c.length + l.length := List.length_append
theorem hG_at {k : Nat} : (hG D (c ++ l) n m).1 (c.length + k) = (l[k]?).getD D := by
  show ((c ++ l)[c.length + k]?).getD D = _
  rw [List.getElem?_append_right (by omega), Nat.add_sub_cancel_left]
theorem hG_wr {k : Nat} {x : sw_Ce} (h : k < l.length) : sw_wr (hG D (c ++ l) n m) (c.length + k) x = hG D (c ++ l.set k x) n m := by
  refine Prod.ext (funext fun a => ?_) ?_
  · show (if a = c.length + k then x else ((c ++ l)[a]?).getD D) = ((c ++ l.set k x)[a]?).getD D
    by_cases e : a = c.length + k
    · rw [if_pos e, e, List.getElem?_append_right (by omega), Nat.add_sub_cancel_left, List.getElem?_set_self h]
      rfl
    · rw [if_neg e]
      by_cases h2 : a < c.length
      · rw [List.getElem?_append_left h2, List.getElem?_append_left h2]
      · rw [List.getElem?_append_right (by omega), List.getElem?_append_right (by omega), List.getElem?_set_ne (by omega)]
  · show ((c ++ l).length, n, m) = ((c ++ l.set k x).length, n, m)
    rw [List.length_append, List.length_append, List.length_set]
theorem hG_at0 : (hG D (c ++ l) n m).1 c.length = (l[0]?).getD D := hG_at (k := 0)
theorem hG_wr0 {x a : sw_Ce} : sw_wr (hG D (c ++ (a :: l)) n m) c.length x = hG D (c ++ (x :: l)) n m := hG_wr (k := 0) (Nat.zero_lt_succ _)
theorem ar_f {t n : Nat} : (Sum.inr (t, n, fun _ => 0) : sw_Ce) = ar t n := rfl
theorem pf_4 {H : sw_HS} {ci k a b : Nat} {fs : List Value} {K : sw_HS → Prop} : sw_pf9 (.inl (ci, fs)) H (ci, k, 4) 2 a (.ref b) K = if k < fs.length then K (sw_wr H a (.inl (ci, fs.set k (.ref b)))) else False := by
  unfold sw_pf9
  dsimp only
  by_cases h : k < fs.length
  · rw [if_pos ⟨rfl, h, rfl⟩, if_pos h]
  · rw [if_neg (fun q => h q.2.1), if_neg h]
theorem pf_5 {H : sw_HS} {ci k a : Nat} {fs : List Value} {K : sw_HS → Prop} : sw_pf9 (.inl (ci, fs)) H (ci, k, 2) 2 a (.int (Int32.ofInt 0)) K = if k < fs.length then K (sw_wr H a (.inl (ci, fs.set k (.int 0)))) else False := by
  unfold sw_pf9
  dsimp only
  by_cases h : k < fs.length
  · rw [if_pos ⟨rfl, h, rfl⟩, if_pos h]
    rfl
  · rw [if_neg (fun q => h q.2.1), if_neg h]
theorem dq_0 : sw_df 0 = [.null, .null, .int 0, .int 0, .int 0, .int 0] := rfl
theorem dq_1 : sw_df 1 = [.null, .null, .null, .null, .int 0] := rfl
theorem dq_2 : sw_df 2 = [.null, .null, .null] := rfl
theorem dq_3 : sw_df 3 = [.null, .null] := rfl
theorem dq_4 : sw_df 4 = [.null, .null, .null, .null] := rfl
theorem dq_5 : sw_df 5 = [.null, .null, .null] := rfl
theorem dq_6 : sw_df 6 = [.null, .int 0, .int 0] := rfl
theorem dq_7 : sw_df 7 = [.null, .null, .null, .int 0, .null, .null, .int 0, .int 0, .null] := rfl
theorem dq_8 : sw_df 8 = [.null, .null] := rfl
theorem dq_9 : sw_df 9 = [.null, .null, .null, .null, .int 0, .int 0, .int 0] := rfl
theorem dq_10 : sw_df 10 = [.null, .int 0, .int 0] := rfl
theorem dq_12 : sw_df 12 = [.null, .int 0, .int 0, .int 0] := rfl
theorem k0 : sw_M 0 [.ref c.length] (hG D (c ++ [.inl (8, sw_df 8)]) n m) Q = Q (some none) (hG D (c ++ [.inl (8, [.ref (c.length + 1), .ref (c.length + 2)]), ar 0 60, ar 0 36]) (n + 2) (m + 96)) := by
  rw [e0]
  simp (disch := omega) only [r0_0, r0_1, r0_4, r0_5, r0_7, r0_9, r0_12, r0_13, r0_15, r0_17, r0_20, sw_ldi, sw_ldl, sw_lda, sw_has1, sw_i1, sw_i2, sw_l1, sw_l2, sw_li, sw_r1, sw_ri, sw_rix, sw_rv, sw_pop, sw_set1, sw_set2, List.set_cons_zero, List.set_cons_succ, List.getElem?_cons_zero, List.getElem?_cons_succ, ald_1, ald_2, ast_1, ast_2, aln_1, aln_2, gf_1, gf_2, pf_1, pf_2, nw_1, ck_0, ck_1, ck_2, ck_3, ck_4, rr_1, rc_1, rc_2, K_i, K_l, K_v, I_add, I_sub, I_mul, I_div, I_em, I_eq0, I_lt0, I_0lt, I_le0, I_0le, I_eq, I_lt, I_le, I_a1, I_r1, I_eq1, I32_at, I32_s, Int.toNat_natCast, List.set_cons_zero, reduceCtorEq, not_false_eq_true, not_true_eq_false, false_and, true_and, and_true, and_false, false_or, true_or, or_true, or_false, if_true, if_false, eq_self, ↓reduceIte, Int.reduceEq, Int.reduceLT, Int.reduceLE, Int.reduceAdd, Int.reduceSub, Int.reduceMul, Int.reduceNeg, Int.reduceToNat, Nat.reduceLT, Nat.reduceAdd, Nat.reduceEqDiff, List.length_cons, List.length_nil, hG_mk, hG_nx, hG_at, hG_at0, hG_wr0, ar_f, pf_3, pf_4, pf_5, Option.getD_some, List.cons_append, List.nil_append, List.append_assoc, List.length_append, Nat.zero_add, Nat.add_assoc, Nat.lt_add_one, Nat.zero_lt_succ, dq_0, dq_1, dq_2, dq_3, dq_4, dq_5, dq_6, dq_7, dq_8, dq_9, dq_10, dq_12]
theorem k1 : sw_M 1 [.ref c.length] (hG D (c ++ [.inl (10, sw_df 10)]) n m) Q = Q (some none) (hG D (c ++ [.inl (10, [.ref (c.length + 1), .int 0, .int 0]), ar 0 36]) (n + 1) (m + 36)) := by
  rw [e1]
  simp (disch := omega) only [r1_0, r1_1, r1_4, r1_5, r1_7, r1_9, r1_12, sw_ldi, sw_ldl, sw_lda, sw_has1, sw_i1, sw_i2, sw_l1, sw_l2, sw_li, sw_r1, sw_ri, sw_rix, sw_rv, sw_pop, sw_set1, sw_set2, List.set_cons_zero, List.set_cons_succ, List.getElem?_cons_zero, List.getElem?_cons_succ, ald_1, ald_2, ast_1, ast_2, aln_1, aln_2, gf_1, gf_2, pf_1, pf_2, nw_1, ck_0, ck_1, ck_2, ck_3, ck_4, rr_1, rc_1, rc_2, K_i, K_l, K_v, I_add, I_sub, I_mul, I_div, I_em, I_eq0, I_lt0, I_0lt, I_le0, I_0le, I_eq, I_lt, I_le, I_a1, I_r1, I_eq1, I32_at, I32_s, Int.toNat_natCast, List.set_cons_zero, reduceCtorEq, not_false_eq_true, not_true_eq_false, false_and, true_and, and_true, and_false, false_or, true_or, or_true, or_false, if_true, if_false, eq_self, ↓reduceIte, Int.reduceEq, Int.reduceLT, Int.reduceLE, Int.reduceAdd, Int.reduceSub, Int.reduceMul, Int.reduceNeg, Int.reduceToNat, Nat.reduceLT, Nat.reduceAdd, Nat.reduceEqDiff, List.length_cons, List.length_nil, hG_mk, hG_nx, hG_at, hG_at0, hG_wr0, ar_f, pf_3, pf_4, pf_5, Option.getD_some, List.cons_append, List.nil_append, List.append_assoc, List.length_append, Nat.zero_add, Nat.add_assoc, Nat.lt_add_one, Nat.zero_lt_succ, dq_0, dq_1, dq_2, dq_3, dq_4, dq_5, dq_6, dq_7, dq_8, dq_9, dq_10, dq_12]
theorem k2 : sw_M 2 [.ref c.length] (hG D (c ++ [.inl (7, sw_df 7)]) n m) Q = Q (some none) (hG D (c ++ [.inl (7, [.ref (c.length + 1), .ref (c.length + 2), .ref (c.length + 3), .int 0, .ref (c.length + 4), .ref (c.length + 5), .int 0, .int 0, .ref (c.length + 6)]), ar 1 36, ar 1 36, ar 1 36, ar 1 36, ar 1 36, .inl (10, [.ref (c.length + 7), .int 0, .int 0]), ar 0 36]) (n + 7) (m + 219)) := by
  rw [e2]
  have q14 := fun (n m : Nat) (Q : sw_Ot → sw_HS → Prop) => k1 (D := D) (c := c ++ [.inl (7, [.ref (c.length + 1), .ref (c.length + 2), .ref (c.length + 3), .int 0, .ref (c.length + 4), .ref (c.length + 5), .int 0, .int 0, .null]), ar 1 36, ar 1 36, ar 1 36, ar 1 36, ar 1 36]) (n := n) (m := m) (Q := Q)
  simp only [List.append_assoc, List.cons_append, List.nil_append, List.length_append, List.length_cons, List.length_nil, Nat.add_assoc, Nat.reduceAdd, Nat.zero_add, dq_10] at q14
  simp (disch := omega) only [r2_0, r2_1, r2_4, r2_5, r2_7, r2_9, r2_12, r2_13, r2_15, r2_17, r2_20, r2_21, r2_23, r2_25, r2_28, r2_29, r2_31, r2_33, r2_36, r2_37, r2_39, r2_41, r2_44, r2_45, r2_48, r2_49, r2_52, r2_55, sw_ldi, sw_ldl, sw_lda, sw_has1, sw_i1, sw_i2, sw_l1, sw_l2, sw_li, sw_r1, sw_ri, sw_rix, sw_rv, sw_pop, sw_set1, sw_set2, List.set_cons_zero, List.set_cons_succ, List.getElem?_cons_zero, List.getElem?_cons_succ, ald_1, ald_2, ast_1, ast_2, aln_1, aln_2, gf_1, gf_2, pf_1, pf_2, nw_1, ck_0, ck_1, ck_2, ck_3, ck_4, rr_1, rc_1, rc_2, K_i, K_l, K_v, I_add, I_sub, I_mul, I_div, I_em, I_eq0, I_lt0, I_0lt, I_le0, I_0le, I_eq, I_lt, I_le, I_a1, I_r1, I_eq1, I32_at, I32_s, Int.toNat_natCast, List.set_cons_zero, reduceCtorEq, not_false_eq_true, not_true_eq_false, false_and, true_and, and_true, and_false, false_or, true_or, or_true, or_false, if_true, if_false, eq_self, ↓reduceIte, Int.reduceEq, Int.reduceLT, Int.reduceLE, Int.reduceAdd, Int.reduceSub, Int.reduceMul, Int.reduceNeg, Int.reduceToNat, Nat.reduceLT, Nat.reduceAdd, Nat.reduceEqDiff, List.length_cons, List.length_nil, hG_mk, hG_nx, hG_at, hG_at0, hG_wr0, ar_f, pf_3, pf_4, pf_5, Option.getD_some, List.cons_append, List.nil_append, List.append_assoc, List.length_append, Nat.zero_add, Nat.add_assoc, Nat.lt_add_one, Nat.zero_lt_succ, dq_0, dq_1, dq_2, dq_3, dq_4, dq_5, dq_6, dq_7, dq_8, dq_9, dq_10, dq_12, q14]
theorem k3 : sw_M 3 [.ref c.length] (hG D (c ++ [.inl (9, sw_df 9)]) n m) Q = Q (some none) (hG D (c ++ [.inl (9, [.ref (c.length + 1), .ref (c.length + 2), .ref (c.length + 3), .ref (c.length + 4), .int 0, .int 0, .int 0]), ar 1 36, ar 1 60, ar 0 36, .inl (10, [.ref (c.length + 5), .int 0, .int 0]), ar 0 36]) (n + 5) (m + 171)) := by
  rw [e3]
  have q20 := fun (n m : Nat) (Q : sw_Ot → sw_HS → Prop) => k1 (D := D) (c := c ++ [.inl (9, [.ref (c.length + 1), .ref (c.length + 2), .ref (c.length + 3), .null, .int 0, .int 0, .int 0]), ar 1 36, ar 1 60, ar 0 36]) (n := n) (m := m) (Q := Q)
  simp only [List.append_assoc, List.cons_append, List.nil_append, List.length_append, List.length_cons, List.length_nil, Nat.add_assoc, Nat.reduceAdd, Nat.zero_add, dq_10] at q20
  simp (disch := omega) only [r3_0, r3_1, r3_4, r3_5, r3_7, r3_9, r3_12, r3_13, r3_15, r3_17, r3_20, r3_21, r3_23, r3_25, r3_28, r3_29, r3_32, r3_33, r3_36, r3_39, sw_ldi, sw_ldl, sw_lda, sw_has1, sw_i1, sw_i2, sw_l1, sw_l2, sw_li, sw_r1, sw_ri, sw_rix, sw_rv, sw_pop, sw_set1, sw_set2, List.set_cons_zero, List.set_cons_succ, List.getElem?_cons_zero, List.getElem?_cons_succ, ald_1, ald_2, ast_1, ast_2, aln_1, aln_2, gf_1, gf_2, pf_1, pf_2, nw_1, ck_0, ck_1, ck_2, ck_3, ck_4, rr_1, rc_1, rc_2, K_i, K_l, K_v, I_add, I_sub, I_mul, I_div, I_em, I_eq0, I_lt0, I_0lt, I_le0, I_0le, I_eq, I_lt, I_le, I_a1, I_r1, I_eq1, I32_at, I32_s, Int.toNat_natCast, List.set_cons_zero, reduceCtorEq, not_false_eq_true, not_true_eq_false, false_and, true_and, and_true, and_false, false_or, true_or, or_true, or_false, if_true, if_false, eq_self, ↓reduceIte, Int.reduceEq, Int.reduceLT, Int.reduceLE, Int.reduceAdd, Int.reduceSub, Int.reduceMul, Int.reduceNeg, Int.reduceToNat, Nat.reduceLT, Nat.reduceAdd, Nat.reduceEqDiff, List.length_cons, List.length_nil, hG_mk, hG_nx, hG_at, hG_at0, hG_wr0, ar_f, pf_3, pf_4, pf_5, Option.getD_some, List.cons_append, List.nil_append, List.append_assoc, List.length_append, Nat.zero_add, Nat.add_assoc, Nat.lt_add_one, Nat.zero_lt_succ, dq_0, dq_1, dq_2, dq_3, dq_4, dq_5, dq_6, dq_7, dq_8, dq_9, dq_10, dq_12, q20]
theorem k4 : sw_M 4 [.ref c.length] (hG D (c ++ [.inl (4, sw_df 4)]) n m) Q = Q (some none) (hG D (c ++ [.inl (4, [.ref (c.length + 1), .ref (c.length + 2), .ref (c.length + 3), .ref (c.length + 4)]), ar 0 60, ar 1 36, ar 0 36, .inl (10, [.ref (c.length + 5), .int 0, .int 0]), ar 0 36]) (n + 5) (m + 171)) := by
  rw [e4]
  have q26 := fun (n m : Nat) (Q : sw_Ot → sw_HS → Prop) => k1 (D := D) (c := c ++ [.inl (4, [.ref (c.length + 1), .ref (c.length + 2), .ref (c.length + 3), .null]), ar 0 60, ar 1 36, ar 0 36]) (n := n) (m := m) (Q := Q)
  simp only [List.append_assoc, List.cons_append, List.nil_append, List.length_append, List.length_cons, List.length_nil, Nat.add_assoc, Nat.reduceAdd, Nat.zero_add, dq_10] at q26
  simp (disch := omega) only [r4_0, r4_1, r4_4, r4_5, r4_7, r4_9, r4_12, r4_13, r4_15, r4_17, r4_20, r4_21, r4_23, r4_25, r4_28, r4_29, r4_32, r4_33, r4_36, r4_39, sw_ldi, sw_ldl, sw_lda, sw_has1, sw_i1, sw_i2, sw_l1, sw_l2, sw_li, sw_r1, sw_ri, sw_rix, sw_rv, sw_pop, sw_set1, sw_set2, List.set_cons_zero, List.set_cons_succ, List.getElem?_cons_zero, List.getElem?_cons_succ, ald_1, ald_2, ast_1, ast_2, aln_1, aln_2, gf_1, gf_2, pf_1, pf_2, nw_1, ck_0, ck_1, ck_2, ck_3, ck_4, rr_1, rc_1, rc_2, K_i, K_l, K_v, I_add, I_sub, I_mul, I_div, I_em, I_eq0, I_lt0, I_0lt, I_le0, I_0le, I_eq, I_lt, I_le, I_a1, I_r1, I_eq1, I32_at, I32_s, Int.toNat_natCast, List.set_cons_zero, reduceCtorEq, not_false_eq_true, not_true_eq_false, false_and, true_and, and_true, and_false, false_or, true_or, or_true, or_false, if_true, if_false, eq_self, ↓reduceIte, Int.reduceEq, Int.reduceLT, Int.reduceLE, Int.reduceAdd, Int.reduceSub, Int.reduceMul, Int.reduceNeg, Int.reduceToNat, Nat.reduceLT, Nat.reduceAdd, Nat.reduceEqDiff, List.length_cons, List.length_nil, hG_mk, hG_nx, hG_at, hG_at0, hG_wr0, ar_f, pf_3, pf_4, pf_5, Option.getD_some, List.cons_append, List.nil_append, List.append_assoc, List.length_append, Nat.zero_add, Nat.add_assoc, Nat.lt_add_one, Nat.zero_lt_succ, dq_0, dq_1, dq_2, dq_3, dq_4, dq_5, dq_6, dq_7, dq_8, dq_9, dq_10, dq_12, q26]
theorem k5 : sw_M 5 [.ref c.length] (hG D (c ++ [.inl (3, sw_df 3)]) n m) Q = Q (some none) (hG D (c ++ [.inl (3, [.ref (c.length + 1), .ref (c.length + 2)]), ar 0 36, ar 1 36]) (n + 2) (m + 72)) := by
  rw [e5]
  simp (disch := omega) only [r5_0, r5_1, r5_4, r5_5, r5_7, r5_9, r5_12, r5_13, r5_15, r5_17, r5_20, sw_ldi, sw_ldl, sw_lda, sw_has1, sw_i1, sw_i2, sw_l1, sw_l2, sw_li, sw_r1, sw_ri, sw_rix, sw_rv, sw_pop, sw_set1, sw_set2, List.set_cons_zero, List.set_cons_succ, List.getElem?_cons_zero, List.getElem?_cons_succ, ald_1, ald_2, ast_1, ast_2, aln_1, aln_2, gf_1, gf_2, pf_1, pf_2, nw_1, ck_0, ck_1, ck_2, ck_3, ck_4, rr_1, rc_1, rc_2, K_i, K_l, K_v, I_add, I_sub, I_mul, I_div, I_em, I_eq0, I_lt0, I_0lt, I_le0, I_0le, I_eq, I_lt, I_le, I_a1, I_r1, I_eq1, I32_at, I32_s, Int.toNat_natCast, List.set_cons_zero, reduceCtorEq, not_false_eq_true, not_true_eq_false, false_and, true_and, and_true, and_false, false_or, true_or, or_true, or_false, if_true, if_false, eq_self, ↓reduceIte, Int.reduceEq, Int.reduceLT, Int.reduceLE, Int.reduceAdd, Int.reduceSub, Int.reduceMul, Int.reduceNeg, Int.reduceToNat, Nat.reduceLT, Nat.reduceAdd, Nat.reduceEqDiff, List.length_cons, List.length_nil, hG_mk, hG_nx, hG_at, hG_at0, hG_wr0, ar_f, pf_3, pf_4, pf_5, Option.getD_some, List.cons_append, List.nil_append, List.append_assoc, List.length_append, Nat.zero_add, Nat.add_assoc, Nat.lt_add_one, Nat.zero_lt_succ, dq_0, dq_1, dq_2, dq_3, dq_4, dq_5, dq_6, dq_7, dq_8, dq_9, dq_10, dq_12]
theorem k6 : sw_M 6 [.ref c.length] (hG D (c ++ [.inl (2, sw_df 2)]) n m) Q = Q (some none) (hG D (c ++ [.inl (2, [.ref (c.length + 1), .ref (c.length + 2), .ref (c.length + 3)]), ar 0 38, ar 1 60, .inl (3, [.ref (c.length + 4), .ref (c.length + 5)]), ar 0 36, ar 1 36]) (n + 5) (m + 172)) := by
  rw [e6]
  have q31 := fun (n m : Nat) (Q : sw_Ot → sw_HS → Prop) => k5 (D := D) (c := c ++ [.inl (2, [.ref (c.length + 1), .ref (c.length + 2), .null]), ar 0 38, ar 1 60]) (n := n) (m := m) (Q := Q)
  simp only [List.append_assoc, List.cons_append, List.nil_append, List.length_append, List.length_cons, List.length_nil, Nat.add_assoc, Nat.reduceAdd, Nat.zero_add, dq_3] at q31
  simp (disch := omega) only [r6_0, r6_1, r6_4, r6_5, r6_7, r6_9, r6_12, r6_13, r6_15, r6_17, r6_20, r6_21, r6_24, r6_25, r6_28, r6_31, sw_ldi, sw_ldl, sw_lda, sw_has1, sw_i1, sw_i2, sw_l1, sw_l2, sw_li, sw_r1, sw_ri, sw_rix, sw_rv, sw_pop, sw_set1, sw_set2, List.set_cons_zero, List.set_cons_succ, List.getElem?_cons_zero, List.getElem?_cons_succ, ald_1, ald_2, ast_1, ast_2, aln_1, aln_2, gf_1, gf_2, pf_1, pf_2, nw_1, ck_0, ck_1, ck_2, ck_3, ck_4, rr_1, rc_1, rc_2, K_i, K_l, K_v, I_add, I_sub, I_mul, I_div, I_em, I_eq0, I_lt0, I_0lt, I_le0, I_0le, I_eq, I_lt, I_le, I_a1, I_r1, I_eq1, I32_at, I32_s, Int.toNat_natCast, List.set_cons_zero, reduceCtorEq, not_false_eq_true, not_true_eq_false, false_and, true_and, and_true, and_false, false_or, true_or, or_true, or_false, if_true, if_false, eq_self, ↓reduceIte, Int.reduceEq, Int.reduceLT, Int.reduceLE, Int.reduceAdd, Int.reduceSub, Int.reduceMul, Int.reduceNeg, Int.reduceToNat, Nat.reduceLT, Nat.reduceAdd, Nat.reduceEqDiff, List.length_cons, List.length_nil, hG_mk, hG_nx, hG_at, hG_at0, hG_wr0, ar_f, pf_3, pf_4, pf_5, Option.getD_some, List.cons_append, List.nil_append, List.append_assoc, List.length_append, Nat.zero_add, Nat.add_assoc, Nat.lt_add_one, Nat.zero_lt_succ, dq_0, dq_1, dq_2, dq_3, dq_4, dq_5, dq_6, dq_7, dq_8, dq_9, dq_10, dq_12, q31]
theorem k7 : sw_M 7 [.ref c.length] (hG D (c ++ [.inl (0, sw_df 0)]) n m) Q = Q (some none) (hG D (c ++ [.inl (0, [.ref (c.length + 1), .ref (c.length + 2), .int 0, .int 0, .int 0, .int 0]), ar 0 24, ar 0 16]) (n + 2) (m + 40)) := by
  rw [e7]
  simp (disch := omega) only [r7_0, r7_1, r7_4, r7_5, r7_7, r7_9, r7_12, r7_13, r7_15, r7_17, r7_20, sw_ldi, sw_ldl, sw_lda, sw_has1, sw_i1, sw_i2, sw_l1, sw_l2, sw_li, sw_r1, sw_ri, sw_rix, sw_rv, sw_pop, sw_set1, sw_set2, List.set_cons_zero, List.set_cons_succ, List.getElem?_cons_zero, List.getElem?_cons_succ, ald_1, ald_2, ast_1, ast_2, aln_1, aln_2, gf_1, gf_2, pf_1, pf_2, nw_1, ck_0, ck_1, ck_2, ck_3, ck_4, rr_1, rc_1, rc_2, K_i, K_l, K_v, I_add, I_sub, I_mul, I_div, I_em, I_eq0, I_lt0, I_0lt, I_le0, I_0le, I_eq, I_lt, I_le, I_a1, I_r1, I_eq1, I32_at, I32_s, Int.toNat_natCast, List.set_cons_zero, reduceCtorEq, not_false_eq_true, not_true_eq_false, false_and, true_and, and_true, and_false, false_or, true_or, or_true, or_false, if_true, if_false, eq_self, ↓reduceIte, Int.reduceEq, Int.reduceLT, Int.reduceLE, Int.reduceAdd, Int.reduceSub, Int.reduceMul, Int.reduceNeg, Int.reduceToNat, Nat.reduceLT, Nat.reduceAdd, Nat.reduceEqDiff, List.length_cons, List.length_nil, hG_mk, hG_nx, hG_at, hG_at0, hG_wr0, ar_f, pf_3, pf_4, pf_5, Option.getD_some, List.cons_append, List.nil_append, List.append_assoc, List.length_append, Nat.zero_add, Nat.add_assoc, Nat.lt_add_one, Nat.zero_lt_succ, dq_0, dq_1, dq_2, dq_3, dq_4, dq_5, dq_6, dq_7, dq_8, dq_9, dq_10, dq_12]
theorem k8 : sw_M 8 [.ref c.length] (hG D (c ++ [.inl (6, sw_df 6)]) n m) Q = Q (some none) (hG D (c ++ [.inl (6, [.ref (c.length + 1), .int 0, .int 0]), ar 1 36]) (n + 1) (m + 36)) := by
  rw [e8]
  simp (disch := omega) only [r8_0, r8_1, r8_4, r8_5, r8_7, r8_9, r8_12, sw_ldi, sw_ldl, sw_lda, sw_has1, sw_i1, sw_i2, sw_l1, sw_l2, sw_li, sw_r1, sw_ri, sw_rix, sw_rv, sw_pop, sw_set1, sw_set2, List.set_cons_zero, List.set_cons_succ, List.getElem?_cons_zero, List.getElem?_cons_succ, ald_1, ald_2, ast_1, ast_2, aln_1, aln_2, gf_1, gf_2, pf_1, pf_2, nw_1, ck_0, ck_1, ck_2, ck_3, ck_4, rr_1, rc_1, rc_2, K_i, K_l, K_v, I_add, I_sub, I_mul, I_div, I_em, I_eq0, I_lt0, I_0lt, I_le0, I_0le, I_eq, I_lt, I_le, I_a1, I_r1, I_eq1, I32_at, I32_s, Int.toNat_natCast, List.set_cons_zero, reduceCtorEq, not_false_eq_true, not_true_eq_false, false_and, true_and, and_true, and_false, false_or, true_or, or_true, or_false, if_true, if_false, eq_self, ↓reduceIte, Int.reduceEq, Int.reduceLT, Int.reduceLE, Int.reduceAdd, Int.reduceSub, Int.reduceMul, Int.reduceNeg, Int.reduceToNat, Nat.reduceLT, Nat.reduceAdd, Nat.reduceEqDiff, List.length_cons, List.length_nil, hG_mk, hG_nx, hG_at, hG_at0, hG_wr0, ar_f, pf_3, pf_4, pf_5, Option.getD_some, List.cons_append, List.nil_append, List.append_assoc, List.length_append, Nat.zero_add, Nat.add_assoc, Nat.lt_add_one, Nat.zero_lt_succ, dq_0, dq_1, dq_2, dq_3, dq_4, dq_5, dq_6, dq_7, dq_8, dq_9, dq_10, dq_12]
end sw_mkk
