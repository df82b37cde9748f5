/-! the constructor as a whole, the start of the law -/
section sw_mkl
variable {D : sw_Ce} {n m : Nat} {Q : sw_Ot → sw_HS → Prop}
def fu (x0 : sw_Ce) : List sw_Ce := [x0, .inl (11, [.ref 2, .ref 5, .ref 8, .ref 16, .ref 22, .ref 28, .ref 34, .ref 37, .ref 40, .ref 42, .ref 47, .ref 52]),
  .inl (8, [.ref 3, .ref 4]),
  ar 0 60,
  ar 0 36,
  .inl (8, [.ref 6, .ref 7]),
  ar 0 60,
  ar 0 36,
  .inl (7, [.ref 9, .ref 10, .ref 11, .int 0, .ref 12, .ref 13, .int 0, .int 0, .ref 14]),
  ar 1 36,
  ar 1 36,
  ar 1 36,
  ar 1 36,
  ar 1 36,
  .inl (10, [.ref 15, .int 0, .int 0]),
  ar 0 36,
  .inl (9, [.ref 17, .ref 18, .ref 19, .ref 20, .int 0, .int 0, .int 0]),
  ar 1 36,
  ar 1 60,
  ar 0 36,
  .inl (10, [.ref 21, .int 0, .int 0]),
  ar 0 36,
  .inl (4, [.ref 23, .ref 24, .ref 25, .ref 26]),
  ar 0 60,
  ar 1 36,
  ar 0 36,
  .inl (10, [.ref 27, .int 0, .int 0]),
  ar 0 36,
  .inl (2, [.ref 29, .ref 30, .ref 31]),
  ar 0 38,
  ar 1 60,
  .inl (3, [.ref 32, .ref 33]),
  ar 0 36,
  ar 1 36,
  .inl (0, [.ref 35, .ref 36, .int 0, .int 0, .int 0, .int 0]),
  ar 0 24,
  ar 0 16,
  .inl (3, [.ref 38, .ref 39]),
  ar 0 36,
  ar 1 36,
  .inl (6, [.ref 41, .int 0, .int 0]),
  ar 1 36,
  .inl (1, [.ref 43, .ref 44, .ref 45, .ref 46, .int 0]),
  afl,
  ar 1 12,
  ar 1 12,
  ar 0 12,
  .inl (5, [.ref 48, .ref 49, .ref 50]),
  ar 1 36,
  ar 1 36,
  .inl (10, [.ref 51, .int 0, .int 0]),
  ar 0 36,
  .inl (12, [.ref 53, .int 0, .int 0, .int 0]),
  ar 2 16]
theorem fu_l {x0 : sw_Ce} : (fu x0).length = 54 := rfl
theorem m14 {x0 : sw_Ce} : sw_M 14 [.ref 1] (hG D [x0, .inl (11, sw_df 11)] n m) Q = Q (some none) (hG D (fu x0) (n + 52) (m + 1298)) := by
  rw [e14]
  simp (disch := omega) only [r14_0, r14_1, sw_ldi, sw_ldl, sw_lda, sw_has1, sw_i1, sw_i2, sw_l1, sw_l2, sw_li, sw_r1, sw_ri, sw_rix, sw_rv, sw_pop, sw_set1, sw_set2, List.set_cons_zero, List.set_cons_succ, List.getElem?_cons_zero, List.getElem?_cons_succ, ald_1, ald_2, ast_1, ast_2, aln_1, aln_2, gf_1, gf_2, pf_1, pf_2, nw_1, ck_0, ck_1, ck_2, ck_3, ck_4, rr_1, rc_1, rc_2, K_i, K_l, K_v, I_add, I_sub, I_mul, I_div, I_em, I_eq0, I_lt0, I_0lt, I_le0, I_0le, I_eq, I_lt, I_le, I_a1, I_r1, I_eq1, I32_at, I32_s, Int.toNat_natCast, List.set_cons_zero, reduceCtorEq, not_false_eq_true, not_true_eq_false, false_and, true_and, and_true, and_false, false_or, true_or, or_true, or_false, if_true, if_false, eq_self, ↓reduceIte, Int.reduceEq, Int.reduceLT, Int.reduceLE, Int.reduceAdd, Int.reduceSub, Int.reduceMul, Int.reduceNeg, Int.reduceToNat, Nat.reduceLT, Nat.reduceAdd, Nat.reduceEqDiff, List.length_cons, List.length_nil]
  rw [show sw_df 11 = [.null, .null, .null, .null, .null, .null, .null, .null, .null, .null, .null, .null] from rfl]
  rw [k14_0]
  simp only [List.append_assoc, List.cons_append, List.nil_append, List.length_append, List.length_cons, List.length_nil, Nat.add_assoc, Nat.reduceAdd, Nat.zero_add]
  rw [k14_1]
  simp only [List.append_assoc, List.cons_append, List.nil_append, List.length_append, List.length_cons, List.length_nil, Nat.add_assoc, Nat.reduceAdd, Nat.zero_add]
  rw [k14_2]
  simp only [List.append_assoc, List.cons_append, List.nil_append, List.length_append, List.length_cons, List.length_nil, Nat.add_assoc, Nat.reduceAdd, Nat.zero_add]
  rw [k14_3]
  simp only [List.append_assoc, List.cons_append, List.nil_append, List.length_append, List.length_cons, List.length_nil, Nat.add_assoc, Nat.reduceAdd, Nat.zero_add]
  rw [k14_4]
  simp only [List.append_assoc, List.cons_append, List.nil_append, List.length_append, List.length_cons, List.length_nil, Nat.add_assoc, Nat.reduceAdd, Nat.zero_add]
  rw [k14_5]
  simp only [List.append_assoc, List.cons_append, List.nil_append, List.length_append, List.length_cons, List.length_nil, Nat.add_assoc, Nat.reduceAdd, Nat.zero_add]
  rw [k14_6]
  simp only [List.append_assoc, List.cons_append, List.nil_append, List.length_append, List.length_cons, List.length_nil, Nat.add_assoc, Nat.reduceAdd, Nat.zero_add]
  rw [k14_7]
  simp only [List.append_assoc, List.cons_append, List.nil_append, List.length_append, List.length_cons, List.length_nil, Nat.add_assoc, Nat.reduceAdd, Nat.zero_add]
  rw [k14_8]
  simp only [List.append_assoc, List.cons_append, List.nil_append, List.length_append, List.length_cons, List.length_nil, Nat.add_assoc, Nat.reduceAdd, Nat.zero_add]
  rw [k14_9]
  simp only [List.append_assoc, List.cons_append, List.nil_append, List.length_append, List.length_cons, List.length_nil, Nat.add_assoc, Nat.reduceAdd, Nat.zero_add]
  rw [k14_10]
  simp only [List.append_assoc, List.cons_append, List.nil_append, List.length_append, List.length_cons, List.length_nil, Nat.add_assoc, Nat.reduceAdd, Nat.zero_add]
  rw [k14_11]
  simp only [List.append_assoc, List.cons_append, List.nil_append, List.length_append, List.length_cons, List.length_nil, Nat.add_assoc, Nat.reduceAdd, Nat.zero_add]
  simp (disch := omega) only [r14_136, sw_ldi, sw_ldl, sw_lda, sw_has1, sw_i1, sw_i2, sw_l1, sw_l2, sw_li, sw_r1, sw_ri, sw_rix, sw_rv, sw_pop, sw_set1, sw_set2, List.set_cons_zero, List.set_cons_succ, List.getElem?_cons_zero, List.getElem?_cons_succ, ald_1, ald_2, ast_1, ast_2, aln_1, aln_2, gf_1, gf_2, pf_1, pf_2, nw_1, ck_0, ck_1, ck_2, ck_3, ck_4, rr_1, rc_1, rc_2, K_i, K_l, K_v, I_add, I_sub, I_mul, I_div, I_em, I_eq0, I_lt0, I_0lt, I_le0, I_0le, I_eq, I_lt, I_le, I_a1, I_r1, I_eq1, I32_at, I32_s, Int.toNat_natCast, List.set_cons_zero, reduceCtorEq, not_false_eq_true, not_true_eq_false, false_and, true_and, and_true, and_false, false_or, true_or, or_true, or_false, if_true, if_false, eq_self, ↓reduceIte, Int.reduceEq, Int.reduceLT, Int.reduceLE, Int.reduceAdd, Int.reduceSub, Int.reduceMul, Int.reduceNeg, Int.reduceToNat, Nat.reduceLT, Nat.reduceAdd, Nat.reduceEqDiff, List.length_cons, List.length_nil]
  rfl
theorem H0_G {L : Nat} {xs : Nat → Int32} : sw_H0 L xs = hG (.inr (0, L, xs)) [.inr (0, L, xs)] 0 0 := by
  refine Prod.ext (funext fun a => ?_) rfl
  show _ = (([Sum.inr (0, L, xs)] : List sw_Ce)[a]?).getD _
  match a with
  | 0 => rfl
  | a + 1 => rfl
def A0 (xs : Nat → Int32) : Nat → Nat → Int := fun k => if k = 0 then fun i => (xs i).toInt else if k = 43 then fil 12 100 (fun _ => 0) else fun _ => 0
def D0 (L : Nat) (xs : Nat → Int32) : Nat → sw_Ce := fun _ => .inr (0, L, xs)
theorem fu_h {L : Nat} {xs : Nat → Int32} : hG (.inr (0, L, xs)) (fu (.inr (0, L, xs)) ++ [ar 0 60, ar 0 36, ar 0 60, ar 0 36, ar 0 12]) n m = sw_h L (A0 xs) (fun _ => 0) (D0 L xs) (59, n, m) := by
  refine Prod.ext (funext fun a => ?_) rfl
  match a with
  | 0 =>
    show (Sum.inr (0, L, xs) : sw_Ce) = .inr (0, L, I32 (fun i => (xs i).toInt))
    congr 3
    funext i
    exact (Int32.ofInt_toInt _).symm
  | 1 => rfl
  | 2 => rfl
  | 3 => rfl
  | 4 => rfl
  | 5 => rfl
  | 6 => rfl
  | 7 => rfl
  | 8 => rfl
  | 9 => rfl
  | 10 => rfl
  | 11 => rfl
  | 12 => rfl
  | 13 => rfl
  | 14 => rfl
  | 15 => rfl
  | 16 => rfl
  | 17 => rfl
  | 18 => rfl
  | 19 => rfl
  | 20 => rfl
  | 21 => rfl
  | 22 => rfl
  | 23 => rfl
  | 24 => rfl
  | 25 => rfl
  | 26 => rfl
  | 27 => rfl
  | 28 => rfl
  | 29 => rfl
  | 30 => rfl
  | 31 => rfl
  | 32 => rfl
  | 33 => rfl
  | 34 => rfl
  | 35 => rfl
  | 36 => rfl
  | 37 => rfl
  | 38 => rfl
  | 39 => rfl
  | 40 => rfl
  | 41 => rfl
  | 42 => rfl
  | 43 => rfl
  | 44 => rfl
  | 45 => rfl
  | 46 => rfl
  | 47 => rfl
  | 48 => rfl
  | 49 => rfl
  | 50 => rfl
  | 51 => rfl
  | 52 => rfl
  | 53 => rfl
  | 54 => rfl
  | 55 => rfl
  | 56 => rfl
  | 57 => rfl
  | 58 => rfl
  | a + 59 =>
    show ((fu (.inr (0, L, xs)) ++ [ar 0 60, ar 0 36, ar 0 60, ar 0 36, ar 0 12])[a + 59]?).getD _ = if a + 59 < 59 then hp L (A0 xs) (fun _ => 0) (a + 59) else D0 L xs (a + 59)
    rw [if_neg (by omega), List.getElem?_eq_none (by rw [List.length_append, fu_l]; exact Nat.le_add_left _ _)]
    rfl
theorem m150_0 {L : Nat} {xs : Nat → Int32} : sw_M 150 [.ref 0] (sw_H0 L xs) Q = sw_A 150 36 [some (.ref 0), some (.ref 1), some (.ref 54), some (.ref 55), some (.ref 56), some (.ref 57), some (.ref 58), none, none, none, none, none, none, none, none, none, none, none, none, none, none, none, none, none, none, none, none, none, none, none] [] (sw_h L (A0 xs) (fun _ => 0) (D0 L xs) (59, 58, 1514)) Q := by
  rw [e150, H0_G]
  simp (disch := omega) only [r150_0, r150_3, r150_4, r150_7, r150_8, r150_10, r150_12, r150_13, r150_15, r150_17, r150_18, r150_20, r150_22, r150_24, r150_26, r150_28, r150_30, r150_32, r150_34, sw_ldi, sw_ldl, sw_lda, sw_has1, sw_i1, sw_i2, sw_l1, sw_l2, sw_li, sw_r1, sw_ri, sw_rix, sw_rv, sw_pop, sw_set1, sw_set2, List.set_cons_zero, List.set_cons_succ, List.getElem?_cons_zero, List.getElem?_cons_succ, ald_1, ald_2, ast_1, ast_2, aln_1, aln_2, gf_1, gf_2, pf_1, pf_2, nw_1, ck_0, ck_1, ck_2, ck_3, ck_4, rr_1, rc_1, rc_2, K_i, K_l, K_v, I_add, I_sub, I_mul, I_div, I_em, I_eq0, I_lt0, I_0lt, I_le0, I_0le, I_eq, I_lt, I_le, I_a1, I_r1, I_eq1, I32_at, I32_s, Int.toNat_natCast, List.set_cons_zero, reduceCtorEq, not_false_eq_true, not_true_eq_false, false_and, true_and, and_true, and_false, false_or, true_or, or_true, or_false, if_true, if_false, eq_self, ↓reduceIte, Int.reduceEq, Int.reduceLT, Int.reduceLE, Int.reduceAdd, Int.reduceSub, Int.reduceMul, Int.reduceNeg, Int.reduceToNat, Nat.reduceLT, Nat.reduceAdd, Nat.reduceEqDiff, List.length_cons, List.length_nil, hN_mk, hN_nx, List.append_assoc, List.cons_append, List.nil_append, List.length_append, List.length_cons, List.length_nil, Nat.add_assoc, Nat.reduceAdd, Nat.zero_add, m14, fu_l, ar_f]
  rw [← fu_h]
end sw_mkl
