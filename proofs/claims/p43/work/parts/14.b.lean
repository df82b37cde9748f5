/-! strike -/
def clA (A : Nat → Nat → Int) (t : Int) : Nat → Nat → Int := sw_s (sw_s (sw_s (sw_s A 9 (sw_s (A 9) t.toNat 1)) 10 (sw_s (A 10) t.toNat 0)) 11 (sw_s (A 11) t.toNat 0)) 48 (sw_s (A 48) t.toNat 0)
def stk (A : Nat → Nat → Int) : Nat → Nat → Nat → Int
  | 0 => A
  | n + 1 => if (rf (stk A n 9) 36).1 = -1 then stk A n else clA (stk A n) (rf (stk A n 9) 36).1
theorem stk_b {A : Nat → Nat → Int} (h : ∀ i, i < 36 → A 9 i = 0 ∨ A 9 i = 1) : ∀ n i, i < 36 → stk A n 9 i = 0 ∨ stk A n 9 i = 1
  | 0, i, hi => h i hi
  | n + 1, i, hi => by
    have ih := stk_b h n i hi
    unfold stk
    split
    · exact ih
    · show sw_s (stk A n 9) _ 1 i = 0 ∨ sw_s (stk A n 9) _ 1 i = 1
      unfold sw_s
      split
      · exact Or.inr rfl
      · exact ih
theorem stk_st {A : Nat → Nat → Int} {i : Nat} (h : (rf (stk A i 9) 36).1 = -1) : ∀ k, stk A (i + k) = stk A i
  | 0 => rfl
  | k + 1 => by
    have ih := stk_st h k
    show (if (rf (stk A (i + k) 9) 36).1 = -1 then stk A (i + k) else _) = _
    rw [ih, if_pos h]
section sw_u2
variable {L : Nat} {A : Nat → Nat → Int} {F : Nat → Int} {T : Nat → sw_Ce} {X : Nat × Nat × Nat} {Q : sw_Ot → sw_HS → Prop}
theorem m36_e {m : Nat} {x : Option Value} {i : Int} (hA : ∀ i, i < 36 → A 9 i = 0 ∨ A 9 i = 1) : sw_A 36 41 [some (.ref 1), some (.int (Int32.ofInt m)), some (.int (Int32.ofInt i)), x] [] (sw_h L A F T X) Q = Q (some (some (.int (Int32.ofInt (sm (A 9) 36))))) (sw_h L A F T X) := by
  simp (disch := omega) only [r36_41, r36_42, r36_45, r36_48, sw_ldi, sw_ldl, sw_lda, sw_has1, sw_i1, sw_i2, sw_l1, sw_l2, sw_li, sw_r1, sw_ri, sw_rix, sw_rv, sw_pop, sw_set1, sw_set2, List.set_cons_zero, List.set_cons_succ, List.getElem?_cons_zero, List.getElem?_cons_succ, ald_1, ald_2, ast_1, ast_2, aln_1, aln_2, gf_1, gf_2, pf_1, pf_2, nw_1, ck_0, ck_1, ck_2, ck_3, ck_4, rr_1, rc_1, rc_2, K_i, K_l, K_v, I_add, I_sub, I_mul, I_div, I_em, I_eq0, I_lt0, I_0lt, I_le0, I_0le, I_eq, I_lt, I_le, I_a1, I_r1, I_eq1, I32_at, I32_s, Int.toNat_natCast, List.set_cons_zero, reduceCtorEq, not_false_eq_true, not_true_eq_false, false_and, true_and, and_true, and_false, false_or, true_or, or_true, or_false, if_true, if_false, eq_self, ↓reduceIte, Int.reduceEq, Int.reduceLT, Int.reduceLE, Int.reduceAdd, Int.reduceSub, Int.reduceMul, Int.reduceNeg, Int.reduceToNat, Nat.reduceLT, Nat.reduceAdd, Nat.reduceEqDiff, List.length_cons, List.length_nil, h_1, h_8]
  rw [m35 h_9 (by omega) hA]
  simp (disch := omega) only [r36_51, sw_ldi, sw_ldl, sw_lda, sw_has1, sw_i1, sw_i2, sw_l1, sw_l2, sw_li, sw_r1, sw_ri, sw_rix, sw_rv, sw_pop, sw_set1, sw_set2, List.set_cons_zero, List.set_cons_succ, List.getElem?_cons_zero, List.getElem?_cons_succ, ald_1, ald_2, ast_1, ast_2, aln_1, aln_2, gf_1, gf_2, pf_1, pf_2, nw_1, ck_0, ck_1, ck_2, ck_3, ck_4, rr_1, rc_1, rc_2, K_i, K_l, K_v, I_add, I_sub, I_mul, I_div, I_em, I_eq0, I_lt0, I_0lt, I_le0, I_0le, I_eq, I_lt, I_le, I_a1, I_r1, I_eq1, I32_at, I32_s, Int.toNat_natCast, List.set_cons_zero, reduceCtorEq, not_false_eq_true, not_true_eq_false, false_and, true_and, and_true, and_false, false_or, true_or, or_true, or_false, if_true, if_false, eq_self, ↓reduceIte, Int.reduceEq, Int.reduceLT, Int.reduceLE, Int.reduceAdd, Int.reduceSub, Int.reduceMul, Int.reduceNeg, Int.reduceToNat, Nat.reduceLT, Nat.reduceAdd, Nat.reduceEqDiff, List.length_cons, List.length_nil]
theorem m36_l {m : Nat} (hm : m ≤ 36) (hA : ∀ i, i < 36 → A 9 i = 0 ∨ A 9 i = 1) : ∀ (n i : Nat) (x : Option Value), i + n = m → sw_A 36 9 [some (.ref 1), some (.int (Int32.ofInt m)), some (.int (Int32.ofInt i)), x] [] (sw_h L (stk A i) F T X) Q = Q (some (some (.int (Int32.ofInt (sm (stk A m 9) 36))))) (sw_h L (stk A m) F T X)
  | 0, i, x, hn => by
    have e : i = m := hn
    subst e
    rw [r36_9]
    simp (disch := omega) only [r36_10, r36_11, sw_ldi, sw_ldl, sw_lda, sw_has1, sw_i1, sw_i2, sw_l1, sw_l2, sw_li, sw_r1, sw_ri, sw_rix, sw_rv, sw_pop, sw_set1, sw_set2, List.set_cons_zero, List.set_cons_succ, List.getElem?_cons_zero, List.getElem?_cons_succ, ald_1, ald_2, ast_1, ast_2, aln_1, aln_2, gf_1, gf_2, pf_1, pf_2, nw_1, ck_0, ck_1, ck_2, ck_3, ck_4, rr_1, rc_1, rc_2, K_i, K_l, K_v, I_add, I_sub, I_mul, I_div, I_em, I_eq0, I_lt0, I_0lt, I_le0, I_0le, I_eq, I_lt, I_le, I_a1, I_r1, I_eq1, I32_at, I32_s, Int.toNat_natCast, List.set_cons_zero, reduceCtorEq, not_false_eq_true, not_true_eq_false, false_and, true_and, and_true, and_false, false_or, true_or, or_true, or_false, if_true, if_false, eq_self, ↓reduceIte, Int.reduceEq, Int.reduceLT, Int.reduceLE, Int.reduceAdd, Int.reduceSub, Int.reduceMul, Int.reduceNeg, Int.reduceToNat, Nat.reduceLT, Nat.reduceAdd, Nat.reduceEqDiff, List.length_cons, List.length_nil, Int.le_refl]
    exact m36_e (stk_b hA i)
  | n + 1, i, x, hn => by
    have hb := stk_b hA i
    have rb := rf_b (stk A i 9) 36
    have mm := m34 (L := L) (A := stk A i) (F := F) (T := T) (X := X) (Q := sw_K 36 21 none [some (.ref 1), some (.int (Int32.ofInt m)), some (.int (Int32.ofInt i)), x] [] Q) hb
    rw [r36_9]
    simp (disch := omega) only [r36_10, r36_11, r36_14, r36_15, r36_18, sw_ldi, sw_ldl, sw_lda, sw_has1, sw_i1, sw_i2, sw_l1, sw_l2, sw_li, sw_r1, sw_ri, sw_rix, sw_rv, sw_pop, sw_set1, sw_set2, List.set_cons_zero, List.set_cons_succ, List.getElem?_cons_zero, List.getElem?_cons_succ, ald_1, ald_2, ast_1, ast_2, aln_1, aln_2, gf_1, gf_2, pf_1, pf_2, nw_1, ck_0, ck_1, ck_2, ck_3, ck_4, rr_1, rc_1, rc_2, K_i, K_l, K_v, I_add, I_sub, I_mul, I_div, I_em, I_eq0, I_lt0, I_0lt, I_le0, I_0le, I_eq, I_lt, I_le, I_a1, I_r1, I_eq1, I32_at, I32_s, Int.toNat_natCast, List.set_cons_zero, reduceCtorEq, not_false_eq_true, not_true_eq_false, false_and, true_and, and_true, and_false, false_or, true_or, or_true, or_false, if_true, if_false, eq_self, ↓reduceIte, Int.reduceEq, Int.reduceLT, Int.reduceLE, Int.reduceAdd, Int.reduceSub, Int.reduceMul, Int.reduceNeg, Int.reduceToNat, Nat.reduceLT, Nat.reduceAdd, Nat.reduceEqDiff, List.length_cons, List.length_nil, h_1, h_8]
    rw [if_neg (by omega), mm]
    by_cases c : (rf (stk A i 9) 36).1 = -1
    · have e : stk A m = stk A i := by rw [← hn]; exact stk_st c (n + 1)
      rw [e, c]
      simp (disch := omega) only [r36_21, r36_22, r36_23, r36_24, r36_27, sw_ldi, sw_ldl, sw_lda, sw_has1, sw_i1, sw_i2, sw_l1, sw_l2, sw_li, sw_r1, sw_ri, sw_rix, sw_rv, sw_pop, sw_set1, sw_set2, List.set_cons_zero, List.set_cons_succ, List.getElem?_cons_zero, List.getElem?_cons_succ, ald_1, ald_2, ast_1, ast_2, aln_1, aln_2, gf_1, gf_2, pf_1, pf_2, nw_1, ck_0, ck_1, ck_2, ck_3, ck_4, rr_1, rc_1, rc_2, K_i, K_l, K_v, I_add, I_sub, I_mul, I_div, I_em, I_eq0, I_lt0, I_0lt, I_le0, I_0le, I_eq, I_lt, I_le, I_a1, I_r1, I_eq1, I32_at, I32_s, Int.toNat_natCast, List.set_cons_zero, reduceCtorEq, not_false_eq_true, not_true_eq_false, false_and, true_and, and_true, and_false, false_or, true_or, or_true, or_false, if_true, if_false, eq_self, ↓reduceIte, Int.reduceEq, Int.reduceLT, Int.reduceLE, Int.reduceAdd, Int.reduceSub, Int.reduceMul, Int.reduceNeg, Int.reduceToNat, Nat.reduceLT, Nat.reduceAdd, Nat.reduceEqDiff, List.length_cons, List.length_nil]
      exact m36_e hb
    · have ih := m36_l hm hA n (i + 1) (some (.int (Int32.ofInt (rf (stk A i 9) 36).1))) (by omega)
      have e : stk A (i + 1) = clA (stk A i) (rf (stk A i 9) 36).1 := if_neg c
      rw [e] at ih
      refine Eq.trans ?_ ih
      simp (disch := omega) only [r36_21, r36_22, r36_23, r36_24, sw_ldi, sw_ldl, sw_lda, sw_has1, sw_i1, sw_i2, sw_l1, sw_l2, sw_li, sw_r1, sw_ri, sw_rix, sw_rv, sw_pop, sw_set1, sw_set2, List.set_cons_zero, List.set_cons_succ, List.getElem?_cons_zero, List.getElem?_cons_succ, ald_1, ald_2, ast_1, ast_2, aln_1, aln_2, gf_1, gf_2, pf_1, pf_2, nw_1, ck_0, ck_1, ck_2, ck_3, ck_4, rr_1, rc_1, rc_2, K_i, K_l, K_v, I_add, I_sub, I_mul, I_div, I_em, I_eq0, I_lt0, I_0lt, I_le0, I_0le, I_eq, I_lt, I_le, I_a1, I_r1, I_eq1, I32_at, I32_s, Int.toNat_natCast, List.set_cons_zero, reduceCtorEq, not_false_eq_true, not_true_eq_false, false_and, true_and, and_true, and_false, false_or, true_or, or_true, or_false, if_true, if_false, eq_self, ↓reduceIte, Int.reduceEq, Int.reduceLT, Int.reduceLE, Int.reduceAdd, Int.reduceSub, Int.reduceMul, Int.reduceNeg, Int.reduceToNat, Nat.reduceLT, Nat.reduceAdd, Nat.reduceEqDiff, List.length_cons, List.length_nil]
      rw [if_pos c]
      simp (disch := omega) only [r36_30, r36_31, r36_32, r36_35, r36_38, sw_ldi, sw_ldl, sw_lda, sw_has1, sw_i1, sw_i2, sw_l1, sw_l2, sw_li, sw_r1, sw_ri, sw_rix, sw_rv, sw_pop, sw_set1, sw_set2, List.set_cons_zero, List.set_cons_succ, List.getElem?_cons_zero, List.getElem?_cons_succ, ald_1, ald_2, ast_1, ast_2, aln_1, aln_2, gf_1, gf_2, pf_1, pf_2, nw_1, ck_0, ck_1, ck_2, ck_3, ck_4, rr_1, rc_1, rc_2, K_i, K_l, K_v, I_add, I_sub, I_mul, I_div, I_em, I_eq0, I_lt0, I_0lt, I_le0, I_0le, I_eq, I_lt, I_le, I_a1, I_r1, I_eq1, I32_at, I32_s, Int.toNat_natCast, List.set_cons_zero, reduceCtorEq, not_false_eq_true, not_true_eq_false, false_and, true_and, and_true, and_false, false_or, true_or, or_true, or_false, if_true, if_false, eq_self, ↓reduceIte, Int.reduceEq, Int.reduceLT, Int.reduceLE, Int.reduceAdd, Int.reduceSub, Int.reduceMul, Int.reduceNeg, Int.reduceToNat, Nat.reduceLT, Nat.reduceAdd, Nat.reduceEqDiff, List.length_cons, List.length_nil, m28]
      rfl
/-- strike -/
theorem m36 {m : Nat} (hm : m ≤ 36) (hA : ∀ i, i < 36 → A 9 i = 0 ∨ A 9 i = 1) : sw_M 36 [.ref 1, .int (Int32.ofInt m)] (sw_h L A F T X) Q = Q (some (some (.int (Int32.ofInt (sm (stk A m 9) 36))))) (sw_h L (stk A m) F T X) := by
  rw [e36]
  simp (disch := omega) only [r36_0, r36_1, r36_2, r36_4, r36_7, r36_8, sw_ldi, sw_ldl, sw_lda, sw_has1, sw_i1, sw_i2, sw_l1, sw_l2, sw_li, sw_r1, sw_ri, sw_rix, sw_rv, sw_pop, sw_set1, sw_set2, List.set_cons_zero, List.set_cons_succ, List.getElem?_cons_zero, List.getElem?_cons_succ, ald_1, ald_2, ast_1, ast_2, aln_1, aln_2, gf_1, gf_2, pf_1, pf_2, nw_1, ck_0, ck_1, ck_2, ck_3, ck_4, rr_1, rc_1, rc_2, K_i, K_l, K_v, I_add, I_sub, I_mul, I_div, I_em, I_eq0, I_lt0, I_0lt, I_le0, I_0le, I_eq, I_lt, I_le, I_a1, I_r1, I_eq1, I32_at, I32_s, Int.toNat_natCast, List.set_cons_zero, reduceCtorEq, not_false_eq_true, not_true_eq_false, false_and, true_and, and_true, and_false, false_or, true_or, or_true, or_false, if_true, if_false, eq_self, ↓reduceIte, Int.reduceEq, Int.reduceLT, Int.reduceLE, Int.reduceAdd, Int.reduceSub, Int.reduceMul, Int.reduceNeg, Int.reduceToNat, Nat.reduceLT, Nat.reduceAdd, Nat.reduceEqDiff, List.length_cons, List.length_nil, m17]
  exact m36_l hm hA m 0 none (by omega)
end sw_u2
