section sw_m3
variable {H : sw_HS} {Q : sw_Ot → sw_HS → Prop}
/-- the sum of the first n -/
def sm (g : Nat → Int) : Nat → Int
  | 0 => 0
  | n + 1 => sm g n + g n
theorem sm_b {g : Nat → Int} : ∀ (n : Nat), (∀ i, i < n → g i = 0 ∨ g i = 1) → 0 ≤ sm g n ∧ sm g n ≤ n
  | 0, _ => ⟨Int.le_refl _, Int.le_refl _⟩
  | n + 1, h => by
    have := sm_b n fun i hi => h i (by omega)
    have := h n (by omega)
    unfold sm
    omega
theorem m35_l {a n : Nat} {g : Nat → Int} (h : H.1 a = .inr (1, n, I32 g)) (hn : n < 1000) (hf : ∀ i, i < n → g i = 0 ∨ g i = 1) : ∀ (d i : Nat) (x : Option Value), i + d = n → sw_A 35 10 [some (.ref a), some (.int (Int32.ofInt (sm g i))), some (.ref a), some (.int (Int32.ofInt n)), some (.int (Int32.ofInt i)), x] [] H Q = Q (some (some (.int (Int32.ofInt (sm g n))))) H
  | 0, i, x, hd => by
    have e : i = n := hd
    subst e
    simp (disch := omega) only [r35_10, r35_12, r35_13, r35_36, r35_37, sw_ldi, sw_ldl, sw_lda, sw_has1, sw_i1, sw_i2, sw_l1, sw_l2, sw_li, sw_r1, sw_ri, sw_rix, sw_rv, sw_pop, sw_set1, sw_set2, List.set_cons_zero, List.set_cons_succ, List.getElem?_cons_zero, List.getElem?_cons_succ, ald_1, ald_2, ast_1, ast_2, aln_1, aln_2, gf_1, gf_2, pf_1, pf_2, nw_1, ck_0, ck_1, ck_2, ck_3, ck_4, rr_1, rc_1, rc_2, K_i, K_l, K_v, I_add, I_sub, I_mul, I_div, I_em, I_eq0, I_lt0, I_0lt, I_le0, I_0le, I_eq, I_lt, I_le, I_a1, I_r1, I_eq1, I32_at, I32_s, Int.toNat_natCast, List.set_cons_zero, reduceCtorEq, not_false_eq_true, not_true_eq_false, false_and, true_and, and_true, and_false, false_or, true_or, or_true, or_false, if_true, if_false, eq_self, ↓reduceIte, Int.reduceEq, Int.reduceLT, Int.reduceLE, Int.reduceAdd, Int.reduceSub, Int.reduceMul, Int.reduceNeg, Int.reduceToNat, Nat.reduceLT, Nat.reduceAdd, Nat.reduceEqDiff, List.length_cons, List.length_nil, Int.le_refl]
  | d + 1, i, x, hd => by
    have hg := hf i (by omega)
    simp (disch := omega) only [r35_10, r35_12, r35_13, r35_16, r35_17, r35_19, r35_20, r35_22, sw_ldi, sw_ldl, sw_lda, sw_has1, sw_i1, sw_i2, sw_l1, sw_l2, sw_li, sw_r1, sw_ri, sw_rix, sw_rv, sw_pop, sw_set1, sw_set2, List.set_cons_zero, List.set_cons_succ, List.getElem?_cons_zero, List.getElem?_cons_succ, ald_1, ald_2, ast_1, ast_2, aln_1, aln_2, gf_1, gf_2, pf_1, pf_2, nw_1, ck_0, ck_1, ck_2, ck_3, ck_4, rr_1, rc_1, rc_2, K_i, K_l, K_v, I_add, I_sub, I_mul, I_div, I_em, I_eq0, I_lt0, I_0lt, I_le0, I_0le, I_eq, I_lt, I_le, I_a1, I_r1, I_eq1, I32_at, I32_s, Int.toNat_natCast, List.set_cons_zero, reduceCtorEq, not_false_eq_true, not_true_eq_false, false_and, true_and, and_true, and_false, false_or, true_or, or_true, or_false, if_true, if_false, eq_self, ↓reduceIte, Int.reduceEq, Int.reduceLT, Int.reduceLE, Int.reduceAdd, Int.reduceSub, Int.reduceMul, Int.reduceNeg, Int.reduceToNat, Nat.reduceLT, Nat.reduceAdd, Nat.reduceEqDiff, List.length_cons, List.length_nil, h]
    rw [if_neg (by omega)]
    have ih := m35_l h hn hf d (i + 1) (some (.int (Int32.ofInt (g i)))) (by omega)
    have e : sm g (i + 1) = sm g i + g i := rfl
    rw [e] at ih
    simp (disch := omega) only [r35_24, r35_27, r35_30, r35_33, sw_ldi, sw_ldl, sw_lda, sw_has1, sw_i1, sw_i2, sw_l1, sw_l2, sw_li, sw_r1, sw_ri, sw_rix, sw_rv, sw_pop, sw_set1, sw_set2, List.set_cons_zero, List.set_cons_succ, List.getElem?_cons_zero, List.getElem?_cons_succ, ald_1, ald_2, ast_1, ast_2, aln_1, aln_2, gf_1, gf_2, pf_1, pf_2, nw_1, ck_0, ck_1, ck_2, ck_3, ck_4, rr_1, rc_1, rc_2, K_i, K_l, K_v, I_add, I_sub, I_mul, I_div, I_em, I_eq0, I_lt0, I_0lt, I_le0, I_0le, I_eq, I_lt, I_le, I_a1, I_r1, I_eq1, I32_at, I32_s, Int.toNat_natCast, List.set_cons_zero, reduceCtorEq, not_false_eq_true, not_true_eq_false, false_and, true_and, and_true, and_false, false_or, true_or, or_true, or_false, if_true, if_false, eq_self, ↓reduceIte, Int.reduceEq, Int.reduceLT, Int.reduceLE, Int.reduceAdd, Int.reduceSub, Int.reduceMul, Int.reduceNeg, Int.reduceToNat, Nat.reduceLT, Nat.reduceAdd, Nat.reduceEqDiff, List.length_cons, List.length_nil]
    rcases hg with q | q
    · rw [if_pos q]
      rw [q, Int.add_zero] at ih
      rw [q]
      exact ih
    · rw [if_neg (by omega)]
      rw [q] at ih
      rw [q]
      exact ih
/-- countTrue -/
theorem m35 {a n : Nat} {g : Nat → Int} (h : H.1 a = .inr (1, n, I32 g)) (hn : n < 1000) (hf : ∀ i, i < n → g i = 0 ∨ g i = 1) : sw_M 35 [.ref a] H Q = Q (some (some (.int (Int32.ofInt (sm g n))))) H := by
  rw [e35]
  simp (disch := omega) only [r35_0, r35_1, r35_2, r35_3, r35_4, r35_5, r35_6, r35_7, r35_8, sw_ldi, sw_ldl, sw_lda, sw_has1, sw_i1, sw_i2, sw_l1, sw_l2, sw_li, sw_r1, sw_ri, sw_rix, sw_rv, sw_pop, sw_set1, sw_set2, List.set_cons_zero, List.set_cons_succ, List.getElem?_cons_zero, List.getElem?_cons_succ, ald_1, ald_2, ast_1, ast_2, aln_1, aln_2, gf_1, gf_2, pf_1, pf_2, nw_1, ck_0, ck_1, ck_2, ck_3, ck_4, rr_1, rc_1, rc_2, K_i, K_l, K_v, I_add, I_sub, I_mul, I_div, I_em, I_eq0, I_lt0, I_0lt, I_le0, I_0le, I_eq, I_lt, I_le, I_a1, I_r1, I_eq1, I32_at, I32_s, Int.toNat_natCast, List.set_cons_zero, reduceCtorEq, not_false_eq_true, not_true_eq_false, false_and, true_and, and_true, and_false, false_or, true_or, or_true, or_false, if_true, if_false, eq_self, ↓reduceIte, Int.reduceEq, Int.reduceLT, Int.reduceLE, Int.reduceAdd, Int.reduceSub, Int.reduceMul, Int.reduceNeg, Int.reduceToNat, Nat.reduceLT, Nat.reduceAdd, Nat.reduceEqDiff, List.length_cons, List.length_nil, h]
  exact m35_l h hn hf n 0 none (by omega)
def fil (n : Nat) (v : Int) (g : Nat → Int) : Nat → Int := fun j => if j < n then v else g j
theorem fil_up (i : Nat) (v : Int) (g : Nat → Int) : sw_s (fil i v g) i v = fil (i + 1) v g := by
  funext j
  unfold sw_s fil
  by_cases h : j = i
  · subst h; simp
  · simp only [h, if_false]
    by_cases h2 : j < i
    · rw [if_pos h2, if_pos (by omega)]
    · rw [if_neg h2, if_neg (by omega)]
theorem fil_0 (v : Int) (g : Nat → Int) : fil 0 v g = g := by funext j; unfold fil; rw [if_neg (by omega)]
theorem fil_at {n : Nat} {v : Int} {g : Nat → Int} {j : Nat} (h : j < n) : fil n v g j = v := if_pos h
theorem wr_at (a : Nat) (c : sw_Ce) : (sw_wr H a c).1 a = c := if_pos rfl
theorem wr_ne {a b : Nat} {c : sw_Ce} (h : ¬ b = a) : (sw_wr H a c).1 b = H.1 b := if_neg h
theorem wr_wr (a : Nat) (c c2 : sw_Ce) : sw_wr (sw_wr H a c) a c2 = sw_wr H a c2 := by
  refine Prod.ext (funext fun j => ?_) rfl
  show (if j = a then c2 else if j = a then c else H.1 j) = if j = a then c2 else H.1 j
  split <;> rfl
theorem wr_id {a : Nat} {c : sw_Ce} (h : H.1 a = c) : sw_wr H a c = H := by
  refine Prod.ext (funext fun j => ?_) rfl
  show (if j = a then c else H.1 j) = H.1 j
  split
  · next e => rw [e, h]
  · rfl
theorem m104_l {a n : Nat} {g : Nat → Int} (h0 : ¬ a = 0) (hn : n < 1000) : ∀ (d i : Nat), i + d = n → sw_A 104 2 [some (.ref a), some (.int (Int32.ofInt i))] [] (sw_wr H a (.inr (1, n, I32 (fil i 0 g)))) Q = Q (some none) (sw_wr H a (.inr (1, n, I32 (fil n 0 g))))
  | 0, i, hd => by
    have e : i = n := hd
    subst e
    simp (disch := omega) only [r104_2, r104_3, r104_4, r104_5, r104_18, sw_ldi, sw_ldl, sw_lda, sw_has1, sw_i1, sw_i2, sw_l1, sw_l2, sw_li, sw_r1, sw_ri, sw_rix, sw_rv, sw_pop, sw_set1, sw_set2, List.set_cons_zero, List.set_cons_succ, List.getElem?_cons_zero, List.getElem?_cons_succ, ald_1, ald_2, ast_1, ast_2, aln_1, aln_2, gf_1, gf_2, pf_1, pf_2, nw_1, ck_0, ck_1, ck_2, ck_3, ck_4, rr_1, rc_1, rc_2, K_i, K_l, K_v, I_add, I_sub, I_mul, I_div, I_em, I_eq0, I_lt0, I_0lt, I_le0, I_0le, I_eq, I_lt, I_le, I_a1, I_r1, I_eq1, I32_at, I32_s, Int.toNat_natCast, List.set_cons_zero, reduceCtorEq, not_false_eq_true, not_true_eq_false, false_and, true_and, and_true, and_false, false_or, true_or, or_true, or_false, if_true, if_false, eq_self, ↓reduceIte, Int.reduceEq, Int.reduceLT, Int.reduceLE, Int.reduceAdd, Int.reduceSub, Int.reduceMul, Int.reduceNeg, Int.reduceToNat, Nat.reduceLT, Nat.reduceAdd, Nat.reduceEqDiff, List.length_cons, List.length_nil, wr_at, Int.le_refl]
  | d + 1, i, hd => by
    rw [r104_2]
    simp (disch := omega) only [r104_3, r104_4, r104_5, r104_8, r104_9, r104_10, r104_11, r104_12, r104_15, sw_ldi, sw_ldl, sw_lda, sw_has1, sw_i1, sw_i2, sw_l1, sw_l2, sw_li, sw_r1, sw_ri, sw_rix, sw_rv, sw_pop, sw_set1, sw_set2, List.set_cons_zero, List.set_cons_succ, List.getElem?_cons_zero, List.getElem?_cons_succ, ald_1, ald_2, ast_1, ast_2, aln_1, aln_2, gf_1, gf_2, pf_1, pf_2, nw_1, ck_0, ck_1, ck_2, ck_3, ck_4, rr_1, rc_1, rc_2, K_i, K_l, K_v, I_add, I_sub, I_mul, I_div, I_em, I_eq0, I_lt0, I_0lt, I_le0, I_0le, I_eq, I_lt, I_le, I_a1, I_r1, I_eq1, I32_at, I32_s, Int.toNat_natCast, List.set_cons_zero, reduceCtorEq, not_false_eq_true, not_true_eq_false, false_and, true_and, and_true, and_false, false_or, true_or, or_true, or_false, if_true, if_false, eq_self, ↓reduceIte, Int.reduceEq, Int.reduceLT, Int.reduceLE, Int.reduceAdd, Int.reduceSub, Int.reduceMul, Int.reduceNeg, Int.reduceToNat, Nat.reduceLT, Nat.reduceAdd, Nat.reduceEqDiff, List.length_cons, List.length_nil, wr_at, wr_wr, h0]
    rw [if_neg (by omega), fil_up]
    exact m104_l h0 hn d (i + 1) (by omega)
/-- clear -/
theorem m104 {a n : Nat} {g : Nat → Int} (h : H.1 a = .inr (1, n, I32 g)) (h0 : ¬ a = 0) (hn : n < 1000) : sw_M 104 [.ref a] H Q = Q (some none) (sw_wr H a (.inr (1, n, I32 (fil n 0 g)))) := by
  rw [e104]
  simp (disch := omega) only [r104_0, r104_1, sw_ldi, sw_ldl, sw_lda, sw_has1, sw_i1, sw_i2, sw_l1, sw_l2, sw_li, sw_r1, sw_ri, sw_rix, sw_rv, sw_pop, sw_set1, sw_set2, List.set_cons_zero, List.set_cons_succ, List.getElem?_cons_zero, List.getElem?_cons_succ, ald_1, ald_2, ast_1, ast_2, aln_1, aln_2, gf_1, gf_2, pf_1, pf_2, nw_1, ck_0, ck_1, ck_2, ck_3, ck_4, rr_1, rc_1, rc_2, K_i, K_l, K_v, I_add, I_sub, I_mul, I_div, I_em, I_eq0, I_lt0, I_0lt, I_le0, I_0le, I_eq, I_lt, I_le, I_a1, I_r1, I_eq1, I32_at, I32_s, Int.toNat_natCast, List.set_cons_zero, reduceCtorEq, not_false_eq_true, not_true_eq_false, false_and, true_and, and_true, and_false, false_or, true_or, or_true, or_false, if_true, if_false, eq_self, ↓reduceIte, Int.reduceEq, Int.reduceLT, Int.reduceLE, Int.reduceAdd, Int.reduceSub, Int.reduceMul, Int.reduceNeg, Int.reduceToNat, Nat.reduceLT, Nat.reduceAdd, Nat.reduceEqDiff, List.length_cons, List.length_nil]
  have := m104_l (H := H) (Q := Q) (g := g) h0 hn n 0 (by omega)
  rw [fil_0, wr_id h] at this
  exact this
theorem m9_l {a n : Nat} {g : Nat → Int} {v : Int} (h0 : ¬ a = 0) (hn : n < 1000) : ∀ (d i : Nat), i + d = n → sw_A 9 5 [some (.ref a), some (.int (Int32.ofInt v)), some (.int (Int32.ofInt i)), some (.int (Int32.ofInt n))] [] (sw_wr H a (.inr (0, n, I32 (fil i v g)))) Q = Q (some none) (sw_wr H a (.inr (0, n, I32 (fil n v g))))
  | 0, i, hd => by
    have e : i = n := hd
    subst e
    simp (disch := omega) only [r9_5, r9_6, r9_7, r9_20, sw_ldi, sw_ldl, sw_lda, sw_has1, sw_i1, sw_i2, sw_l1, sw_l2, sw_li, sw_r1, sw_ri, sw_rix, sw_rv, sw_pop, sw_set1, sw_set2, List.set_cons_zero, List.set_cons_succ, List.getElem?_cons_zero, List.getElem?_cons_succ, ald_1, ald_2, ast_1, ast_2, aln_1, aln_2, gf_1, gf_2, pf_1, pf_2, nw_1, ck_0, ck_1, ck_2, ck_3, ck_4, rr_1, rc_1, rc_2, K_i, K_l, K_v, I_add, I_sub, I_mul, I_div, I_em, I_eq0, I_lt0, I_0lt, I_le0, I_0le, I_eq, I_lt, I_le, I_a1, I_r1, I_eq1, I32_at, I32_s, Int.toNat_natCast, List.set_cons_zero, reduceCtorEq, not_false_eq_true, not_true_eq_false, false_and, true_and, and_true, and_false, false_or, true_or, or_true, or_false, if_true, if_false, eq_self, ↓reduceIte, Int.reduceEq, Int.reduceLT, Int.reduceLE, Int.reduceAdd, Int.reduceSub, Int.reduceMul, Int.reduceNeg, Int.reduceToNat, Nat.reduceLT, Nat.reduceAdd, Nat.reduceEqDiff, List.length_cons, List.length_nil, Int.le_refl]
  | d + 1, i, hd => by
    rw [r9_5]
    simp (disch := omega) only [r9_6, r9_7, r9_10, r9_11, r9_12, r9_13, r9_14, r9_17, sw_ldi, sw_ldl, sw_lda, sw_has1, sw_i1, sw_i2, sw_l1, sw_l2, sw_li, sw_r1, sw_ri, sw_rix, sw_rv, sw_pop, sw_set1, sw_set2, List.set_cons_zero, List.set_cons_succ, List.getElem?_cons_zero, List.getElem?_cons_succ, ald_1, ald_2, ast_1, ast_2, aln_1, aln_2, gf_1, gf_2, pf_1, pf_2, nw_1, ck_0, ck_1, ck_2, ck_3, ck_4, rr_1, rc_1, rc_2, K_i, K_l, K_v, I_add, I_sub, I_mul, I_div, I_em, I_eq0, I_lt0, I_0lt, I_le0, I_0le, I_eq, I_lt, I_le, I_a1, I_r1, I_eq1, I32_at, I32_s, Int.toNat_natCast, List.set_cons_zero, reduceCtorEq, not_false_eq_true, not_true_eq_false, false_and, true_and, and_true, and_false, false_or, true_or, or_true, or_false, if_true, if_false, eq_self, ↓reduceIte, Int.reduceEq, Int.reduceLT, Int.reduceLE, Int.reduceAdd, Int.reduceSub, Int.reduceMul, Int.reduceNeg, Int.reduceToNat, Nat.reduceLT, Nat.reduceAdd, Nat.reduceEqDiff, List.length_cons, List.length_nil, wr_at, wr_wr, h0]
    rw [if_neg (by omega), fil_up]
    exact m9_l h0 hn d (i + 1) (by omega)
/-- Arrays.fill -/
theorem m9 {a n : Nat} {g : Nat → Int} {v : Int} (h : H.1 a = .inr (0, n, I32 g)) (h0 : ¬ a = 0) (hn : n < 1000) : sw_M 9 [.ref a, .int (Int32.ofInt v)] H Q = Q (some none) (sw_wr H a (.inr (0, n, I32 (fil n v g)))) := by
  rw [e9]
  simp (disch := omega) only [r9_0, r9_1, r9_2, r9_3, r9_4, sw_ldi, sw_ldl, sw_lda, sw_has1, sw_i1, sw_i2, sw_l1, sw_l2, sw_li, sw_r1, sw_ri, sw_rix, sw_rv, sw_pop, sw_set1, sw_set2, List.set_cons_zero, List.set_cons_succ, List.getElem?_cons_zero, List.getElem?_cons_succ, ald_1, ald_2, ast_1, ast_2, aln_1, aln_2, gf_1, gf_2, pf_1, pf_2, nw_1, ck_0, ck_1, ck_2, ck_3, ck_4, rr_1, rc_1, rc_2, K_i, K_l, K_v, I_add, I_sub, I_mul, I_div, I_em, I_eq0, I_lt0, I_0lt, I_le0, I_0le, I_eq, I_lt, I_le, I_a1, I_r1, I_eq1, I32_at, I32_s, Int.toNat_natCast, List.set_cons_zero, reduceCtorEq, not_false_eq_true, not_true_eq_false, false_and, true_and, and_true, and_false, false_or, true_or, or_true, or_false, if_true, if_false, eq_self, ↓reduceIte, Int.reduceEq, Int.reduceLT, Int.reduceLE, Int.reduceAdd, Int.reduceSub, Int.reduceMul, Int.reduceNeg, Int.reduceToNat, Nat.reduceLT, Nat.reduceAdd, Nat.reduceEqDiff, List.length_cons, List.length_nil, h]
  have := m9_l (H := H) (Q := Q) (g := g) (v := v) h0 hn n 0 (by omega)
  rw [fil_0, wr_id h] at this
  exact this
end sw_m3
