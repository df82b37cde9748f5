/-! cluster -/
theorem fst1_c {p q : Nat → Bool} : ∀ (n k : Nat), (∀ t, k ≤ t → t < k + n → p t = q t) → fst1 p n k = fst1 q n k
  | 0, _, _ => rfl
  | n + 1, k, h => by
    unfold fst1
    rw [h k (by omega) (by omega), fst1_c n (k + 1) fun t h1 h2 => h t (by omega) (by omega)]
theorem fst1_none {p : Nat → Bool} : ∀ (n k : Nat), (∀ t, k ≤ t → t < k + n → p t = false) → fst1 p n k = -1
  | 0, _, _ => rfl
  | n + 1, k, h => by
    unfold fst1
    rw [if_neg (by rw [h k (by omega) (by omega)]; exact Bool.false_ne_true), fst1_none n (k + 1) fun t h1 h2 => h t (by omega) (by omega)]
theorem rsV_no (st : Nat → Int) : rsV (fun _ => false) st = st := by
  funext t
  exact if_neg Bool.false_ne_true
section sw_m13
variable {L : Nat} {A : Nat → Nat → Int} {F : Nat → Int} {T : Nat → sw_Ce} {X : Nat × Nat × Nat} {Q : sw_Ot → sw_HS → Prop}
theorem m98_l {st : Nat → Int} {k : Nat} (hk : k < 36) (hA : A 19 = st) (hst : ∀ t, t < 36 → -1 ≤ st t ∧ st t < 100) (h0 : 0 ≤ st k) : ∀ (n i : Nat), i + n = k → sw_A 98 27 [some (.ref 16), some (.int (Int32.ofInt k)), some (.int (Int32.ofInt i))] [] (sw_h L A F T X) Q = Q (some (some (.int (Int32.ofInt (fst1 (fun t => decide (0 ≤ st t)) (36 - i) i))))) (sw_h L A F T X)
  | 0, i, hn => by
    have e : i = k := hn
    subst e
    rw [r98_27]
    simp (disch := omega) only [r98_28, r98_29, r98_48, r98_49, sw_ldi, sw_ldl, sw_lda, sw_has1, sw_i1, sw_i2, sw_l1, sw_l2, sw_li, sw_r1, sw_ri, sw_rix, sw_rv, sw_pop, sw_set1, sw_set2, List.set_cons_zero, List.set_cons_succ, List.getElem?_cons_zero, List.getElem?_cons_succ, ald_1, ald_2, ast_1, ast_2, aln_1, aln_2, gf_1, gf_2, pf_1, pf_2, nw_1, ck_0, ck_1, ck_2, ck_3, ck_4, rr_1, rc_1, rc_2, K_i, K_l, K_v, I_add, I_sub, I_mul, I_div, I_em, I_eq0, I_lt0, I_0lt, I_le0, I_0le, I_eq, I_lt, I_le, I_a1, I_r1, I_eq1, I32_at, I32_s, Int.toNat_natCast, List.set_cons_zero, reduceCtorEq, not_false_eq_true, not_true_eq_false, false_and, true_and, and_true, and_false, false_or, true_or, or_true, or_false, if_true, if_false, eq_self, ↓reduceIte, Int.reduceEq, Int.reduceLT, Int.reduceLE, Int.reduceAdd, Int.reduceSub, Int.reduceMul, Int.reduceNeg, Int.reduceToNat, Nat.reduceLT, Nat.reduceAdd, Nat.reduceEqDiff, List.length_cons, List.length_nil, Int.le_refl]
    rw [show 36 - i = (35 - i) + 1 by omega]
    unfold fst1
    rw [if_pos (decide_eq_true h0)]
  | n + 1, i, hn => by
    have b := hst i (by omega)
    have ih := m98_l hk hA hst h0 n (i + 1) (by omega)
    have e : fst1 (fun t => decide (0 ≤ st t)) (36 - i) i = if decide (0 ≤ st i) = true then (i : Int) else fst1 (fun t => decide (0 ≤ st t)) (36 - (i + 1)) (i + 1) := by
      rw [show 36 - i = (36 - (i + 1)) + 1 by omega]
      rfl
    rw [e, r98_27]
    simp (disch := omega) only [r98_28, r98_29, r98_32, r98_33, r98_36, r98_37, r98_38, r98_39, r98_42, r98_45, sw_ldi, sw_ldl, sw_lda, sw_has1, sw_i1, sw_i2, sw_l1, sw_l2, sw_li, sw_r1, sw_ri, sw_rix, sw_rv, sw_pop, sw_set1, sw_set2, List.set_cons_zero, List.set_cons_succ, List.getElem?_cons_zero, List.getElem?_cons_succ, ald_1, ald_2, ast_1, ast_2, aln_1, aln_2, gf_1, gf_2, pf_1, pf_2, nw_1, ck_0, ck_1, ck_2, ck_3, ck_4, rr_1, rc_1, rc_2, K_i, K_l, K_v, I_add, I_sub, I_mul, I_div, I_em, I_eq0, I_lt0, I_0lt, I_le0, I_0le, I_eq, I_lt, I_le, I_a1, I_r1, I_eq1, I32_at, I32_s, Int.toNat_natCast, List.set_cons_zero, reduceCtorEq, not_false_eq_true, not_true_eq_false, false_and, true_and, and_true, and_false, false_or, true_or, or_true, or_false, if_true, if_false, eq_self, ↓reduceIte, Int.reduceEq, Int.reduceLT, Int.reduceLE, Int.reduceAdd, Int.reduceSub, Int.reduceMul, Int.reduceNeg, Int.reduceToNat, Nat.reduceLT, Nat.reduceAdd, Nat.reduceEqDiff, List.length_cons, List.length_nil, h_16, h_19, hA]
    rw [if_neg (by omega)]
    by_cases c : st i = -1
    · rw [if_neg (by omega), if_neg (by rw [decide_eq_false (by omega)]; exact Bool.false_ne_true)]
      exact ih
    · rw [if_pos c, if_pos (decide_eq_true (by omega))]
      simp (disch := omega) only [r98_48, r98_49, sw_ldi, sw_ldl, sw_lda, sw_has1, sw_i1, sw_i2, sw_l1, sw_l2, sw_li, sw_r1, sw_ri, sw_rix, sw_rv, sw_pop, sw_set1, sw_set2, List.set_cons_zero, List.set_cons_succ, List.getElem?_cons_zero, List.getElem?_cons_succ, ald_1, ald_2, ast_1, ast_2, aln_1, aln_2, gf_1, gf_2, pf_1, pf_2, nw_1, ck_0, ck_1, ck_2, ck_3, ck_4, rr_1, rc_1, rc_2, K_i, K_l, K_v, I_add, I_sub, I_mul, I_div, I_em, I_eq0, I_lt0, I_0lt, I_le0, I_0le, I_eq, I_lt, I_le, I_a1, I_r1, I_eq1, I32_at, I32_s, Int.toNat_natCast, List.set_cons_zero, reduceCtorEq, not_false_eq_true, not_true_eq_false, false_and, true_and, and_true, and_false, false_or, true_or, or_true, or_false, if_true, if_false, eq_self, ↓reduceIte, Int.reduceEq, Int.reduceLT, Int.reduceLE, Int.reduceAdd, Int.reduceSub, Int.reduceMul, Int.reduceNeg, Int.reduceToNat, Nat.reduceLT, Nat.reduceAdd, Nat.reduceEqDiff, List.length_cons, List.length_nil]
/-- lowestOfCluster -/
theorem m98_c {k : Nat} (hk : k < 36) (h : A 17 k = 0) : sw_M 98 [.ref 16, .int (Int32.ofInt k)] (sw_h L A F T X) Q = Q (some (some (.int (Int32.ofInt (-1))))) (sw_h L A F T X) := by
  rw [e98]
  simp (disch := omega) only [r98_0, r98_1, r98_4, r98_5, r98_6, r98_9, r98_10, sw_ldi, sw_ldl, sw_lda, sw_has1, sw_i1, sw_i2, sw_l1, sw_l2, sw_li, sw_r1, sw_ri, sw_rix, sw_rv, sw_pop, sw_set1, sw_set2, List.set_cons_zero, List.set_cons_succ, List.getElem?_cons_zero, List.getElem?_cons_succ, ald_1, ald_2, ast_1, ast_2, aln_1, aln_2, gf_1, gf_2, pf_1, pf_2, nw_1, ck_0, ck_1, ck_2, ck_3, ck_4, rr_1, rc_1, rc_2, K_i, K_l, K_v, I_add, I_sub, I_mul, I_div, I_em, I_eq0, I_lt0, I_0lt, I_le0, I_0le, I_eq, I_lt, I_le, I_a1, I_r1, I_eq1, I32_at, I32_s, Int.toNat_natCast, List.set_cons_zero, reduceCtorEq, not_false_eq_true, not_true_eq_false, false_and, true_and, and_true, and_false, false_or, true_or, or_true, or_false, if_true, if_false, eq_self, ↓reduceIte, Int.reduceEq, Int.reduceLT, Int.reduceLE, Int.reduceAdd, Int.reduceSub, Int.reduceMul, Int.reduceNeg, Int.reduceToNat, Nat.reduceLT, Nat.reduceAdd, Nat.reduceEqDiff, List.length_cons, List.length_nil, h_16, h_17, h]
theorem m98 {k : Nat} (hk : k < 36) (h : A 17 k = 1) (hob : ∀ b, b < 60 → A 18 b = 0 ∨ A 18 b = 1) : ∃ σ2 : sw_B3, BD (A 18) (fun t => t = k) σ2.1 σ2.2.2 ∧ sw_M 98 [.ref 16, .int (Int32.ofInt k)] (sw_h L A F T X) Q = Q (some (some (.int (Int32.ofInt (fst1 (fun t => decide (0 ≤ σ2.1 t)) 36 0))))) (hB L A F T X σ2 σ2.2.2) := by
  have mm := m9 (H := sw_h L A F T X) (a := 19) (n := 36) (g := A 19) (v := -1) (Q := sw_K 98 19 none [some (.ref 16), some (.int (Int32.ofInt k)), none] [] Q) h_19 (by decide) (by decide)
  rw [w_19] at mm
  obtain ⟨σ2, g1, g2, g3⟩ := m97 (L := L) (A := sw_s A 19 (fil 36 (-1) (A 19))) (F := F) (T := T) (X := X) (Q := sw_K 98 24 none [some (.ref 16), some (.int (Int32.ofInt k)), none] [] Q) (v := fun _ => false) (k := k) hk hob ⟨fun s t _ _ _ q => (by cases q), fun t _ q => (by cases q)⟩ (fun t ht _ => fil_at ht) rfl
  rw [rsV_no] at g1
  refine ⟨σ2, g1, ?_⟩
  rw [e98]
  simp (disch := omega) only [r98_0, r98_1, r98_4, r98_5, r98_6, r98_9, r98_10, r98_11, r98_12, r98_15, r98_16, sw_ldi, sw_ldl, sw_lda, sw_has1, sw_i1, sw_i2, sw_l1, sw_l2, sw_li, sw_r1, sw_ri, sw_rix, sw_rv, sw_pop, sw_set1, sw_set2, List.set_cons_zero, List.set_cons_succ, List.getElem?_cons_zero, List.getElem?_cons_succ, ald_1, ald_2, ast_1, ast_2, aln_1, aln_2, gf_1, gf_2, pf_1, pf_2, nw_1, ck_0, ck_1, ck_2, ck_3, ck_4, rr_1, rc_1, rc_2, K_i, K_l, K_v, I_add, I_sub, I_mul, I_div, I_em, I_eq0, I_lt0, I_0lt, I_le0, I_0le, I_eq, I_lt, I_le, I_a1, I_r1, I_eq1, I32_at, I32_s, Int.toNat_natCast, List.set_cons_zero, reduceCtorEq, not_false_eq_true, not_true_eq_false, false_and, true_and, and_true, and_false, false_or, true_or, or_true, or_false, if_true, if_false, eq_self, ↓reduceIte, Int.reduceEq, Int.reduceLT, Int.reduceLE, Int.reduceAdd, Int.reduceSub, Int.reduceMul, Int.reduceNeg, Int.reduceToNat, Nat.reduceLT, Nat.reduceAdd, Nat.reduceEqDiff, List.length_cons, List.length_nil, h_16, h_17, h]
  rw [mm]
  simp (disch := omega) only [r98_19, r98_20, r98_21, sw_ldi, sw_ldl, sw_lda, sw_has1, sw_i1, sw_i2, sw_l1, sw_l2, sw_li, sw_r1, sw_ri, sw_rix, sw_rv, sw_pop, sw_set1, sw_set2, List.set_cons_zero, List.set_cons_succ, List.getElem?_cons_zero, List.getElem?_cons_succ, ald_1, ald_2, ast_1, ast_2, aln_1, aln_2, gf_1, gf_2, pf_1, pf_2, nw_1, ck_0, ck_1, ck_2, ck_3, ck_4, rr_1, rc_1, rc_2, K_i, K_l, K_v, I_add, I_sub, I_mul, I_div, I_em, I_eq0, I_lt0, I_0lt, I_le0, I_0le, I_eq, I_lt, I_le, I_a1, I_r1, I_eq1, I32_at, I32_s, Int.toNat_natCast, List.set_cons_zero, reduceCtorEq, not_false_eq_true, not_true_eq_false, false_and, true_and, and_true, and_false, false_or, true_or, or_true, or_false, if_true, if_false, eq_self, ↓reduceIte, Int.reduceEq, Int.reduceLT, Int.reduceLE, Int.reduceAdd, Int.reduceSub, Int.reduceMul, Int.reduceNeg, Int.reduceToNat, Nat.reduceLT, Nat.reduceAdd, Nat.reduceEqDiff, List.length_cons, List.length_nil, h_16]
  rw [g3]
  have z0 := cr_b σ2.1 36
  have z1 : cr σ2.1 36 = σ2.2.2 := g1.2.1
  simp (disch := omega) only [r98_24, r98_25, r98_26, sw_ldi, sw_ldl, sw_lda, sw_has1, sw_i1, sw_i2, sw_l1, sw_l2, sw_li, sw_r1, sw_ri, sw_rix, sw_rv, sw_pop, sw_set1, sw_set2, List.set_cons_zero, List.set_cons_succ, List.getElem?_cons_zero, List.getElem?_cons_succ, ald_1, ald_2, ast_1, ast_2, aln_1, aln_2, gf_1, gf_2, pf_1, pf_2, nw_1, ck_0, ck_1, ck_2, ck_3, ck_4, rr_1, rc_1, rc_2, K_i, K_l, K_v, I_add, I_sub, I_mul, I_div, I_em, I_eq0, I_lt0, I_0lt, I_le0, I_0le, I_eq, I_lt, I_le, I_a1, I_r1, I_eq1, I32_at, I32_s, Int.toNat_natCast, List.set_cons_zero, reduceCtorEq, not_false_eq_true, not_true_eq_false, false_and, true_and, and_true, and_false, false_or, true_or, or_true, or_false, if_true, if_false, eq_self, ↓reduceIte, Int.reduceEq, Int.reduceLT, Int.reduceLE, Int.reduceAdd, Int.reduceSub, Int.reduceMul, Int.reduceNeg, Int.reduceToNat, Nat.reduceLT, Nat.reduceAdd, Nat.reduceEqDiff, List.length_cons, List.length_nil]
  have e : hB L (sw_s A 19 (fil 36 (-1) (A 19))) F T X σ2 σ2.2.2 = hB L A F T X σ2 σ2.2.2 := by
    unfold hB
    rw [ss]
  rw [e]
  unfold hB
  exact m98_l (A := sw_s (sw_s A 19 σ2.1) 21 σ2.2.1) (st := σ2.1) hk rfl g1.1 (by rw [g1.2.2.1 k hk rfl]; decide) k 0 (by omega)
/-- cluster -/
theorem m99 {k p : Int} {t : Nat} (ht : t < 36) (hA : Nm A) (k0 : 0 ≤ k) (k1 : k ≤ 2) (p0 : 0 ≤ p) (p1 : p ≤ 1000)
    (hQ0 : os2 A k p t = 0 → ∀ (B : Nat → Nat → Int), Fm A B → Q (some (some (.int (Int32.ofInt (-1))))) (sw_h L B F T X))
    (hQ : os2 A k p t = 1 → ∀ (B : Nat → Nat → Int) (G : Nat → Int) (st : Nat → Int) (z : Int), Fm A B → (∀ j, j < 8 → G j = F j) → (∀ j, 9 < j → G j = F j) → BD (ob2 A k p) (fun u => u = t) st z → Q (some (some (.int (Int32.ofInt (fst1 (fun t => decide (0 ≤ st t)) 36 0))))) (sw_h L B G T X)) :
    sw_M 99 [.ref 1, .int (Int32.ofInt k), .int (Int32.ofInt p), .int (Int32.ofInt t)] (sw_h L A F T X) Q := by
  rw [e99]
  simp (disch := omega) only [r99_0, r99_1, r99_4, r99_5, r99_6, r99_7, sw_ldi, sw_ldl, sw_lda, sw_has1, sw_i1, sw_i2, sw_l1, sw_l2, sw_li, sw_r1, sw_ri, sw_rix, sw_rv, sw_pop, sw_set1, sw_set2, List.set_cons_zero, List.set_cons_succ, List.getElem?_cons_zero, List.getElem?_cons_succ, ald_1, ald_2, ast_1, ast_2, aln_1, aln_2, gf_1, gf_2, pf_1, pf_2, nw_1, ck_0, ck_1, ck_2, ck_3, ck_4, rr_1, rc_1, rc_2, K_i, K_l, K_v, I_add, I_sub, I_mul, I_div, I_em, I_eq0, I_lt0, I_0lt, I_le0, I_0le, I_eq, I_lt, I_le, I_a1, I_r1, I_eq1, I32_at, I32_s, Int.toNat_natCast, List.set_cons_zero, reduceCtorEq, not_false_eq_true, not_true_eq_false, false_and, true_and, and_true, and_false, false_or, true_or, or_true, or_false, if_true, if_false, eq_self, ↓reduceIte, Int.reduceEq, Int.reduceLT, Int.reduceLE, Int.reduceAdd, Int.reduceSub, Int.reduceMul, Int.reduceNeg, Int.reduceToNat, Nat.reduceLT, Nat.reduceAdd, Nat.reduceEqDiff, List.length_cons, List.length_nil, m25, h_1]
  rw [m95 hA k0 k1 p0 p1]
  simp (disch := omega) only [r99_10, r99_11, r99_14, r99_15, sw_ldi, sw_ldl, sw_lda, sw_has1, sw_i1, sw_i2, sw_l1, sw_l2, sw_li, sw_r1, sw_ri, sw_rix, sw_rv, sw_pop, sw_set1, sw_set2, List.set_cons_zero, List.set_cons_succ, List.getElem?_cons_zero, List.getElem?_cons_succ, ald_1, ald_2, ast_1, ast_2, aln_1, aln_2, gf_1, gf_2, pf_1, pf_2, nw_1, ck_0, ck_1, ck_2, ck_3, ck_4, rr_1, rc_1, rc_2, K_i, K_l, K_v, I_add, I_sub, I_mul, I_div, I_em, I_eq0, I_lt0, I_0lt, I_le0, I_0le, I_eq, I_lt, I_le, I_a1, I_r1, I_eq1, I32_at, I32_s, Int.toNat_natCast, List.set_cons_zero, reduceCtorEq, not_false_eq_true, not_true_eq_false, false_and, true_and, and_true, and_false, false_or, true_or, or_true, or_false, if_true, if_false, eq_self, ↓reduceIte, Int.reduceEq, Int.reduceLT, Int.reduceLE, Int.reduceAdd, Int.reduceSub, Int.reduceMul, Int.reduceNeg, Int.reduceToNat, Nat.reduceLT, Nat.reduceAdd, Nat.reduceEqDiff, List.length_cons, List.length_nil, h_1, h_16]
  rcases os2_b (A := A) (k := k) (p := p) t with c | c
  · rw [m98_c ht (by rw [hO_17 ht]; exact c)]
    simp (disch := omega) only [r99_18, sw_ldi, sw_ldl, sw_lda, sw_has1, sw_i1, sw_i2, sw_l1, sw_l2, sw_li, sw_r1, sw_ri, sw_rix, sw_rv, sw_pop, sw_set1, sw_set2, List.set_cons_zero, List.set_cons_succ, List.getElem?_cons_zero, List.getElem?_cons_succ, ald_1, ald_2, ast_1, ast_2, aln_1, aln_2, gf_1, gf_2, pf_1, pf_2, nw_1, ck_0, ck_1, ck_2, ck_3, ck_4, rr_1, rc_1, rc_2, K_i, K_l, K_v, I_add, I_sub, I_mul, I_div, I_em, I_eq0, I_lt0, I_0lt, I_le0, I_0le, I_eq, I_lt, I_le, I_a1, I_r1, I_eq1, I32_at, I32_s, Int.toNat_natCast, List.set_cons_zero, reduceCtorEq, not_false_eq_true, not_true_eq_false, false_and, true_and, and_true, and_false, false_or, true_or, or_true, or_false, if_true, if_false, eq_self, ↓reduceIte, Int.reduceEq, Int.reduceLT, Int.reduceLE, Int.reduceAdd, Int.reduceSub, Int.reduceMul, Int.reduceNeg, Int.reduceToNat, Nat.reduceLT, Nat.reduceAdd, Nat.reduceEqDiff, List.length_cons, List.length_nil]
    exact hQ0 c _ Fm_O
  · obtain ⟨σ2, g1, g2⟩ := m98 (L := L) (A := hO A k p) (F := F) (T := T) (X := X) (Q := sw_K 99 18 none [some (.ref 1), some (.int (Int32.ofInt k)), some (.int (Int32.ofInt p)), some (.int (Int32.ofInt t))] [] Q) ht (by rw [hO_17 ht]; exact c) hO_ob
    rw [g2]
    simp (disch := omega) only [r99_18, sw_ldi, sw_ldl, sw_lda, sw_has1, sw_i1, sw_i2, sw_l1, sw_l2, sw_li, sw_r1, sw_ri, sw_rix, sw_rv, sw_pop, sw_set1, sw_set2, List.set_cons_zero, List.set_cons_succ, List.getElem?_cons_zero, List.getElem?_cons_succ, ald_1, ald_2, ast_1, ast_2, aln_1, aln_2, gf_1, gf_2, pf_1, pf_2, nw_1, ck_0, ck_1, ck_2, ck_3, ck_4, rr_1, rc_1, rc_2, K_i, K_l, K_v, I_add, I_sub, I_mul, I_div, I_em, I_eq0, I_lt0, I_0lt, I_le0, I_0le, I_eq, I_lt, I_le, I_a1, I_r1, I_eq1, I32_at, I32_s, Int.toNat_natCast, List.set_cons_zero, reduceCtorEq, not_false_eq_true, not_true_eq_false, false_and, true_and, and_true, and_false, false_or, true_or, or_true, or_false, if_true, if_false, eq_self, ↓reduceIte, Int.reduceEq, Int.reduceLT, Int.reduceLE, Int.reduceAdd, Int.reduceSub, Int.reduceMul, Int.reduceNeg, Int.reduceToNat, Nat.reduceLT, Nat.reduceAdd, Nat.reduceEqDiff, List.length_cons, List.length_nil]
    exact hQ c _ _ σ2.1 σ2.2.2 (Fm_t Fm_O (Fm_2 rfl rfl)) (fun j hj => by unfold sw_s; rw [if_neg (by omega), if_neg (by omega)]) (fun j hj => by unfold sw_s; rw [if_neg (by omega), if_neg (by omega)]) (BD_c (fun b hb2 => hO_18 hb2) (fun _ _ => Iff.rfl) g1)
end sw_m13
/-- cluster is the lowest of what has grown from the site -/
theorem cluster_eq {A : Nat → Nat → Int} {nb ns : Nat → Int} {shut r : Int64} {k p : Int} {t : Nat} {st : Nat → Int} {z : Int} (ht : t < 36) (hA : Nm A) (hS : Sm A nb ns shut) (ho : os2 A k p t = 1) (b : BD (ob2 A k p) (fun u => u = t) st z) (g : Gr (leb nb ns shut k p (-1)) (gs shut (wb 0 t) ns k p 36) r) : fst1 (fun t => decide (0 ≤ st t)) 36 0 = fst1 (hb r) 36 0 := by
  apply fst1_c
  intro u _ hu
  have hu : u < 36 := by omega
  have key : Rc (ob2 A k p) (fun u => u = t) u ↔ hb r u = true := by
    refine Rc_Gr hA hS (fun v hv => ?_) g hu
    rw [hb_wb 0 t v (by omega) (by omega), hb_0, Bool.false_or, decide_eq_true_iff]
    constructor
    · intro e; subst e; exact ⟨rfl, by omega⟩
    · intro q; exact q.1
  rw [BD_Rc b hu] at key
  cases e : hb r u with
  | true => exact decide_eq_true (key.mpr e)
  | false => exact decide_eq_false (fun q => by have := key.mp q; rw [e] at this; cases this)
theorem cluster_eq0 {A : Nat → Nat → Int} {nb ns : Nat → Int} {shut r : Int64} {k p : Int} {t : Nat} (ht : t < 36) (hA : Nm A) (hS : Sm A nb ns shut) (ho : os2 A k p t = 0) (g : Gr (leb nb ns shut k p (-1)) (gs shut (wb 0 t) ns k p 36) r) : fst1 (hb r) 36 0 = -1 := by
  apply fst1_none
  intro u _ hu
  have hu : u < 36 := by omega
  cases e : hb r u with
  | false => rfl
  | true =>
    have key : Rc (ob2 A k p) (fun u => u = t ∧ ¬ os2 A k p u = 0) u ↔ hb r u = true := by
      refine Rc_Gr hA hS (fun v hv => ?_) g hu
      rw [hb_wb 0 t v (by omega) (by omega), hb_0, Bool.false_or, decide_eq_true_iff]
    exact (Rc_in (P := fun _ => False) (fun v _ q => q.2 (by rw [q.1]; exact ho)) (fun _ _ _ _ q _ => q) (key.mpr e)).elim
