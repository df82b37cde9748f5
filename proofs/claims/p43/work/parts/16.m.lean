/-! push, drain, soak, trapped -/
section sw_pv
variable {L : Nat} {A : Nat → Nat → Int} {F : Nat → Int} {T : Nat → sw_Ce} {X : Nat × Nat × Nat} {Q : sw_Ot → sw_HS → Prop}
/-- what nextPushed looks for -/
def NPc (hg oil ns : Nat → Int) (pr iso : Int) (s : Nat) : Prop := hg s = 1 ∧ ¬ oil s = iso ∧ (ns s < pr ↔ iso = 1) ∧ prs hg oil iso s
theorem NP_CD {sh oil hg ns : Nat → Int} {pr iso : Int} (h : HD sh oil hg) {s : Nat} (hs : s < 36) : NPc hg oil ns pr iso s ↔ CD sh ns pr iso oil s := by
  unfold NPc CD prs
  rw [h.2 s hs]
  constructor
  · rintro ⟨a1, a2, a3, a4⟩
    refine ⟨a1, a2, a3, ?_⟩
    rcases a4 with a4 | ⟨d, d0, d9, d1, d2, d3⟩
    · exact Or.inl a4
    · have sb := f_sb_b (s := s) (by omega) (by omega) d0 d9
      exact Or.inr ⟨(f_sb s d).toNat, by omega, ⟨d, d0, d9, by omega⟩, (h.2 _ (by omega)).mp d2, d3⟩
  · rintro ⟨a1, a2, a3, a4⟩
    refine ⟨a1, a2, a3, ?_⟩
    rcases a4 with a4 | ⟨t, t1, ⟨d, d0, d9, e⟩, t3, t4⟩
    · exact Or.inl a4
    · refine Or.inr ⟨d, d0, d9, by omega, ?_⟩
      rw [e, Int.toNat_natCast]
      exact ⟨(h.2 t t1).mpr t3, t4⟩
theorem m75_l {pr iso : Int} (hA : Nm A) (hg9 : B01 (A 49)) (ho : B01 (A 48)) (hi9 : iso = 0 ∨ iso = 1) (p0 : 0 ≤ pr) (p9 : pr ≤ 1000) : ∀ (n i : Nat) (x y : Option Value), i + n = 36 → (∀ t, t < i → ¬ NPc (A 49) (A 48) (A 4) pr iso t) → ∃ r : Int, NXT (NPc (A 49) (A 48) (A 4) pr iso) r ∧ sw_A 75 3 [some (.ref 47), some (.ref 2), some (.int (Int32.ofInt pr)), some (.int (Int32.ofInt iso)), some (.int (Int32.ofInt i)), x, y] [] (sw_h L A F T X) Q = Q (some (some (.int (Int32.ofInt r)))) (sw_h L A F T X)
  | 0, i, x, y, hn, hp => by
    have e : i = 36 := hn
    subst e
    refine ⟨-1, Or.inl ⟨rfl, hp⟩, ?_⟩
    rw [r75_3]
    simp (disch := omega) only [r75_5, r75_7, r75_94, r75_95, sw_ldi, sw_ldl, sw_lda, sw_has1, sw_i1, sw_i2, sw_l1, sw_l2, sw_li, sw_r1, sw_ri, sw_rix, sw_rv, sw_pop, sw_set1, sw_set2, List.set_cons_zero, List.set_cons_succ, List.getElem?_cons_zero, List.getElem?_cons_succ, ald_1, ald_2, ast_1, ast_2, aln_1, aln_2, gf_1, gf_2, pf_1, pf_2, nw_1, ck_0, ck_1, ck_2, ck_3, ck_4, rr_1, rc_1, rc_2, K_i, K_l, K_v, I_add, I_sub, I_mul, I_div, I_em, I_eq0, I_lt0, I_0lt, I_le0, I_0le, I_eq, I_lt, I_le, I_a1, I_r1, I_eq1, I32_at, I32_s, Int.toNat_natCast, List.set_cons_zero, reduceCtorEq, not_false_eq_true, not_true_eq_false, false_and, true_and, and_true, and_false, false_or, true_or, or_true, or_false, if_true, if_false, eq_self, ↓reduceIte, Int.reduceEq, Int.reduceLT, Int.reduceLE, Int.reduceAdd, Int.reduceSub, Int.reduceMul, Int.reduceNeg, Int.reduceToNat, Nat.reduceLT, Nat.reduceAdd, Nat.reduceEqDiff, List.length_cons, List.length_nil, Int.le_refl]
    rfl
  | n + 1, i, x, y, hn, hp => by
    have hi2 : i < 36 := by omega
    have r1 := hg9 i hi2
    have r2 := ho i hi2
    have w9 := hA.2.1 i hi2
    obtain ⟨m1, m0⟩ := m74 (L := L) (A := A) (F := F) (T := T) (X := X) (Q := sw_K 75 82 none [some (.ref 47), some (.ref 2), some (.int (Int32.ofInt pr)), some (.int (Int32.ofInt iso)), some (.int (Int32.ofInt i)), some (.int (Int32.ofInt 1)), some (.int (Int32.ofInt 1))] [] Q) hg9 ho hi9 hi2
    have pre : sw_A 75 3 [some (.ref 47), some (.ref 2), some (.int (Int32.ofInt pr)), some (.int (Int32.ofInt iso)), some (.int (Int32.ofInt i)), x, y] [] (sw_h L A F T X) Q = sw_A 75 65 [some (.ref 47), some (.ref 2), some (.int (Int32.ofInt pr)), some (.int (Int32.ofInt iso)), some (.int (Int32.ofInt i)), some (.int (Int32.ofInt (if A 49 i = 1 ∧ ¬ A 48 i = iso then 1 else 0))), some (.int (Int32.ofInt (if (A 4 i < pr ↔ iso = 1) then 1 else 0)))] [] (sw_h L A F T X) Q := by
      have half : ∀ v : Int, sw_A 75 36 [some (.ref 47), some (.ref 2), some (.int (Int32.ofInt pr)), some (.int (Int32.ofInt iso)), some (.int (Int32.ofInt i)), x, y] [.int (Int32.ofInt v)] (sw_h L A F T X) Q = sw_A 75 65 [some (.ref 47), some (.ref 2), some (.int (Int32.ofInt pr)), some (.int (Int32.ofInt iso)), some (.int (Int32.ofInt i)), some (.int (Int32.ofInt v)), some (.int (Int32.ofInt (if (A 4 i < pr ↔ iso = 1) then 1 else 0)))] [] (sw_h L A F T X) Q := fun v => by
        simp (disch := omega) only [r75_36, r75_38, r75_39, r75_42, r75_44, r75_45, sw_ldi, sw_ldl, sw_lda, sw_has1, sw_i1, sw_i2, sw_l1, sw_l2, sw_li, sw_r1, sw_ri, sw_rix, sw_rv, sw_pop, sw_set1, sw_set2, List.set_cons_zero, List.set_cons_succ, List.getElem?_cons_zero, List.getElem?_cons_succ, ald_1, ald_2, ast_1, ast_2, aln_1, aln_2, gf_1, gf_2, pf_1, pf_2, nw_1, ck_0, ck_1, ck_2, ck_3, ck_4, rr_1, rc_1, rc_2, K_i, K_l, K_v, I_add, I_sub, I_mul, I_div, I_em, I_eq0, I_lt0, I_0lt, I_le0, I_0le, I_eq, I_lt, I_le, I_a1, I_r1, I_eq1, I32_at, I32_s, Int.toNat_natCast, List.set_cons_zero, reduceCtorEq, not_false_eq_true, not_true_eq_false, false_and, true_and, and_true, and_false, false_or, true_or, or_true, or_false, if_true, if_false, eq_self, ↓reduceIte, Int.reduceEq, Int.reduceLT, Int.reduceLE, Int.reduceAdd, Int.reduceSub, Int.reduceMul, Int.reduceNeg, Int.reduceToNat, Nat.reduceLT, Nat.reduceAdd, Nat.reduceEqDiff, List.length_cons, List.length_nil, h_2, h_4]
        rw [r75_46]
        simp (disch := omega) only [sw_ldi, sw_ldl, sw_lda, sw_has1, sw_i1, sw_i2, sw_l1, sw_l2, sw_li, sw_r1, sw_ri, sw_rix, sw_rv, sw_pop, sw_set1, sw_set2, List.set_cons_zero, List.set_cons_succ, List.getElem?_cons_zero, List.getElem?_cons_succ, ald_1, ald_2, ast_1, ast_2, aln_1, aln_2, gf_1, gf_2, pf_1, pf_2, nw_1, ck_0, ck_1, ck_2, ck_3, ck_4, rr_1, rc_1, rc_2, K_i, K_l, K_v, I_add, I_sub, I_mul, I_div, I_em, I_eq0, I_lt0, I_0lt, I_le0, I_0le, I_eq, I_lt, I_le, I_a1, I_r1, I_eq1, I32_at, I32_s, Int.toNat_natCast, List.set_cons_zero, reduceCtorEq, not_false_eq_true, not_true_eq_false, false_and, true_and, and_true, and_false, false_or, true_or, or_true, or_false, if_true, if_false, eq_self, ↓reduceIte, Int.reduceEq, Int.reduceLT, Int.reduceLE, Int.reduceAdd, Int.reduceSub, Int.reduceMul, Int.reduceNeg, Int.reduceToNat, Nat.reduceLT, Nat.reduceAdd, Nat.reduceEqDiff, List.length_cons, List.length_nil]
        by_cases c : A 4 i < pr
        · rw [if_neg (by omega)]
          simp (disch := omega) only [r75_49, r75_50, r75_53, r75_54, r75_55, sw_ldi, sw_ldl, sw_lda, sw_has1, sw_i1, sw_i2, sw_l1, sw_l2, sw_li, sw_r1, sw_ri, sw_rix, sw_rv, sw_pop, sw_set1, sw_set2, List.set_cons_zero, List.set_cons_succ, List.getElem?_cons_zero, List.getElem?_cons_succ, ald_1, ald_2, ast_1, ast_2, aln_1, aln_2, gf_1, gf_2, pf_1, pf_2, nw_1, ck_0, ck_1, ck_2, ck_3, ck_4, rr_1, rc_1, rc_2, K_i, K_l, K_v, I_add, I_sub, I_mul, I_div, I_em, I_eq0, I_lt0, I_0lt, I_le0, I_0le, I_eq, I_lt, I_le, I_a1, I_r1, I_eq1, I32_at, I32_s, Int.toNat_natCast, List.set_cons_zero, reduceCtorEq, not_false_eq_true, not_true_eq_false, false_and, true_and, and_true, and_false, false_or, true_or, or_true, or_false, if_true, if_false, eq_self, ↓reduceIte, Int.reduceEq, Int.reduceLT, Int.reduceLE, Int.reduceAdd, Int.reduceSub, Int.reduceMul, Int.reduceNeg, Int.reduceToNat, Nat.reduceLT, Nat.reduceAdd, Nat.reduceEqDiff, List.length_cons, List.length_nil]
          rcases hi9 with rfl | rfl
          · rw [if_neg (show ¬ (A 4 i < pr ↔ (0 : Int) = 1) from fun q => absurd (q.mp c) (by decide))]
            simp (disch := omega) only [r75_58, r75_59, r75_62, r75_63, sw_ldi, sw_ldl, sw_lda, sw_has1, sw_i1, sw_i2, sw_l1, sw_l2, sw_li, sw_r1, sw_ri, sw_rix, sw_rv, sw_pop, sw_set1, sw_set2, List.set_cons_zero, List.set_cons_succ, List.getElem?_cons_zero, List.getElem?_cons_succ, ald_1, ald_2, ast_1, ast_2, aln_1, aln_2, gf_1, gf_2, pf_1, pf_2, nw_1, ck_0, ck_1, ck_2, ck_3, ck_4, rr_1, rc_1, rc_2, K_i, K_l, K_v, I_add, I_sub, I_mul, I_div, I_em, I_eq0, I_lt0, I_0lt, I_le0, I_0le, I_eq, I_lt, I_le, I_a1, I_r1, I_eq1, I32_at, I32_s, Int.toNat_natCast, List.set_cons_zero, reduceCtorEq, not_false_eq_true, not_true_eq_false, false_and, true_and, and_true, and_false, false_or, true_or, or_true, or_false, if_true, if_false, eq_self, ↓reduceIte, Int.reduceEq, Int.reduceLT, Int.reduceLE, Int.reduceAdd, Int.reduceSub, Int.reduceMul, Int.reduceNeg, Int.reduceToNat, Nat.reduceLT, Nat.reduceAdd, Nat.reduceEqDiff, List.length_cons, List.length_nil]
          · rw [if_pos (show (A 4 i < pr ↔ (1 : Int) = 1) from ⟨fun _ => rfl, fun _ => c⟩)]
            simp (disch := omega) only [r75_58, r75_59, r75_62, r75_63, sw_ldi, sw_ldl, sw_lda, sw_has1, sw_i1, sw_i2, sw_l1, sw_l2, sw_li, sw_r1, sw_ri, sw_rix, sw_rv, sw_pop, sw_set1, sw_set2, List.set_cons_zero, List.set_cons_succ, List.getElem?_cons_zero, List.getElem?_cons_succ, ald_1, ald_2, ast_1, ast_2, aln_1, aln_2, gf_1, gf_2, pf_1, pf_2, nw_1, ck_0, ck_1, ck_2, ck_3, ck_4, rr_1, rc_1, rc_2, K_i, K_l, K_v, I_add, I_sub, I_mul, I_div, I_em, I_eq0, I_lt0, I_0lt, I_le0, I_0le, I_eq, I_lt, I_le, I_a1, I_r1, I_eq1, I32_at, I32_s, Int.toNat_natCast, List.set_cons_zero, reduceCtorEq, not_false_eq_true, not_true_eq_false, false_and, true_and, and_true, and_false, false_or, true_or, or_true, or_false, if_true, if_false, eq_self, ↓reduceIte, Int.reduceEq, Int.reduceLT, Int.reduceLE, Int.reduceAdd, Int.reduceSub, Int.reduceMul, Int.reduceNeg, Int.reduceToNat, Nat.reduceLT, Nat.reduceAdd, Nat.reduceEqDiff, List.length_cons, List.length_nil]
        · rw [if_pos (by omega)]
          simp (disch := omega) only [r75_53, r75_54, r75_55, sw_ldi, sw_ldl, sw_lda, sw_has1, sw_i1, sw_i2, sw_l1, sw_l2, sw_li, sw_r1, sw_ri, sw_rix, sw_rv, sw_pop, sw_set1, sw_set2, List.set_cons_zero, List.set_cons_succ, List.getElem?_cons_zero, List.getElem?_cons_succ, ald_1, ald_2, ast_1, ast_2, aln_1, aln_2, gf_1, gf_2, pf_1, pf_2, nw_1, ck_0, ck_1, ck_2, ck_3, ck_4, rr_1, rc_1, rc_2, K_i, K_l, K_v, I_add, I_sub, I_mul, I_div, I_em, I_eq0, I_lt0, I_0lt, I_le0, I_0le, I_eq, I_lt, I_le, I_a1, I_r1, I_eq1, I32_at, I32_s, Int.toNat_natCast, List.set_cons_zero, reduceCtorEq, not_false_eq_true, not_true_eq_false, false_and, true_and, and_true, and_false, false_or, true_or, or_true, or_false, if_true, if_false, eq_self, ↓reduceIte, Int.reduceEq, Int.reduceLT, Int.reduceLE, Int.reduceAdd, Int.reduceSub, Int.reduceMul, Int.reduceNeg, Int.reduceToNat, Nat.reduceLT, Nat.reduceAdd, Nat.reduceEqDiff, List.length_cons, List.length_nil]
          rcases hi9 with rfl | rfl
          · rw [if_pos (show (A 4 i < pr ↔ (0 : Int) = 1) from ⟨fun q => absurd q c, fun q => absurd q (by decide)⟩)]
            simp (disch := omega) only [r75_58, r75_59, r75_62, r75_63, sw_ldi, sw_ldl, sw_lda, sw_has1, sw_i1, sw_i2, sw_l1, sw_l2, sw_li, sw_r1, sw_ri, sw_rix, sw_rv, sw_pop, sw_set1, sw_set2, List.set_cons_zero, List.set_cons_succ, List.getElem?_cons_zero, List.getElem?_cons_succ, ald_1, ald_2, ast_1, ast_2, aln_1, aln_2, gf_1, gf_2, pf_1, pf_2, nw_1, ck_0, ck_1, ck_2, ck_3, ck_4, rr_1, rc_1, rc_2, K_i, K_l, K_v, I_add, I_sub, I_mul, I_div, I_em, I_eq0, I_lt0, I_0lt, I_le0, I_0le, I_eq, I_lt, I_le, I_a1, I_r1, I_eq1, I32_at, I32_s, Int.toNat_natCast, List.set_cons_zero, reduceCtorEq, not_false_eq_true, not_true_eq_false, false_and, true_and, and_true, and_false, false_or, true_or, or_true, or_false, if_true, if_false, eq_self, ↓reduceIte, Int.reduceEq, Int.reduceLT, Int.reduceLE, Int.reduceAdd, Int.reduceSub, Int.reduceMul, Int.reduceNeg, Int.reduceToNat, Nat.reduceLT, Nat.reduceAdd, Nat.reduceEqDiff, List.length_cons, List.length_nil]
          · rw [if_neg (show ¬ (A 4 i < pr ↔ (1 : Int) = 1) from fun q => c (q.mpr rfl))]
            simp (disch := omega) only [r75_58, r75_59, r75_62, r75_63, sw_ldi, sw_ldl, sw_lda, sw_has1, sw_i1, sw_i2, sw_l1, sw_l2, sw_li, sw_r1, sw_ri, sw_rix, sw_rv, sw_pop, sw_set1, sw_set2, List.set_cons_zero, List.set_cons_succ, List.getElem?_cons_zero, List.getElem?_cons_succ, ald_1, ald_2, ast_1, ast_2, aln_1, aln_2, gf_1, gf_2, pf_1, pf_2, nw_1, ck_0, ck_1, ck_2, ck_3, ck_4, rr_1, rc_1, rc_2, K_i, K_l, K_v, I_add, I_sub, I_mul, I_div, I_em, I_eq0, I_lt0, I_0lt, I_le0, I_0le, I_eq, I_lt, I_le, I_a1, I_r1, I_eq1, I32_at, I32_s, Int.toNat_natCast, List.set_cons_zero, reduceCtorEq, not_false_eq_true, not_true_eq_false, false_and, true_and, and_true, and_false, false_or, true_or, or_true, or_false, if_true, if_false, eq_self, ↓reduceIte, Int.reduceEq, Int.reduceLT, Int.reduceLE, Int.reduceAdd, Int.reduceSub, Int.reduceMul, Int.reduceNeg, Int.reduceToNat, Nat.reduceLT, Nat.reduceAdd, Nat.reduceEqDiff, List.length_cons, List.length_nil]
      rw [r75_3]
      simp (disch := omega) only [r75_5, r75_7, r75_10, r75_11, r75_14, r75_16, r75_17, sw_ldi, sw_ldl, sw_lda, sw_has1, sw_i1, sw_i2, sw_l1, sw_l2, sw_li, sw_r1, sw_ri, sw_rix, sw_rv, sw_pop, sw_set1, sw_set2, List.set_cons_zero, List.set_cons_succ, List.getElem?_cons_zero, List.getElem?_cons_succ, ald_1, ald_2, ast_1, ast_2, aln_1, aln_2, gf_1, gf_2, pf_1, pf_2, nw_1, ck_0, ck_1, ck_2, ck_3, ck_4, rr_1, rc_1, rc_2, K_i, K_l, K_v, I_add, I_sub, I_mul, I_div, I_em, I_eq0, I_lt0, I_0lt, I_le0, I_0le, I_eq, I_lt, I_le, I_a1, I_r1, I_eq1, I32_at, I32_s, Int.toNat_natCast, List.set_cons_zero, reduceCtorEq, not_false_eq_true, not_true_eq_false, false_and, true_and, and_true, and_false, false_or, true_or, or_true, or_false, if_true, if_false, eq_self, ↓reduceIte, Int.reduceEq, Int.reduceLT, Int.reduceLE, Int.reduceAdd, Int.reduceSub, Int.reduceMul, Int.reduceNeg, Int.reduceToNat, Nat.reduceLT, Nat.reduceAdd, Nat.reduceEqDiff, List.length_cons, List.length_nil, h_47, h_49]
      rw [if_neg (by omega)]
      by_cases c1 : A 49 i = 0
      · rw [if_pos c1]
        simp (disch := omega) only [r75_35, sw_ldi, sw_ldl, sw_lda, sw_has1, sw_i1, sw_i2, sw_l1, sw_l2, sw_li, sw_r1, sw_ri, sw_rix, sw_rv, sw_pop, sw_set1, sw_set2, List.set_cons_zero, List.set_cons_succ, List.getElem?_cons_zero, List.getElem?_cons_succ, ald_1, ald_2, ast_1, ast_2, aln_1, aln_2, gf_1, gf_2, pf_1, pf_2, nw_1, ck_0, ck_1, ck_2, ck_3, ck_4, rr_1, rc_1, rc_2, K_i, K_l, K_v, I_add, I_sub, I_mul, I_div, I_em, I_eq0, I_lt0, I_0lt, I_le0, I_0le, I_eq, I_lt, I_le, I_a1, I_r1, I_eq1, I32_at, I32_s, Int.toNat_natCast, List.set_cons_zero, reduceCtorEq, not_false_eq_true, not_true_eq_false, false_and, true_and, and_true, and_false, false_or, true_or, or_true, or_false, if_true, if_false, eq_self, ↓reduceIte, Int.reduceEq, Int.reduceLT, Int.reduceLE, Int.reduceAdd, Int.reduceSub, Int.reduceMul, Int.reduceNeg, Int.reduceToNat, Nat.reduceLT, Nat.reduceAdd, Nat.reduceEqDiff, List.length_cons, List.length_nil]
        rw [half 0, if_neg (show ¬ (A 49 i = 1 ∧ ¬ A 48 i = iso) by omega)]
      · rw [if_neg c1]
        simp (disch := omega) only [r75_20, r75_21, r75_24, r75_26, r75_27, r75_28, sw_ldi, sw_ldl, sw_lda, sw_has1, sw_i1, sw_i2, sw_l1, sw_l2, sw_li, sw_r1, sw_ri, sw_rix, sw_rv, sw_pop, sw_set1, sw_set2, List.set_cons_zero, List.set_cons_succ, List.getElem?_cons_zero, List.getElem?_cons_succ, ald_1, ald_2, ast_1, ast_2, aln_1, aln_2, gf_1, gf_2, pf_1, pf_2, nw_1, ck_0, ck_1, ck_2, ck_3, ck_4, rr_1, rc_1, rc_2, K_i, K_l, K_v, I_add, I_sub, I_mul, I_div, I_em, I_eq0, I_lt0, I_0lt, I_le0, I_0le, I_eq, I_lt, I_le, I_a1, I_r1, I_eq1, I32_at, I32_s, Int.toNat_natCast, List.set_cons_zero, reduceCtorEq, not_false_eq_true, not_true_eq_false, false_and, true_and, and_true, and_false, false_or, true_or, or_true, or_false, if_true, if_false, eq_self, ↓reduceIte, Int.reduceEq, Int.reduceLT, Int.reduceLE, Int.reduceAdd, Int.reduceSub, Int.reduceMul, Int.reduceNeg, Int.reduceToNat, Nat.reduceLT, Nat.reduceAdd, Nat.reduceEqDiff, List.length_cons, List.length_nil, h_47, h_48]
        by_cases c2 : A 48 i = iso
        · rw [if_pos c2]
          simp (disch := omega) only [r75_35, sw_ldi, sw_ldl, sw_lda, sw_has1, sw_i1, sw_i2, sw_l1, sw_l2, sw_li, sw_r1, sw_ri, sw_rix, sw_rv, sw_pop, sw_set1, sw_set2, List.set_cons_zero, List.set_cons_succ, List.getElem?_cons_zero, List.getElem?_cons_succ, ald_1, ald_2, ast_1, ast_2, aln_1, aln_2, gf_1, gf_2, pf_1, pf_2, nw_1, ck_0, ck_1, ck_2, ck_3, ck_4, rr_1, rc_1, rc_2, K_i, K_l, K_v, I_add, I_sub, I_mul, I_div, I_em, I_eq0, I_lt0, I_0lt, I_le0, I_0le, I_eq, I_lt, I_le, I_a1, I_r1, I_eq1, I32_at, I32_s, Int.toNat_natCast, List.set_cons_zero, reduceCtorEq, not_false_eq_true, not_true_eq_false, false_and, true_and, and_true, and_false, false_or, true_or, or_true, or_false, if_true, if_false, eq_self, ↓reduceIte, Int.reduceEq, Int.reduceLT, Int.reduceLE, Int.reduceAdd, Int.reduceSub, Int.reduceMul, Int.reduceNeg, Int.reduceToNat, Nat.reduceLT, Nat.reduceAdd, Nat.reduceEqDiff, List.length_cons, List.length_nil]
          rw [half 0, if_neg (show ¬ (A 49 i = 1 ∧ ¬ A 48 i = iso) by omega)]
        · rw [if_neg c2]
          simp (disch := omega) only [r75_31, r75_32, sw_ldi, sw_ldl, sw_lda, sw_has1, sw_i1, sw_i2, sw_l1, sw_l2, sw_li, sw_r1, sw_ri, sw_rix, sw_rv, sw_pop, sw_set1, sw_set2, List.set_cons_zero, List.set_cons_succ, List.getElem?_cons_zero, List.getElem?_cons_succ, ald_1, ald_2, ast_1, ast_2, aln_1, aln_2, gf_1, gf_2, pf_1, pf_2, nw_1, ck_0, ck_1, ck_2, ck_3, ck_4, rr_1, rc_1, rc_2, K_i, K_l, K_v, I_add, I_sub, I_mul, I_div, I_em, I_eq0, I_lt0, I_0lt, I_le0, I_0le, I_eq, I_lt, I_le, I_a1, I_r1, I_eq1, I32_at, I32_s, Int.toNat_natCast, List.set_cons_zero, reduceCtorEq, not_false_eq_true, not_true_eq_false, false_and, true_and, and_true, and_false, false_or, true_or, or_true, or_false, if_true, if_false, eq_self, ↓reduceIte, Int.reduceEq, Int.reduceLT, Int.reduceLE, Int.reduceAdd, Int.reduceSub, Int.reduceMul, Int.reduceNeg, Int.reduceToNat, Nat.reduceLT, Nat.reduceAdd, Nat.reduceEqDiff, List.length_cons, List.length_nil]
          rw [half 1, if_pos (show (A 49 i = 1 ∧ ¬ A 48 i = iso) by omega)]
    have next : ¬ NPc (A 49) (A 48) (A 4) pr iso i → ∀ z t, ∃ r : Int, NXT (NPc (A 49) (A 48) (A 4) pr iso) r ∧ sw_A 75 88 [some (.ref 47), some (.ref 2), some (.int (Int32.ofInt pr)), some (.int (Int32.ofInt iso)), some (.int (Int32.ofInt i)), z, t] [] (sw_h L A F T X) Q = Q (some (some (.int (Int32.ofInt r)))) (sw_h L A F T X) := fun np z t => by
      obtain ⟨r, g1, g2⟩ := m75_l hA hg9 ho hi9 p0 p9 n (i + 1) z t (by omega) (fun u hu => by
        by_cases e : u = i
        · rw [e]; exact np
        · exact hp u (by omega))
      refine ⟨r, g1, Eq.trans ?_ g2⟩
      simp (disch := omega) only [r75_88, r75_91, sw_ldi, sw_ldl, sw_lda, sw_has1, sw_i1, sw_i2, sw_l1, sw_l2, sw_li, sw_r1, sw_ri, sw_rix, sw_rv, sw_pop, sw_set1, sw_set2, List.set_cons_zero, List.set_cons_succ, List.getElem?_cons_zero, List.getElem?_cons_succ, ald_1, ald_2, ast_1, ast_2, aln_1, aln_2, gf_1, gf_2, pf_1, pf_2, nw_1, ck_0, ck_1, ck_2, ck_3, ck_4, rr_1, rc_1, rc_2, K_i, K_l, K_v, I_add, I_sub, I_mul, I_div, I_em, I_eq0, I_lt0, I_0lt, I_le0, I_0le, I_eq, I_lt, I_le, I_a1, I_r1, I_eq1, I32_at, I32_s, Int.toNat_natCast, List.set_cons_zero, reduceCtorEq, not_false_eq_true, not_true_eq_false, false_and, true_and, and_true, and_false, false_or, true_or, or_true, or_false, if_true, if_false, eq_self, ↓reduceIte, Int.reduceEq, Int.reduceLT, Int.reduceLE, Int.reduceAdd, Int.reduceSub, Int.reduceMul, Int.reduceNeg, Int.reduceToNat, Nat.reduceLT, Nat.reduceAdd, Nat.reduceEqDiff, List.length_cons, List.length_nil]
      rfl
    rw [pre]
    by_cases c1 : A 49 i = 1 ∧ ¬ A 48 i = iso
    · rw [if_pos c1]
      by_cases c2 : (A 4 i < pr ↔ iso = 1)
      · rw [if_pos c2, r75_65]
        simp (disch := omega) only [r75_67, r75_70, r75_72, r75_75, r75_76, r75_78, r75_79, sw_ldi, sw_ldl, sw_lda, sw_has1, sw_i1, sw_i2, sw_l1, sw_l2, sw_li, sw_r1, sw_ri, sw_rix, sw_rv, sw_pop, sw_set1, sw_set2, List.set_cons_zero, List.set_cons_succ, List.getElem?_cons_zero, List.getElem?_cons_succ, ald_1, ald_2, ast_1, ast_2, aln_1, aln_2, gf_1, gf_2, pf_1, pf_2, nw_1, ck_0, ck_1, ck_2, ck_3, ck_4, rr_1, rc_1, rc_2, K_i, K_l, K_v, I_add, I_sub, I_mul, I_div, I_em, I_eq0, I_lt0, I_0lt, I_le0, I_0le, I_eq, I_lt, I_le, I_a1, I_r1, I_eq1, I32_at, I32_s, Int.toNat_natCast, List.set_cons_zero, reduceCtorEq, not_false_eq_true, not_true_eq_false, false_and, true_and, and_true, and_false, false_or, true_or, or_true, or_false, if_true, if_false, eq_self, ↓reduceIte, Int.reduceEq, Int.reduceLT, Int.reduceLE, Int.reduceAdd, Int.reduceSub, Int.reduceMul, Int.reduceNeg, Int.reduceToNat, Nat.reduceLT, Nat.reduceAdd, Nat.reduceEqDiff, List.length_cons, List.length_nil, h_47]
        by_cases c3 : prs (A 49) (A 48) iso i
        · refine ⟨i, Or.inr ⟨i, rfl, hi2, ⟨c1.1, c1.2, c2, c3⟩, hp⟩, ?_⟩
          rw [m1 c3]
          simp (disch := omega) only [r75_82, r75_85, r75_87, sw_ldi, sw_ldl, sw_lda, sw_has1, sw_i1, sw_i2, sw_l1, sw_l2, sw_li, sw_r1, sw_ri, sw_rix, sw_rv, sw_pop, sw_set1, sw_set2, List.set_cons_zero, List.set_cons_succ, List.getElem?_cons_zero, List.getElem?_cons_succ, ald_1, ald_2, ast_1, ast_2, aln_1, aln_2, gf_1, gf_2, pf_1, pf_2, nw_1, ck_0, ck_1, ck_2, ck_3, ck_4, rr_1, rc_1, rc_2, K_i, K_l, K_v, I_add, I_sub, I_mul, I_div, I_em, I_eq0, I_lt0, I_0lt, I_le0, I_0le, I_eq, I_lt, I_le, I_a1, I_r1, I_eq1, I32_at, I32_s, Int.toNat_natCast, List.set_cons_zero, reduceCtorEq, not_false_eq_true, not_true_eq_false, false_and, true_and, and_true, and_false, false_or, true_or, or_true, or_false, if_true, if_false, eq_self, ↓reduceIte, Int.reduceEq, Int.reduceLT, Int.reduceLE, Int.reduceAdd, Int.reduceSub, Int.reduceMul, Int.reduceNeg, Int.reduceToNat, Nat.reduceLT, Nat.reduceAdd, Nat.reduceEqDiff, List.length_cons, List.length_nil]
        · obtain ⟨r, g1, g2⟩ := next (fun q => c3 q.2.2.2) (some (.int (Int32.ofInt 1))) (some (.int (Int32.ofInt 1)))
          refine ⟨r, g1, Eq.trans ?_ g2⟩
          rw [m0 c3]
          simp (disch := omega) only [r75_82, sw_ldi, sw_ldl, sw_lda, sw_has1, sw_i1, sw_i2, sw_l1, sw_l2, sw_li, sw_r1, sw_ri, sw_rix, sw_rv, sw_pop, sw_set1, sw_set2, List.set_cons_zero, List.set_cons_succ, List.getElem?_cons_zero, List.getElem?_cons_succ, ald_1, ald_2, ast_1, ast_2, aln_1, aln_2, gf_1, gf_2, pf_1, pf_2, nw_1, ck_0, ck_1, ck_2, ck_3, ck_4, rr_1, rc_1, rc_2, K_i, K_l, K_v, I_add, I_sub, I_mul, I_div, I_em, I_eq0, I_lt0, I_0lt, I_le0, I_0le, I_eq, I_lt, I_le, I_a1, I_r1, I_eq1, I32_at, I32_s, Int.toNat_natCast, List.set_cons_zero, reduceCtorEq, not_false_eq_true, not_true_eq_false, false_and, true_and, and_true, and_false, false_or, true_or, or_true, or_false, if_true, if_false, eq_self, ↓reduceIte, Int.reduceEq, Int.reduceLT, Int.reduceLE, Int.reduceAdd, Int.reduceSub, Int.reduceMul, Int.reduceNeg, Int.reduceToNat, Nat.reduceLT, Nat.reduceAdd, Nat.reduceEqDiff, List.length_cons, List.length_nil]
      · rw [if_neg c2]
        obtain ⟨r, g1, g2⟩ := next (fun q => c2 q.2.2.1) (some (.int (Int32.ofInt 1))) (some (.int (Int32.ofInt 0)))
        refine ⟨r, g1, Eq.trans ?_ g2⟩
        rw [r75_65]
        simp (disch := omega) only [r75_67, r75_70, r75_72, sw_ldi, sw_ldl, sw_lda, sw_has1, sw_i1, sw_i2, sw_l1, sw_l2, sw_li, sw_r1, sw_ri, sw_rix, sw_rv, sw_pop, sw_set1, sw_set2, List.set_cons_zero, List.set_cons_succ, List.getElem?_cons_zero, List.getElem?_cons_succ, ald_1, ald_2, ast_1, ast_2, aln_1, aln_2, gf_1, gf_2, pf_1, pf_2, nw_1, ck_0, ck_1, ck_2, ck_3, ck_4, rr_1, rc_1, rc_2, K_i, K_l, K_v, I_add, I_sub, I_mul, I_div, I_em, I_eq0, I_lt0, I_0lt, I_le0, I_0le, I_eq, I_lt, I_le, I_a1, I_r1, I_eq1, I32_at, I32_s, Int.toNat_natCast, List.set_cons_zero, reduceCtorEq, not_false_eq_true, not_true_eq_false, false_and, true_and, and_true, and_false, false_or, true_or, or_true, or_false, if_true, if_false, eq_self, ↓reduceIte, Int.reduceEq, Int.reduceLT, Int.reduceLE, Int.reduceAdd, Int.reduceSub, Int.reduceMul, Int.reduceNeg, Int.reduceToNat, Nat.reduceLT, Nat.reduceAdd, Nat.reduceEqDiff, List.length_cons, List.length_nil]
    · rw [if_neg c1]
      obtain ⟨r, g1, g2⟩ := next (fun q => c1 ⟨q.1, q.2.1⟩) (some (.int (Int32.ofInt 0))) (some (.int (Int32.ofInt (if (A 4 i < pr ↔ iso = 1) then 1 else 0))))
      refine ⟨r, g1, Eq.trans ?_ g2⟩
      rw [r75_65]
      simp (disch := omega) only [r75_67, sw_ldi, sw_ldl, sw_lda, sw_has1, sw_i1, sw_i2, sw_l1, sw_l2, sw_li, sw_r1, sw_ri, sw_rix, sw_rv, sw_pop, sw_set1, sw_set2, List.set_cons_zero, List.set_cons_succ, List.getElem?_cons_zero, List.getElem?_cons_succ, ald_1, ald_2, ast_1, ast_2, aln_1, aln_2, gf_1, gf_2, pf_1, pf_2, nw_1, ck_0, ck_1, ck_2, ck_3, ck_4, rr_1, rc_1, rc_2, K_i, K_l, K_v, I_add, I_sub, I_mul, I_div, I_em, I_eq0, I_lt0, I_0lt, I_le0, I_0le, I_eq, I_lt, I_le, I_a1, I_r1, I_eq1, I32_at, I32_s, Int.toNat_natCast, List.set_cons_zero, reduceCtorEq, not_false_eq_true, not_true_eq_false, false_and, true_and, and_true, and_false, false_or, true_or, or_true, or_false, if_true, if_false, eq_self, ↓reduceIte, Int.reduceEq, Int.reduceLT, Int.reduceLE, Int.reduceAdd, Int.reduceSub, Int.reduceMul, Int.reduceNeg, Int.reduceToNat, Nat.reduceLT, Nat.reduceAdd, Nat.reduceEqDiff, List.length_cons, List.length_nil]
/-- nextPushed -/
theorem m75 {pr iso : Int} (hA : Nm A) (hg9 : B01 (A 49)) (ho : B01 (A 48)) (hi9 : iso = 0 ∨ iso = 1) (p0 : 0 ≤ pr) (p9 : pr ≤ 1000) : ∃ r : Int, NXT (NPc (A 49) (A 48) (A 4) pr iso) r ∧ sw_M 75 [.ref 47, .ref 2, .int (Int32.ofInt pr), .int (Int32.ofInt iso)] (sw_h L A F T X) Q = Q (some (some (.int (Int32.ofInt r)))) (sw_h L A F T X) := by
  obtain ⟨r, g1, g2⟩ := m75_l (L := L) (F := F) (T := T) (X := X) (Q := Q) hA hg9 ho hi9 p0 p9 36 0 none none (by omega) (fun t ht => absurd ht (Nat.not_lt_zero _))
  refine ⟨r, g1, Eq.trans ?_ g2⟩
  rw [e75]
  simp (disch := omega) only [r75_0, r75_1, sw_ldi, sw_ldl, sw_lda, sw_has1, sw_i1, sw_i2, sw_l1, sw_l2, sw_li, sw_r1, sw_ri, sw_rix, sw_rv, sw_pop, sw_set1, sw_set2, List.set_cons_zero, List.set_cons_succ, List.getElem?_cons_zero, List.getElem?_cons_succ, ald_1, ald_2, ast_1, ast_2, aln_1, aln_2, gf_1, gf_2, pf_1, pf_2, nw_1, ck_0, ck_1, ck_2, ck_3, ck_4, rr_1, rc_1, rc_2, K_i, K_l, K_v, I_add, I_sub, I_mul, I_div, I_em, I_eq0, I_lt0, I_0lt, I_le0, I_0le, I_eq, I_lt, I_le, I_a1, I_r1, I_eq1, I32_at, I32_s, Int.toNat_natCast, List.set_cons_zero, reduceCtorEq, not_false_eq_true, not_true_eq_false, false_and, true_and, and_true, and_false, false_or, true_or, or_true, or_false, if_true, if_false, eq_self, ↓reduceIte, Int.reduceEq, Int.reduceLT, Int.reduceLE, Int.reduceAdd, Int.reduceSub, Int.reduceMul, Int.reduceNeg, Int.reduceToNat, Nat.reduceLT, Nat.reduceAdd, Nat.reduceEqDiff, List.length_cons, List.length_nil]
  rfl
def hP (L : Nat) (A : Nat → Nat → Int) (F : Nat → Int) (T : Nat → sw_Ce) (X : Nat × Nat × Nat) (o hg q : Nat → Int) (h z : Int) : sw_HS := sw_h L (sw_s (sw_s (sw_s A 48 o) 49 hg) 51 q) (sw_s (sw_s F 15 h) 16 z) T X
theorem m76_l {pr iso : Int} (hA : Nm A) (ho : B01 (A 48)) (hi9 : iso = 0 ∨ iso = 1) (p0 : 0 ≤ pr) (p9 : pr ≤ 1000) : ∀ (n i : Nat) (o hg q : Nat → Int) (h z : Int) (x : Option Value), i + n = 36 → (∀ t, t < 36 → o t = psq (A 9) (A 4) pr iso (A 48) i t) → (∀ j, j < i → ¬ lsP (CD (A 9) (A 4) pr iso (psq (A 9) (A 4) pr iso (A 48) j)) 36 = -1) → ∃ (o2 hg2 q2 : Nat → Int) (h2 z2 : Int), (∀ t, t < 36 → o2 t = psq (A 9) (A 4) pr iso (A 48) 36 t) ∧ sw_A 76 3 [some (.ref 47), some (.ref 2), some (.ref 9), some (.int (Int32.ofInt pr)), some (.int (Int32.ofInt iso)), some (.int (Int32.ofInt i)), x] [] (hP L A F T X o hg q h z) Q = Q (some none) (hP L A F T X o2 hg2 q2 h2 z2)
  | 0, i, o, hg, q, h, z, x, hn, hq, hp => by
    have e : i = 36 := hn
    subst e
    refine ⟨o, hg, q, h, z, hq, ?_⟩
    rw [r76_3]
    simp (disch := omega) only [r76_5, r76_7, r76_49, sw_ldi, sw_ldl, sw_lda, sw_has1, sw_i1, sw_i2, sw_l1, sw_l2, sw_li, sw_r1, sw_ri, sw_rix, sw_rv, sw_pop, sw_set1, sw_set2, List.set_cons_zero, List.set_cons_succ, List.getElem?_cons_zero, List.getElem?_cons_succ, ald_1, ald_2, ast_1, ast_2, aln_1, aln_2, gf_1, gf_2, pf_1, pf_2, nw_1, ck_0, ck_1, ck_2, ck_3, ck_4, rr_1, rc_1, rc_2, K_i, K_l, K_v, I_add, I_sub, I_mul, I_div, I_em, I_eq0, I_lt0, I_0lt, I_le0, I_0le, I_eq, I_lt, I_le, I_a1, I_r1, I_eq1, I32_at, I32_s, Int.toNat_natCast, List.set_cons_zero, reduceCtorEq, not_false_eq_true, not_true_eq_false, false_and, true_and, and_true, and_false, false_or, true_or, or_true, or_false, if_true, if_false, eq_self, ↓reduceIte, Int.reduceEq, Int.reduceLT, Int.reduceLE, Int.reduceAdd, Int.reduceSub, Int.reduceMul, Int.reduceNeg, Int.reduceToNat, Nat.reduceLT, Nat.reduceAdd, Nat.reduceEqDiff, List.length_cons, List.length_nil, Int.le_refl]
    rw [if_pos (by omega)]
  | n + 1, i, o, hg, q, h, z, x, hn, hq, hp => by
    have pb := psq_b (sh := A 9) (ns := A 4) (pr := pr) hi9 ho i
    have ob : B01 o := fun t ht => by rw [hq t ht]; exact pb t ht
    obtain ⟨hg1, q1, h1, z1, k1, k2⟩ := m73 (L := L) (A := sw_s (sw_s (sw_s A 48 o) 49 hg) 51 q) (F := sw_s (sw_s F 15 h) 16 z) (T := T) (X := X) (Q := sw_K 76 15 none [some (.ref 47), some (.ref 2), some (.ref 9), some (.int (Int32.ofInt pr)), some (.int (Int32.ofInt iso)), some (.int (Int32.ofInt i)), x] [] Q) hA.2.2 ob
    have ez : hZ L (sw_s (sw_s (sw_s A 48 o) 49 hg) 51 q) (sw_s (sw_s F 15 h) 16 z) T X hg1 q1 h1 z1 = hP L A F T X o hg1 q1 h1 z1 := by
      unfold hZ hP
      congr 1
      · funext t
        unfold sw_s
        (repeat' split) <;> first | rfl | (exfalso; omega)
      · funext t
        unfold sw_s
        (repeat' split) <;> first | rfl | (exfalso; omega)
    rw [ez] at k2
    have a9 : sw_s (sw_s (sw_s A 48 o) 49 hg) 51 q 9 = A 9 := rfl
    have a48 : sw_s (sw_s (sw_s A 48 o) 49 hg) 51 q 48 = o := rfl
    rw [a9, a48] at k1
    obtain ⟨r, r1, r2⟩ := m75 (L := L) (A := sw_s (sw_s (sw_s A 48 o) 49 hg1) 51 q1) (F := sw_s (sw_s F 15 (h1 : Int)) 16 (z1 : Int)) (T := T) (X := X) (Q := sw_K 76 23 none [some (.ref 47), some (.ref 2), some (.ref 9), some (.int (Int32.ofInt pr)), some (.int (Int32.ofInt iso)), some (.int (Int32.ofInt i)), x] [] Q) (pr := pr) (iso := iso) hA k1.1 ob hi9 p0 p9
    have b49 : sw_s (sw_s (sw_s A 48 o) 49 hg1) 51 q1 49 = hg1 := rfl
    have b48 : sw_s (sw_s (sw_s A 48 o) 49 hg1) 51 q1 48 = o := rfl
    have b4 : sw_s (sw_s (sw_s A 48 o) 49 hg1) 51 q1 4 = A 4 := rfl
    rw [b49, b48, b4] at r1
    have er : r = lsP (CD (A 9) (A 4) pr iso (psq (A 9) (A 4) pr iso (A 48) i)) 36 := NXT_u (fun t ht => (NP_CD k1 ht).trans (CD_c (fun _ _ => rfl) hq (fun _ _ => rfl) ht)) r1 (lsP_N _)
    rcases r1 with ⟨rfl, -⟩ | ⟨s, rfl, s36, -, -⟩
    · refine ⟨o, hg1, q1, h1, z1, fun t ht => ?_, ?_⟩
      · have st := psq_st er.symm (36 - i)
        rw [show i + (36 - i) = 36 by omega] at st
        rw [st]
        exact hq t ht
      · unfold hP at k2 ⊢
        rw [r76_3]
        simp (disch := omega) only [r76_5, r76_7, r76_10, r76_11, r76_12, sw_ldi, sw_ldl, sw_lda, sw_has1, sw_i1, sw_i2, sw_l1, sw_l2, sw_li, sw_r1, sw_ri, sw_rix, sw_rv, sw_pop, sw_set1, sw_set2, List.set_cons_zero, List.set_cons_succ, List.getElem?_cons_zero, List.getElem?_cons_succ, ald_1, ald_2, ast_1, ast_2, aln_1, aln_2, gf_1, gf_2, pf_1, pf_2, nw_1, ck_0, ck_1, ck_2, ck_3, ck_4, rr_1, rc_1, rc_2, K_i, K_l, K_v, I_add, I_sub, I_mul, I_div, I_em, I_eq0, I_lt0, I_0lt, I_le0, I_0le, I_eq, I_lt, I_le, I_a1, I_r1, I_eq1, I32_at, I32_s, Int.toNat_natCast, List.set_cons_zero, reduceCtorEq, not_false_eq_true, not_true_eq_false, false_and, true_and, and_true, and_false, false_or, true_or, or_true, or_false, if_true, if_false, eq_self, ↓reduceIte, Int.reduceEq, Int.reduceLT, Int.reduceLE, Int.reduceAdd, Int.reduceSub, Int.reduceMul, Int.reduceNeg, Int.reduceToNat, Nat.reduceLT, Nat.reduceAdd, Nat.reduceEqDiff, List.length_cons, List.length_nil, h_47]
        rw [if_neg (by omega), k2]
        simp (disch := omega) only [r76_15, r76_16, r76_17, r76_18, r76_20, sw_ldi, sw_ldl, sw_lda, sw_has1, sw_i1, sw_i2, sw_l1, sw_l2, sw_li, sw_r1, sw_ri, sw_rix, sw_rv, sw_pop, sw_set1, sw_set2, List.set_cons_zero, List.set_cons_succ, List.getElem?_cons_zero, List.getElem?_cons_succ, ald_1, ald_2, ast_1, ast_2, aln_1, aln_2, gf_1, gf_2, pf_1, pf_2, nw_1, ck_0, ck_1, ck_2, ck_3, ck_4, rr_1, rc_1, rc_2, K_i, K_l, K_v, I_add, I_sub, I_mul, I_div, I_em, I_eq0, I_lt0, I_0lt, I_le0, I_0le, I_eq, I_lt, I_le, I_a1, I_r1, I_eq1, I32_at, I32_s, Int.toNat_natCast, List.set_cons_zero, reduceCtorEq, not_false_eq_true, not_true_eq_false, false_and, true_and, and_true, and_false, false_or, true_or, or_true, or_false, if_true, if_false, eq_self, ↓reduceIte, Int.reduceEq, Int.reduceLT, Int.reduceLE, Int.reduceAdd, Int.reduceSub, Int.reduceMul, Int.reduceNeg, Int.reduceToNat, Nat.reduceLT, Nat.reduceAdd, Nat.reduceEqDiff, List.length_cons, List.length_nil, h_47]
        rw [r2]
        simp (disch := omega) only [r76_23, r76_25, r76_27, r76_28, r76_31, r76_49, sw_ldi, sw_ldl, sw_lda, sw_has1, sw_i1, sw_i2, sw_l1, sw_l2, sw_li, sw_r1, sw_ri, sw_rix, sw_rv, sw_pop, sw_set1, sw_set2, List.set_cons_zero, List.set_cons_succ, List.getElem?_cons_zero, List.getElem?_cons_succ, ald_1, ald_2, ast_1, ast_2, aln_1, aln_2, gf_1, gf_2, pf_1, pf_2, nw_1, ck_0, ck_1, ck_2, ck_3, ck_4, rr_1, rc_1, rc_2, K_i, K_l, K_v, I_add, I_sub, I_mul, I_div, I_em, I_eq0, I_lt0, I_0lt, I_le0, I_0le, I_eq, I_lt, I_le, I_a1, I_r1, I_eq1, I32_at, I32_s, Int.toNat_natCast, List.set_cons_zero, reduceCtorEq, not_false_eq_true, not_true_eq_false, false_and, true_and, and_true, and_false, false_or, true_or, or_true, or_false, if_true, if_false, eq_self, ↓reduceIte, Int.reduceEq, Int.reduceLT, Int.reduceLE, Int.reduceAdd, Int.reduceSub, Int.reduceMul, Int.reduceNeg, Int.reduceToNat, Nat.reduceLT, Nat.reduceAdd, Nat.reduceEqDiff, List.length_cons, List.length_nil]
    · have ne : ¬ lsP (CD (A 9) (A 4) pr iso (psq (A 9) (A 4) pr iso (A 48) i)) 36 = -1 := by omega
      have es : psq (A 9) (A 4) pr iso (A 48) (i + 1) = sw_s (psq (A 9) (A 4) pr iso (A 48) i) s iso := by
        show (if _ then _ else _) = _
        rw [if_neg ne, ← er, Int.toNat_natCast]
      obtain ⟨o2, hg2, q2, h2, z2, g1, g2⟩ := m76_l hA ho hi9 p0 p9 n (i + 1) (sw_s o s iso) hg1 q1 h1 z1 (some (.int (Int32.ofInt (s : Int)))) (by omega) (fun t ht => by
        rw [es]
        unfold sw_s
        split
        · rfl
        · exact hq t ht) (fun j hj => by
        by_cases e : j = i
        · rw [e]; exact ne
        · exact hp j (by omega))
      refine ⟨o2, hg2, q2, h2, z2, g1, Eq.trans ?_ g2⟩
      unfold hP at k2 ⊢
      rw [r76_3]
      simp (disch := omega) only [r76_5, r76_7, r76_10, r76_11, r76_12, sw_ldi, sw_ldl, sw_lda, sw_has1, sw_i1, sw_i2, sw_l1, sw_l2, sw_li, sw_r1, sw_ri, sw_rix, sw_rv, sw_pop, sw_set1, sw_set2, List.set_cons_zero, List.set_cons_succ, List.getElem?_cons_zero, List.getElem?_cons_succ, ald_1, ald_2, ast_1, ast_2, aln_1, aln_2, gf_1, gf_2, pf_1, pf_2, nw_1, ck_0, ck_1, ck_2, ck_3, ck_4, rr_1, rc_1, rc_2, K_i, K_l, K_v, I_add, I_sub, I_mul, I_div, I_em, I_eq0, I_lt0, I_0lt, I_le0, I_0le, I_eq, I_lt, I_le, I_a1, I_r1, I_eq1, I32_at, I32_s, Int.toNat_natCast, List.set_cons_zero, reduceCtorEq, not_false_eq_true, not_true_eq_false, false_and, true_and, and_true, and_false, false_or, true_or, or_true, or_false, if_true, if_false, eq_self, ↓reduceIte, Int.reduceEq, Int.reduceLT, Int.reduceLE, Int.reduceAdd, Int.reduceSub, Int.reduceMul, Int.reduceNeg, Int.reduceToNat, Nat.reduceLT, Nat.reduceAdd, Nat.reduceEqDiff, List.length_cons, List.length_nil, h_47]
      rw [if_neg (by omega), k2]
      simp (disch := omega) only [r76_15, r76_16, r76_17, r76_18, r76_20, sw_ldi, sw_ldl, sw_lda, sw_has1, sw_i1, sw_i2, sw_l1, sw_l2, sw_li, sw_r1, sw_ri, sw_rix, sw_rv, sw_pop, sw_set1, sw_set2, List.set_cons_zero, List.set_cons_succ, List.getElem?_cons_zero, List.getElem?_cons_succ, ald_1, ald_2, ast_1, ast_2, aln_1, aln_2, gf_1, gf_2, pf_1, pf_2, nw_1, ck_0, ck_1, ck_2, ck_3, ck_4, rr_1, rc_1, rc_2, K_i, K_l, K_v, I_add, I_sub, I_mul, I_div, I_em, I_eq0, I_lt0, I_0lt, I_le0, I_0le, I_eq, I_lt, I_le, I_a1, I_r1, I_eq1, I32_at, I32_s, Int.toNat_natCast, List.set_cons_zero, reduceCtorEq, not_false_eq_true, not_true_eq_false, false_and, true_and, and_true, and_false, false_or, true_or, or_true, or_false, if_true, if_false, eq_self, ↓reduceIte, Int.reduceEq, Int.reduceLT, Int.reduceLE, Int.reduceAdd, Int.reduceSub, Int.reduceMul, Int.reduceNeg, Int.reduceToNat, Nat.reduceLT, Nat.reduceAdd, Nat.reduceEqDiff, List.length_cons, List.length_nil, h_47]
      rw [r2]
      simp (disch := omega) only [r76_23, r76_25, r76_27, r76_28, sw_ldi, sw_ldl, sw_lda, sw_has1, sw_i1, sw_i2, sw_l1, sw_l2, sw_li, sw_r1, sw_ri, sw_rix, sw_rv, sw_pop, sw_set1, sw_set2, List.set_cons_zero, List.set_cons_succ, List.getElem?_cons_zero, List.getElem?_cons_succ, ald_1, ald_2, ast_1, ast_2, aln_1, aln_2, gf_1, gf_2, pf_1, pf_2, nw_1, ck_0, ck_1, ck_2, ck_3, ck_4, rr_1, rc_1, rc_2, K_i, K_l, K_v, I_add, I_sub, I_mul, I_div, I_em, I_eq0, I_lt0, I_0lt, I_le0, I_0le, I_eq, I_lt, I_le, I_a1, I_r1, I_eq1, I32_at, I32_s, Int.toNat_natCast, List.set_cons_zero, reduceCtorEq, not_false_eq_true, not_true_eq_false, false_and, true_and, and_true, and_false, false_or, true_or, or_true, or_false, if_true, if_false, eq_self, ↓reduceIte, Int.reduceEq, Int.reduceLT, Int.reduceLE, Int.reduceAdd, Int.reduceSub, Int.reduceMul, Int.reduceNeg, Int.reduceToNat, Nat.reduceLT, Nat.reduceAdd, Nat.reduceEqDiff, List.length_cons, List.length_nil]
      simp (disch := omega) only [r76_34, r76_35, r76_38, r76_40, r76_42, r76_43, r76_46, sw_ldi, sw_ldl, sw_lda, sw_has1, sw_i1, sw_i2, sw_l1, sw_l2, sw_li, sw_r1, sw_ri, sw_rix, sw_rv, sw_pop, sw_set1, sw_set2, List.set_cons_zero, List.set_cons_succ, List.getElem?_cons_zero, List.getElem?_cons_succ, ald_1, ald_2, ast_1, ast_2, aln_1, aln_2, gf_1, gf_2, pf_1, pf_2, nw_1, ck_0, ck_1, ck_2, ck_3, ck_4, rr_1, rc_1, rc_2, K_i, K_l, K_v, I_add, I_sub, I_mul, I_div, I_em, I_eq0, I_lt0, I_0lt, I_le0, I_0le, I_eq, I_lt, I_le, I_a1, I_r1, I_eq1, I32_at, I32_s, Int.toNat_natCast, List.set_cons_zero, reduceCtorEq, not_false_eq_true, not_true_eq_false, false_and, true_and, and_true, and_false, false_or, true_or, or_true, or_false, if_true, if_false, eq_self, ↓reduceIte, Int.reduceEq, Int.reduceLT, Int.reduceLE, Int.reduceAdd, Int.reduceSub, Int.reduceMul, Int.reduceNeg, Int.reduceToNat, Nat.reduceLT, Nat.reduceAdd, Nat.reduceEqDiff, List.length_cons, List.length_nil, sA_at, ss, sA_cm, h_47, h_48, w_48]
      rfl
theorem m77 {pr : Int} (hA : Nm A) (ho : B01 (A 48)) (p0 : 0 ≤ pr) (p9 : pr ≤ 1000)
    (hQ : ∀ (o hg q : Nat → Int) (G : Nat → Int), (∀ t, t < 36 → o t = psq (A 9) (A 4) pr 1 (A 48) 36 t) → G 0 = F 0 → Q (some (some (.int (Int32.ofInt (sm o 36))))) (sw_h L (sw_s (sw_s (sw_s A 48 o) 49 hg) 51 q) G T X)) :
    sw_M 77 [.ref 1, .int (Int32.ofInt pr)] (sw_h L A F T X) Q := by
  obtain ⟨o, hg, q, h, z, g1, g2⟩ := m76_l (L := L) (F := F) (T := T) (X := X) (Q := sw_K 77 28 none [some (.ref 1), some (.int (Int32.ofInt pr))] [] Q) (pr := pr) (iso := 1) hA ho (by omega) p0 p9 36 0 (A 48) (A 49) (A 51) (F 15) (F 16) none (by omega) (fun t ht => rfl) (fun j hj => absurd hj (Nat.not_lt_zero _))
  have hq := hQ o hg q (sw_s (sw_s F 15 h) 16 z) g1 rfl
  have ha : hP L A F T X (A 48) (A 49) (A 51) (F 15) (F 16) = sw_h L A F T X := by
    unfold hP
    rw [sA_id, sA_id, sA_id]
    congr 1
    funext j
    unfold sw_s
    split
    · next e => rw [e]
    · split
      · next e => rw [e]
      · rfl
  rw [ha] at g2
  have m3 := m35 (H := sw_h L (sw_s (sw_s (sw_s A 48 o) 49 hg) 51 q) (sw_s (sw_s F 15 h) 16 z) T X) (Q := sw_K 77 38 none [some (.ref 1), some (.int (Int32.ofInt pr))] [] Q) h_48 (by decide) (fun t ht => by
    show o t = 0 ∨ o t = 1
    rw [g1 t ht]
    exact psq_b (by omega) ho 36 t ht)
  have eo : sw_s (sw_s (sw_s A 48 o) 49 hg) 51 q 48 = o := rfl
  rw [eo] at m3
  rw [e77]
  simp (disch := omega) only [r77_0, r77_1, r77_2, r77_5, r77_8, r77_9, r77_12, r77_13, r77_16, r77_17, r77_20, r77_23, r77_24, r77_25, sw_ldi, sw_ldl, sw_lda, sw_has1, sw_i1, sw_i2, sw_l1, sw_l2, sw_li, sw_r1, sw_ri, sw_rix, sw_rv, sw_pop, sw_set1, sw_set2, List.set_cons_zero, List.set_cons_succ, List.getElem?_cons_zero, List.getElem?_cons_succ, ald_1, ald_2, ast_1, ast_2, aln_1, aln_2, gf_1, gf_2, pf_1, pf_2, nw_1, ck_0, ck_1, ck_2, ck_3, ck_4, rr_1, rc_1, rc_2, K_i, K_l, K_v, I_add, I_sub, I_mul, I_div, I_em, I_eq0, I_lt0, I_0lt, I_le0, I_0le, I_eq, I_lt, I_le, I_a1, I_r1, I_eq1, I32_at, I32_s, Int.toNat_natCast, List.set_cons_zero, reduceCtorEq, not_false_eq_true, not_true_eq_false, false_and, true_and, and_true, and_false, false_or, true_or, or_true, or_false, if_true, if_false, eq_self, ↓reduceIte, Int.reduceEq, Int.reduceLT, Int.reduceLE, Int.reduceAdd, Int.reduceSub, Int.reduceMul, Int.reduceNeg, Int.reduceToNat, Nat.reduceLT, Nat.reduceAdd, Nat.reduceEqDiff, List.length_cons, List.length_nil, m17, h_1, h_2, h_8, h_47]
  rw [e76]
  simp (disch := omega) only [r76_0, r76_1, sw_ldi, sw_ldl, sw_lda, sw_has1, sw_i1, sw_i2, sw_l1, sw_l2, sw_li, sw_r1, sw_ri, sw_rix, sw_rv, sw_pop, sw_set1, sw_set2, List.set_cons_zero, List.set_cons_succ, List.getElem?_cons_zero, List.getElem?_cons_succ, ald_1, ald_2, ast_1, ast_2, aln_1, aln_2, gf_1, gf_2, pf_1, pf_2, nw_1, ck_0, ck_1, ck_2, ck_3, ck_4, rr_1, rc_1, rc_2, K_i, K_l, K_v, I_add, I_sub, I_mul, I_div, I_em, I_eq0, I_lt0, I_0lt, I_le0, I_0le, I_eq, I_lt, I_le, I_a1, I_r1, I_eq1, I32_at, I32_s, Int.toNat_natCast, List.set_cons_zero, reduceCtorEq, not_false_eq_true, not_true_eq_false, false_and, true_and, and_true, and_false, false_or, true_or, or_true, or_false, if_true, if_false, eq_self, ↓reduceIte, Int.reduceEq, Int.reduceLT, Int.reduceLE, Int.reduceAdd, Int.reduceSub, Int.reduceMul, Int.reduceNeg, Int.reduceToNat, Nat.reduceLT, Nat.reduceAdd, Nat.reduceEqDiff, List.length_cons, List.length_nil]
  rw [show (((0 : Nat) : Int)) = 0 from rfl] at g2
  rw [g2]
  unfold hP
  simp (disch := omega) only [r77_28, r77_29, r77_32, r77_35, sw_ldi, sw_ldl, sw_lda, sw_has1, sw_i1, sw_i2, sw_l1, sw_l2, sw_li, sw_r1, sw_ri, sw_rix, sw_rv, sw_pop, sw_set1, sw_set2, List.set_cons_zero, List.set_cons_succ, List.getElem?_cons_zero, List.getElem?_cons_succ, ald_1, ald_2, ast_1, ast_2, aln_1, aln_2, gf_1, gf_2, pf_1, pf_2, nw_1, ck_0, ck_1, ck_2, ck_3, ck_4, rr_1, rc_1, rc_2, K_i, K_l, K_v, I_add, I_sub, I_mul, I_div, I_em, I_eq0, I_lt0, I_0lt, I_le0, I_0le, I_eq, I_lt, I_le, I_a1, I_r1, I_eq1, I32_at, I32_s, Int.toNat_natCast, List.set_cons_zero, reduceCtorEq, not_false_eq_true, not_true_eq_false, false_and, true_and, and_true, and_false, false_or, true_or, or_true, or_false, if_true, if_false, eq_self, ↓reduceIte, Int.reduceEq, Int.reduceLT, Int.reduceLE, Int.reduceAdd, Int.reduceSub, Int.reduceMul, Int.reduceNeg, Int.reduceToNat, Nat.reduceLT, Nat.reduceAdd, Nat.reduceEqDiff, List.length_cons, List.length_nil, h_1, h_47]
  rw [m3]
  simp (disch := omega) only [r77_38, sw_ldi, sw_ldl, sw_lda, sw_has1, sw_i1, sw_i2, sw_l1, sw_l2, sw_li, sw_r1, sw_ri, sw_rix, sw_rv, sw_pop, sw_set1, sw_set2, List.set_cons_zero, List.set_cons_succ, List.getElem?_cons_zero, List.getElem?_cons_succ, ald_1, ald_2, ast_1, ast_2, aln_1, aln_2, gf_1, gf_2, pf_1, pf_2, nw_1, ck_0, ck_1, ck_2, ck_3, ck_4, rr_1, rc_1, rc_2, K_i, K_l, K_v, I_add, I_sub, I_mul, I_div, I_em, I_eq0, I_lt0, I_0lt, I_le0, I_0le, I_eq, I_lt, I_le, I_a1, I_r1, I_eq1, I32_at, I32_s, Int.toNat_natCast, List.set_cons_zero, reduceCtorEq, not_false_eq_true, not_true_eq_false, false_and, true_and, and_true, and_false, false_or, true_or, or_true, or_false, if_true, if_false, eq_self, ↓reduceIte, Int.reduceEq, Int.reduceLT, Int.reduceLE, Int.reduceAdd, Int.reduceSub, Int.reduceMul, Int.reduceNeg, Int.reduceToNat, Nat.reduceLT, Nat.reduceAdd, Nat.reduceEqDiff, List.length_cons, List.length_nil]
  exact hq
theorem m78 {pr : Int} (hA : Nm A) (ho : B01 (A 48)) (p0 : 0 ≤ pr) (p9 : pr ≤ 1000)
    (hQ : ∀ (o hg q : Nat → Int) (G : Nat → Int), (∀ t, t < 36 → o t = psq (A 9) (A 4) pr 0 (A 48) 36 t) → G 0 = F 0 → Q (some (some (.int (Int32.ofInt (sm o 36))))) (sw_h L (sw_s (sw_s (sw_s A 48 o) 49 hg) 51 q) G T X)) :
    sw_M 78 [.ref 1, .int (Int32.ofInt pr)] (sw_h L A F T X) Q := by
  obtain ⟨o, hg, q, h, z, g1, g2⟩ := m76_l (L := L) (F := F) (T := T) (X := X) (Q := sw_K 78 28 none [some (.ref 1), some (.int (Int32.ofInt pr))] [] Q) (pr := pr) (iso := 0) hA ho (by omega) p0 p9 36 0 (A 48) (A 49) (A 51) (F 15) (F 16) none (by omega) (fun t ht => rfl) (fun j hj => absurd hj (Nat.not_lt_zero _))
  have hq := hQ o hg q (sw_s (sw_s F 15 h) 16 z) g1 rfl
  have ha : hP L A F T X (A 48) (A 49) (A 51) (F 15) (F 16) = sw_h L A F T X := by
    unfold hP
    rw [sA_id, sA_id, sA_id]
    congr 1
    funext j
    unfold sw_s
    split
    · next e => rw [e]
    · split
      · next e => rw [e]
      · rfl
  rw [ha] at g2
  have m3 := m35 (H := sw_h L (sw_s (sw_s (sw_s A 48 o) 49 hg) 51 q) (sw_s (sw_s F 15 h) 16 z) T X) (Q := sw_K 78 38 none [some (.ref 1), some (.int (Int32.ofInt pr))] [] Q) h_48 (by decide) (fun t ht => by
    show o t = 0 ∨ o t = 1
    rw [g1 t ht]
    exact psq_b (by omega) ho 36 t ht)
  have eo : sw_s (sw_s (sw_s A 48 o) 49 hg) 51 q 48 = o := rfl
  rw [eo] at m3
  rw [e78]
  simp (disch := omega) only [r78_0, r78_1, r78_2, r78_5, r78_8, r78_9, r78_12, r78_13, r78_16, r78_17, r78_20, r78_23, r78_24, r78_25, sw_ldi, sw_ldl, sw_lda, sw_has1, sw_i1, sw_i2, sw_l1, sw_l2, sw_li, sw_r1, sw_ri, sw_rix, sw_rv, sw_pop, sw_set1, sw_set2, List.set_cons_zero, List.set_cons_succ, List.getElem?_cons_zero, List.getElem?_cons_succ, ald_1, ald_2, ast_1, ast_2, aln_1, aln_2, gf_1, gf_2, pf_1, pf_2, nw_1, ck_0, ck_1, ck_2, ck_3, ck_4, rr_1, rc_1, rc_2, K_i, K_l, K_v, I_add, I_sub, I_mul, I_div, I_em, I_eq0, I_lt0, I_0lt, I_le0, I_0le, I_eq, I_lt, I_le, I_a1, I_r1, I_eq1, I32_at, I32_s, Int.toNat_natCast, List.set_cons_zero, reduceCtorEq, not_false_eq_true, not_true_eq_false, false_and, true_and, and_true, and_false, false_or, true_or, or_true, or_false, if_true, if_false, eq_self, ↓reduceIte, Int.reduceEq, Int.reduceLT, Int.reduceLE, Int.reduceAdd, Int.reduceSub, Int.reduceMul, Int.reduceNeg, Int.reduceToNat, Nat.reduceLT, Nat.reduceAdd, Nat.reduceEqDiff, List.length_cons, List.length_nil, m17, h_1, h_2, h_8, h_47]
  rw [e76]
  simp (disch := omega) only [r76_0, r76_1, sw_ldi, sw_ldl, sw_lda, sw_has1, sw_i1, sw_i2, sw_l1, sw_l2, sw_li, sw_r1, sw_ri, sw_rix, sw_rv, sw_pop, sw_set1, sw_set2, List.set_cons_zero, List.set_cons_succ, List.getElem?_cons_zero, List.getElem?_cons_succ, ald_1, ald_2, ast_1, ast_2, aln_1, aln_2, gf_1, gf_2, pf_1, pf_2, nw_1, ck_0, ck_1, ck_2, ck_3, ck_4, rr_1, rc_1, rc_2, K_i, K_l, K_v, I_add, I_sub, I_mul, I_div, I_em, I_eq0, I_lt0, I_0lt, I_le0, I_0le, I_eq, I_lt, I_le, I_a1, I_r1, I_eq1, I32_at, I32_s, Int.toNat_natCast, List.set_cons_zero, reduceCtorEq, not_false_eq_true, not_true_eq_false, false_and, true_and, and_true, and_false, false_or, true_or, or_true, or_false, if_true, if_false, eq_self, ↓reduceIte, Int.reduceEq, Int.reduceLT, Int.reduceLE, Int.reduceAdd, Int.reduceSub, Int.reduceMul, Int.reduceNeg, Int.reduceToNat, Nat.reduceLT, Nat.reduceAdd, Nat.reduceEqDiff, List.length_cons, List.length_nil]
  rw [show (((0 : Nat) : Int)) = 0 from rfl] at g2
  rw [g2]
  unfold hP
  simp (disch := omega) only [r78_28, r78_29, r78_32, r78_35, sw_ldi, sw_ldl, sw_lda, sw_has1, sw_i1, sw_i2, sw_l1, sw_l2, sw_li, sw_r1, sw_ri, sw_rix, sw_rv, sw_pop, sw_set1, sw_set2, List.set_cons_zero, List.set_cons_succ, List.getElem?_cons_zero, List.getElem?_cons_succ, ald_1, ald_2, ast_1, ast_2, aln_1, aln_2, gf_1, gf_2, pf_1, pf_2, nw_1, ck_0, ck_1, ck_2, ck_3, ck_4, rr_1, rc_1, rc_2, K_i, K_l, K_v, I_add, I_sub, I_mul, I_div, I_em, I_eq0, I_lt0, I_0lt, I_le0, I_0le, I_eq, I_lt, I_le, I_a1, I_r1, I_eq1, I32_at, I32_s, Int.toNat_natCast, List.set_cons_zero, reduceCtorEq, not_false_eq_true, not_true_eq_false, false_and, true_and, and_true, and_false, false_or, true_or, or_true, or_false, if_true, if_false, eq_self, ↓reduceIte, Int.reduceEq, Int.reduceLT, Int.reduceLE, Int.reduceAdd, Int.reduceSub, Int.reduceMul, Int.reduceNeg, Int.reduceToNat, Nat.reduceLT, Nat.reduceAdd, Nat.reduceEqDiff, List.length_cons, List.length_nil, h_1, h_47]
  rw [m3]
  simp (disch := omega) only [r78_38, sw_ldi, sw_ldl, sw_lda, sw_has1, sw_i1, sw_i2, sw_l1, sw_l2, sw_li, sw_r1, sw_ri, sw_rix, sw_rv, sw_pop, sw_set1, sw_set2, List.set_cons_zero, List.set_cons_succ, List.getElem?_cons_zero, List.getElem?_cons_succ, ald_1, ald_2, ast_1, ast_2, aln_1, aln_2, gf_1, gf_2, pf_1, pf_2, nw_1, ck_0, ck_1, ck_2, ck_3, ck_4, rr_1, rc_1, rc_2, K_i, K_l, K_v, I_add, I_sub, I_mul, I_div, I_em, I_eq0, I_lt0, I_0lt, I_le0, I_0le, I_eq, I_lt, I_le, I_a1, I_r1, I_eq1, I32_at, I32_s, Int.toNat_natCast, List.set_cons_zero, reduceCtorEq, not_false_eq_true, not_true_eq_false, false_and, true_and, and_true, and_false, false_or, true_or, or_true, or_false, if_true, if_false, eq_self, ↓reduceIte, Int.reduceEq, Int.reduceLT, Int.reduceLE, Int.reduceAdd, Int.reduceSub, Int.reduceMul, Int.reduceNeg, Int.reduceToNat, Nat.reduceLT, Nat.reduceAdd, Nat.reduceEqDiff, List.length_cons, List.length_nil]
  exact hq
end sw_pv
