/-! comers -/
section sw_co
variable {L : Nat} {A : Nat → Nat → Int} {F : Nat → Int} {T : Nat → sw_Ce} {X : Nat × Nat × Nat} {Q : sw_Ot → sw_HS → Prop} {shut : Int64} {fr : Nat}
/-- the bonds are looked through at the n-th, n > 0 -/
theorem m144_b {th : Int64} {g : Int32} {n : Nat} (hL : Lw A shut) (n0 : 0 < n) (n9 : n < 36) : ∀ (d i : Nat) (y : Option Value), i + d = 60 → ∃ y2 : Option Value, sw_A 144 64 [some (.ref 1), some (.ref 54), some (.long shut), none, some (.int (Int32.ofInt fr)), some (.long th), none, some (.int g), some (.int (Int32.ofInt n)), some (.int (Int32.ofInt (nxb (A 54) (fun u => bi (hb shut u)) (fun u => bi (hb th u)) i))), some (.int (Int32.ofInt i)), y] [] (sw_h L A F T X) Q = sw_A 144 161 [some (.ref 1), some (.ref 54), some (.long shut), none, some (.int (Int32.ofInt fr)), some (.long th), none, some (.int g), some (.int (Int32.ofInt n)), some (.int (Int32.ofInt (nxb (A 54) (fun u => bi (hb shut u)) (fun u => bi (hb th u)) 60))), some (.int (Int32.ofInt 60)), y2] [] (sw_h L A F T X) Q
  | 0, i, y, hn => by
    have e : i = 60 := hn
    subst e
    refine ⟨y, ?_⟩
    rw [r144_64]
    simp (disch := omega) only [r144_66, r144_68, sw_ldi, sw_ldl, sw_lda, sw_has1, sw_i1, sw_i2, sw_l1, sw_l2, sw_li, sw_r1, sw_ri, sw_rix, sw_rv, sw_pop, sw_set1, sw_set2, List.set_cons_zero, List.set_cons_succ, List.getElem?_cons_zero, List.getElem?_cons_succ, ald_1, ald_2, ast_1, ast_2, aln_1, aln_2, gf_1, gf_2, pf_1, pf_2, nw_1, ck_0, ck_1, ck_2, ck_3, ck_4, rr_1, rc_1, rc_2, K_i, K_l, K_v, I_add, I_sub, I_mul, I_div, I_em, I_eq0, I_lt0, I_0lt, I_le0, I_0le, I_eq, I_lt, I_le, I_a1, I_r1, I_eq1, I32_at, I32_s, Int.toNat_natCast, List.set_cons_zero, reduceCtorEq, not_false_eq_true, not_true_eq_false, false_and, true_and, and_true, and_false, false_or, true_or, or_true, or_false, if_true, if_false, eq_self, ↓reduceIte, Int.reduceEq, Int.reduceLT, Int.reduceLE, Int.reduceAdd, Int.reduceSub, Int.reduceMul, Int.reduceNeg, Int.reduceToNat, Nat.reduceLT, Nat.reduceAdd, Nat.reduceEqDiff, List.length_cons, List.length_nil, Int.le_refl]
    rfl
  | d + 1, i, y, hn => by
    have i60 : i < 60 := by omega
    obtain ⟨nb1, -⟩ := Lw_n hL
    have l1 := lo_lt i60
    have l2 := hi_lt i60
    have w9 := nb1 i i60
    obtain ⟨y1, ih1⟩ := m144_b (th := th) (g := g) hL n0 n9 d (i + 1) (some (.int (Int32.ofInt 1))) (by omega)
    obtain ⟨y0, ih0⟩ := m144_b (th := th) (g := g) hL n0 n9 d (i + 1) (some (.int (Int32.ofInt 0))) (by omega)
    have u1 : (¬ bi (hb th (lo i)) = bi (hb th (hi i)) ∧ bi (hb shut (lo i)) = 0 ∧ bi (hb shut (hi i)) = 0 ∧ (nxb (A 54) (fun u => bi (hb shut u)) (fun u => bi (hb th u)) i = -1 ∨ A 54 i < A 54 (nxb (A 54) (fun u => bi (hb shut u)) (fun u => bi (hb th u)) i).toNat)) → nxb (A 54) (fun u => bi (hb shut u)) (fun u => bi (hb th u)) (i + 1) = (i : Int) := fun h => if_pos h
    have u0 : ¬ (¬ bi (hb th (lo i)) = bi (hb th (hi i)) ∧ bi (hb shut (lo i)) = 0 ∧ bi (hb shut (hi i)) = 0 ∧ (nxb (A 54) (fun u => bi (hb shut u)) (fun u => bi (hb th u)) i = -1 ∨ A 54 i < A 54 (nxb (A 54) (fun u => bi (hb shut u)) (fun u => bi (hb th u)) i).toNat)) → nxb (A 54) (fun u => bi (hb shut u)) (fun u => bi (hb th u)) (i + 1) = nxb (A 54) (fun u => bi (hb shut u)) (fun u => bi (hb th u)) i := fun h => if_neg h
    have vb : True → (nxb (A 54) (fun u => bi (hb shut u)) (fun u => bi (hb th u)) i = -1 ∨ ∃ b : Nat, nxb (A 54) (fun u => bi (hb shut u)) (fun u => bi (hb th u)) i = (b : Int) ∧ b < 60) := fun _ => by
      rcases nxb_v (w := A 54) (sh := fun u => bi (hb shut u)) (th := fun u => bi (hb th u)) i with e | ⟨b, e, h1, -⟩
      · exact Or.inl e
      · exact Or.inr ⟨b, e, by omega⟩
    generalize nxb (A 54) (fun u => bi (hb shut u)) (fun u => bi (hb th u)) (i + 1) = v1 at *
    generalize nxb (A 54) (fun u => bi (hb shut u)) (fun u => bi (hb th u)) i = v at *
    have m1 := fun (Q : sw_Ot → sw_HS → Prop) (H : sw_HS) => m30 (H := H) (Q := Q) th (lo i) (by omega) (by omega)
    have m2 := fun (Q : sw_Ot → sw_HS → Prop) (H : sw_HS) => m30 (H := H) (Q := Q) th (hi i) (by omega) (by omega)
    have m3 := fun (Q : sw_Ot → sw_HS → Prop) (H : sw_HS) => m30 (H := H) (Q := Q) shut (lo i) (by omega) (by omega)
    have m4 := fun (Q : sw_Ot → sw_HS → Prop) (H : sw_HS) => m30 (H := H) (Q := Q) shut (hi i) (by omega) (by omega)
    simp only [Int.toNat_natCast] at m1 m2 m3 m4
    have t1 := bi_b (hb th (lo i))
    have t2 := bi_b (hb th (hi i))
    have s1 := bi_b (hb shut (lo i))
    have s2 := bi_b (hb shut (hi i))
    generalize bi (hb th (lo i)) = p1 at *
    generalize bi (hb th (hi i)) = p2 at *
    generalize bi (hb shut (lo i)) = q1 at *
    generalize bi (hb shut (hi i)) = q2 at *
    have pre : sw_A 144 64 [some (.ref 1), some (.ref 54), some (.long shut), none, some (.int (Int32.ofInt fr)), some (.long th), none, some (.int g), some (.int (Int32.ofInt n)), some (.int (Int32.ofInt v)), some (.int (Int32.ofInt i)), y] [] (sw_h L A F T X) Q = sw_A 144 130 [some (.ref 1), some (.ref 54), some (.long shut), none, some (.int (Int32.ofInt fr)), some (.long th), none, some (.int g), some (.int (Int32.ofInt n)), some (.int (Int32.ofInt v)), some (.int (Int32.ofInt i)), some (.int (Int32.ofInt (if ¬ p1 = p2 ∧ q1 = 0 ∧ q2 = 0 then 1 else 0)))] [] (sw_h L A F T X) Q := by
      rw [r144_64]
      simp (disch := omega) only [r144_66, r144_68, r144_71, r144_73, r144_76, r144_78, r144_80, r144_83, r144_86, r144_88, r144_90, r144_93, sw_ldi, sw_ldl, sw_lda, sw_has1, sw_i1, sw_i2, sw_l1, sw_l2, sw_li, sw_r1, sw_ri, sw_rix, sw_rv, sw_pop, sw_set1, sw_set2, List.set_cons_zero, List.set_cons_succ, List.getElem?_cons_zero, List.getElem?_cons_succ, ald_1, ald_2, ast_1, ast_2, aln_1, aln_2, gf_1, gf_2, pf_1, pf_2, nw_1, ck_0, ck_1, ck_2, ck_3, ck_4, rr_1, rc_1, rc_2, K_i, K_l, K_v, I_add, I_sub, I_mul, I_div, I_em, I_eq0, I_lt0, I_0lt, I_le0, I_0le, I_eq, I_lt, I_le, I_a1, I_r1, I_eq1, I32_at, I32_s, Int.toNat_natCast, List.set_cons_zero, reduceCtorEq, not_false_eq_true, not_true_eq_false, false_and, true_and, and_true, and_false, false_or, true_or, or_true, or_false, if_true, if_false, eq_self, ↓reduceIte, Int.reduceEq, Int.reduceLT, Int.reduceLE, Int.reduceAdd, Int.reduceSub, Int.reduceMul, Int.reduceNeg, Int.reduceToNat, Nat.reduceLT, Nat.reduceAdd, Nat.reduceEqDiff, List.length_cons, List.length_nil, m79, m80, l1.2, l2.2, m1, m2, m3, m4]
      rw [if_neg (by omega), if_neg (by omega)]
      simp (disch := omega) only [r144_96, sw_ldi, sw_ldl, sw_lda, sw_has1, sw_i1, sw_i2, sw_l1, sw_l2, sw_li, sw_r1, sw_ri, sw_rix, sw_rv, sw_pop, sw_set1, sw_set2, List.set_cons_zero, List.set_cons_succ, List.getElem?_cons_zero, List.getElem?_cons_succ, ald_1, ald_2, ast_1, ast_2, aln_1, aln_2, gf_1, gf_2, pf_1, pf_2, nw_1, ck_0, ck_1, ck_2, ck_3, ck_4, rr_1, rc_1, rc_2, K_i, K_l, K_v, I_add, I_sub, I_mul, I_div, I_em, I_eq0, I_lt0, I_0lt, I_le0, I_0le, I_eq, I_lt, I_le, I_a1, I_r1, I_eq1, I32_at, I32_s, Int.toNat_natCast, List.set_cons_zero, reduceCtorEq, not_false_eq_true, not_true_eq_false, false_and, true_and, and_true, and_false, false_or, true_or, or_true, or_false, if_true, if_false, eq_self, ↓reduceIte, Int.reduceEq, Int.reduceLT, Int.reduceLE, Int.reduceAdd, Int.reduceSub, Int.reduceMul, Int.reduceNeg, Int.reduceToNat, Nat.reduceLT, Nat.reduceAdd, Nat.reduceEqDiff, List.length_cons, List.length_nil]
      by_cases c1 : p1 = p2
      · rw [if_pos c1, if_neg (fun q => q.1 c1)]
        simp (disch := omega) only [r144_127, r144_128, sw_ldi, sw_ldl, sw_lda, sw_has1, sw_i1, sw_i2, sw_l1, sw_l2, sw_li, sw_r1, sw_ri, sw_rix, sw_rv, sw_pop, sw_set1, sw_set2, List.set_cons_zero, List.set_cons_succ, List.getElem?_cons_zero, List.getElem?_cons_succ, ald_1, ald_2, ast_1, ast_2, aln_1, aln_2, gf_1, gf_2, pf_1, pf_2, nw_1, ck_0, ck_1, ck_2, ck_3, ck_4, rr_1, rc_1, rc_2, K_i, K_l, K_v, I_add, I_sub, I_mul, I_div, I_em, I_eq0, I_lt0, I_0lt, I_le0, I_0le, I_eq, I_lt, I_le, I_a1, I_r1, I_eq1, I32_at, I32_s, Int.toNat_natCast, List.set_cons_zero, reduceCtorEq, not_false_eq_true, not_true_eq_false, false_and, true_and, and_true, and_false, false_or, true_or, or_true, or_false, if_true, if_false, eq_self, ↓reduceIte, Int.reduceEq, Int.reduceLT, Int.reduceLE, Int.reduceAdd, Int.reduceSub, Int.reduceMul, Int.reduceNeg, Int.reduceToNat, Nat.reduceLT, Nat.reduceAdd, Nat.reduceEqDiff, List.length_cons, List.length_nil]
      · rw [if_neg c1]
        simp (disch := omega) only [r144_99, r144_100, r144_102, r144_105, r144_108, sw_ldi, sw_ldl, sw_lda, sw_has1, sw_i1, sw_i2, sw_l1, sw_l2, sw_li, sw_r1, sw_ri, sw_rix, sw_rv, sw_pop, sw_set1, sw_set2, List.set_cons_zero, List.set_cons_succ, List.getElem?_cons_zero, List.getElem?_cons_succ, ald_1, ald_2, ast_1, ast_2, aln_1, aln_2, gf_1, gf_2, pf_1, pf_2, nw_1, ck_0, ck_1, ck_2, ck_3, ck_4, rr_1, rc_1, rc_2, K_i, K_l, K_v, I_add, I_sub, I_mul, I_div, I_em, I_eq0, I_lt0, I_0lt, I_le0, I_0le, I_eq, I_lt, I_le, I_a1, I_r1, I_eq1, I32_at, I32_s, Int.toNat_natCast, List.set_cons_zero, reduceCtorEq, not_false_eq_true, not_true_eq_false, false_and, true_and, and_true, and_false, false_or, true_or, or_true, or_false, if_true, if_false, eq_self, ↓reduceIte, Int.reduceEq, Int.reduceLT, Int.reduceLE, Int.reduceAdd, Int.reduceSub, Int.reduceMul, Int.reduceNeg, Int.reduceToNat, Nat.reduceLT, Nat.reduceAdd, Nat.reduceEqDiff, List.length_cons, List.length_nil, m79, m80, l1.2, l2.2, m1, m2, m3, m4]
        by_cases c2 : q1 = 0
        · rw [if_neg (by omega)]
          simp (disch := omega) only [r144_111, r144_112, r144_114, r144_117, r144_120, sw_ldi, sw_ldl, sw_lda, sw_has1, sw_i1, sw_i2, sw_l1, sw_l2, sw_li, sw_r1, sw_ri, sw_rix, sw_rv, sw_pop, sw_set1, sw_set2, List.set_cons_zero, List.set_cons_succ, List.getElem?_cons_zero, List.getElem?_cons_succ, ald_1, ald_2, ast_1, ast_2, aln_1, aln_2, gf_1, gf_2, pf_1, pf_2, nw_1, ck_0, ck_1, ck_2, ck_3, ck_4, rr_1, rc_1, rc_2, K_i, K_l, K_v, I_add, I_sub, I_mul, I_div, I_em, I_eq0, I_lt0, I_0lt, I_le0, I_0le, I_eq, I_lt, I_le, I_a1, I_r1, I_eq1, I32_at, I32_s, Int.toNat_natCast, List.set_cons_zero, reduceCtorEq, not_false_eq_true, not_true_eq_false, false_and, true_and, and_true, and_false, false_or, true_or, or_true, or_false, if_true, if_false, eq_self, ↓reduceIte, Int.reduceEq, Int.reduceLT, Int.reduceLE, Int.reduceAdd, Int.reduceSub, Int.reduceMul, Int.reduceNeg, Int.reduceToNat, Nat.reduceLT, Nat.reduceAdd, Nat.reduceEqDiff, List.length_cons, List.length_nil, m79, m80, l1.2, l2.2, m1, m2, m3, m4]
          by_cases c3 : q2 = 0
          · rw [if_neg (by omega), if_pos ⟨c1, c2, c3⟩]
            simp (disch := omega) only [r144_123, r144_124, r144_127, r144_128, sw_ldi, sw_ldl, sw_lda, sw_has1, sw_i1, sw_i2, sw_l1, sw_l2, sw_li, sw_r1, sw_ri, sw_rix, sw_rv, sw_pop, sw_set1, sw_set2, List.set_cons_zero, List.set_cons_succ, List.getElem?_cons_zero, List.getElem?_cons_succ, ald_1, ald_2, ast_1, ast_2, aln_1, aln_2, gf_1, gf_2, pf_1, pf_2, nw_1, ck_0, ck_1, ck_2, ck_3, ck_4, rr_1, rc_1, rc_2, K_i, K_l, K_v, I_add, I_sub, I_mul, I_div, I_em, I_eq0, I_lt0, I_0lt, I_le0, I_0le, I_eq, I_lt, I_le, I_a1, I_r1, I_eq1, I32_at, I32_s, Int.toNat_natCast, List.set_cons_zero, reduceCtorEq, not_false_eq_true, not_true_eq_false, false_and, true_and, and_true, and_false, false_or, true_or, or_true, or_false, if_true, if_false, eq_self, ↓reduceIte, Int.reduceEq, Int.reduceLT, Int.reduceLE, Int.reduceAdd, Int.reduceSub, Int.reduceMul, Int.reduceNeg, Int.reduceToNat, Nat.reduceLT, Nat.reduceAdd, Nat.reduceEqDiff, List.length_cons, List.length_nil]
          · rw [if_pos c3, if_neg (fun q => c3 q.2.2)]
            simp (disch := omega) only [r144_127, r144_128, sw_ldi, sw_ldl, sw_lda, sw_has1, sw_i1, sw_i2, sw_l1, sw_l2, sw_li, sw_r1, sw_ri, sw_rix, sw_rv, sw_pop, sw_set1, sw_set2, List.set_cons_zero, List.set_cons_succ, List.getElem?_cons_zero, List.getElem?_cons_succ, ald_1, ald_2, ast_1, ast_2, aln_1, aln_2, gf_1, gf_2, pf_1, pf_2, nw_1, ck_0, ck_1, ck_2, ck_3, ck_4, rr_1, rc_1, rc_2, K_i, K_l, K_v, I_add, I_sub, I_mul, I_div, I_em, I_eq0, I_lt0, I_0lt, I_le0, I_0le, I_eq, I_lt, I_le, I_a1, I_r1, I_eq1, I32_at, I32_s, Int.toNat_natCast, List.set_cons_zero, reduceCtorEq, not_false_eq_true, not_true_eq_false, false_and, true_and, and_true, and_false, false_or, true_or, or_true, or_false, if_true, if_false, eq_self, ↓reduceIte, Int.reduceEq, Int.reduceLT, Int.reduceLE, Int.reduceAdd, Int.reduceSub, Int.reduceMul, Int.reduceNeg, Int.reduceToNat, Nat.reduceLT, Nat.reduceAdd, Nat.reduceEqDiff, List.length_cons, List.length_nil]
        · rw [if_pos c2, if_neg (fun q => c2 q.2.1)]
          simp (disch := omega) only [r144_127, r144_128, sw_ldi, sw_ldl, sw_lda, sw_has1, sw_i1, sw_i2, sw_l1, sw_l2, sw_li, sw_r1, sw_ri, sw_rix, sw_rv, sw_pop, sw_set1, sw_set2, List.set_cons_zero, List.set_cons_succ, List.getElem?_cons_zero, List.getElem?_cons_succ, ald_1, ald_2, ast_1, ast_2, aln_1, aln_2, gf_1, gf_2, pf_1, pf_2, nw_1, ck_0, ck_1, ck_2, ck_3, ck_4, rr_1, rc_1, rc_2, K_i, K_l, K_v, I_add, I_sub, I_mul, I_div, I_em, I_eq0, I_lt0, I_0lt, I_le0, I_0le, I_eq, I_lt, I_le, I_a1, I_r1, I_eq1, I32_at, I32_s, Int.toNat_natCast, List.set_cons_zero, reduceCtorEq, not_false_eq_true, not_true_eq_false, false_and, true_and, and_true, and_false, false_or, true_or, or_true, or_false, if_true, if_false, eq_self, ↓reduceIte, Int.reduceEq, Int.reduceLT, Int.reduceLE, Int.reduceAdd, Int.reduceSub, Int.reduceMul, Int.reduceNeg, Int.reduceToNat, Nat.reduceLT, Nat.reduceAdd, Nat.reduceEqDiff, List.length_cons, List.length_nil]
    by_cases c : ¬ p1 = p2 ∧ q1 = 0 ∧ q2 = 0
    · refine ⟨y1, ?_⟩
      rw [pre, if_pos c]
      rw [r144_130]
      simp (disch := omega) only [r144_132, sw_ldi, sw_ldl, sw_lda, sw_has1, sw_i1, sw_i2, sw_l1, sw_l2, sw_li, sw_r1, sw_ri, sw_rix, sw_rv, sw_pop, sw_set1, sw_set2, List.set_cons_zero, List.set_cons_succ, List.getElem?_cons_zero, List.getElem?_cons_succ, ald_1, ald_2, ast_1, ast_2, aln_1, aln_2, gf_1, gf_2, pf_1, pf_2, nw_1, ck_0, ck_1, ck_2, ck_3, ck_4, rr_1, rc_1, rc_2, K_i, K_l, K_v, I_add, I_sub, I_mul, I_div, I_em, I_eq0, I_lt0, I_0lt, I_le0, I_0le, I_eq, I_lt, I_le, I_a1, I_r1, I_eq1, I32_at, I32_s, Int.toNat_natCast, List.set_cons_zero, reduceCtorEq, not_false_eq_true, not_true_eq_false, false_and, true_and, and_true, and_false, false_or, true_or, or_true, or_false, if_true, if_false, eq_self, ↓reduceIte, Int.reduceEq, Int.reduceLT, Int.reduceLE, Int.reduceAdd, Int.reduceSub, Int.reduceMul, Int.reduceNeg, Int.reduceToNat, Nat.reduceLT, Nat.reduceAdd, Nat.reduceEqDiff, List.length_cons, List.length_nil]
      rcases vb trivial with rfl | ⟨b, rfl, hb9⟩
      · rw [u1 ⟨c.1, c.2.1, c.2.2, Or.inl rfl⟩] at ih1
        simp (disch := omega) only [r144_135, r144_137, sw_ldi, sw_ldl, sw_lda, sw_has1, sw_i1, sw_i2, sw_l1, sw_l2, sw_li, sw_r1, sw_ri, sw_rix, sw_rv, sw_pop, sw_set1, sw_set2, List.set_cons_zero, List.set_cons_succ, List.getElem?_cons_zero, List.getElem?_cons_succ, ald_1, ald_2, ast_1, ast_2, aln_1, aln_2, gf_1, gf_2, pf_1, pf_2, nw_1, ck_0, ck_1, ck_2, ck_3, ck_4, rr_1, rc_1, rc_2, K_i, K_l, K_v, I_add, I_sub, I_mul, I_div, I_em, I_eq0, I_lt0, I_0lt, I_le0, I_0le, I_eq, I_lt, I_le, I_a1, I_r1, I_eq1, I32_at, I32_s, Int.toNat_natCast, List.set_cons_zero, reduceCtorEq, not_false_eq_true, not_true_eq_false, false_and, true_and, and_true, and_false, false_or, true_or, or_true, or_false, if_true, if_false, eq_self, ↓reduceIte, Int.reduceEq, Int.reduceLT, Int.reduceLE, Int.reduceAdd, Int.reduceSub, Int.reduceMul, Int.reduceNeg, Int.reduceToNat, Nat.reduceLT, Nat.reduceAdd, Nat.reduceEqDiff, List.length_cons, List.length_nil]
        simp (disch := omega) only [r144_151, r144_153, r144_155, r144_158, sw_ldi, sw_ldl, sw_lda, sw_has1, sw_i1, sw_i2, sw_l1, sw_l2, sw_li, sw_r1, sw_ri, sw_rix, sw_rv, sw_pop, sw_set1, sw_set2, List.set_cons_zero, List.set_cons_succ, List.getElem?_cons_zero, List.getElem?_cons_succ, ald_1, ald_2, ast_1, ast_2, aln_1, aln_2, gf_1, gf_2, pf_1, pf_2, nw_1, ck_0, ck_1, ck_2, ck_3, ck_4, rr_1, rc_1, rc_2, K_i, K_l, K_v, I_add, I_sub, I_mul, I_div, I_em, I_eq0, I_lt0, I_0lt, I_le0, I_0le, I_eq, I_lt, I_le, I_a1, I_r1, I_eq1, I32_at, I32_s, Int.toNat_natCast, List.set_cons_zero, reduceCtorEq, not_false_eq_true, not_true_eq_false, false_and, true_and, and_true, and_false, false_or, true_or, or_true, or_false, if_true, if_false, eq_self, ↓reduceIte, Int.reduceEq, Int.reduceLT, Int.reduceLE, Int.reduceAdd, Int.reduceSub, Int.reduceMul, Int.reduceNeg, Int.reduceToNat, Nat.reduceLT, Nat.reduceAdd, Nat.reduceEqDiff, List.length_cons, List.length_nil]
        exact ih1
      · have w8 := nb1 b hb9
        rw [Int.toNat_natCast] at u1 u0
        simp (disch := omega) only [r144_135, r144_137, sw_ldi, sw_ldl, sw_lda, sw_has1, sw_i1, sw_i2, sw_l1, sw_l2, sw_li, sw_r1, sw_ri, sw_rix, sw_rv, sw_pop, sw_set1, sw_set2, List.set_cons_zero, List.set_cons_succ, List.getElem?_cons_zero, List.getElem?_cons_succ, ald_1, ald_2, ast_1, ast_2, aln_1, aln_2, gf_1, gf_2, pf_1, pf_2, nw_1, ck_0, ck_1, ck_2, ck_3, ck_4, rr_1, rc_1, rc_2, K_i, K_l, K_v, I_add, I_sub, I_mul, I_div, I_em, I_eq0, I_lt0, I_0lt, I_le0, I_0le, I_eq, I_lt, I_le, I_a1, I_r1, I_eq1, I32_at, I32_s, Int.toNat_natCast, List.set_cons_zero, reduceCtorEq, not_false_eq_true, not_true_eq_false, false_and, true_and, and_true, and_false, false_or, true_or, or_true, or_false, if_true, if_false, eq_self, ↓reduceIte, Int.reduceEq, Int.reduceLT, Int.reduceLE, Int.reduceAdd, Int.reduceSub, Int.reduceMul, Int.reduceNeg, Int.reduceToNat, Nat.reduceLT, Nat.reduceAdd, Nat.reduceEqDiff, List.length_cons, List.length_nil]
        simp (disch := omega) only [r144_140, r144_141, r144_143, r144_144, r144_145, r144_147, sw_ldi, sw_ldl, sw_lda, sw_has1, sw_i1, sw_i2, sw_l1, sw_l2, sw_li, sw_r1, sw_ri, sw_rix, sw_rv, sw_pop, sw_set1, sw_set2, List.set_cons_zero, List.set_cons_succ, List.getElem?_cons_zero, List.getElem?_cons_succ, ald_1, ald_2, ast_1, ast_2, aln_1, aln_2, gf_1, gf_2, pf_1, pf_2, nw_1, ck_0, ck_1, ck_2, ck_3, ck_4, rr_1, rc_1, rc_2, K_i, K_l, K_v, I_add, I_sub, I_mul, I_div, I_em, I_eq0, I_lt0, I_0lt, I_le0, I_0le, I_eq, I_lt, I_le, I_a1, I_r1, I_eq1, I32_at, I32_s, Int.toNat_natCast, List.set_cons_zero, reduceCtorEq, not_false_eq_true, not_true_eq_false, false_and, true_and, and_true, and_false, false_or, true_or, or_true, or_false, if_true, if_false, eq_self, ↓reduceIte, Int.reduceEq, Int.reduceLT, Int.reduceLE, Int.reduceAdd, Int.reduceSub, Int.reduceMul, Int.reduceNeg, Int.reduceToNat, Nat.reduceLT, Nat.reduceAdd, Nat.reduceEqDiff, List.length_cons, List.length_nil, h_54]
        rw [r144_148]
        simp (disch := omega) only [sw_ldi, sw_ldl, sw_lda, sw_has1, sw_i1, sw_i2, sw_l1, sw_l2, sw_li, sw_r1, sw_ri, sw_rix, sw_rv, sw_pop, sw_set1, sw_set2, List.set_cons_zero, List.set_cons_succ, List.getElem?_cons_zero, List.getElem?_cons_succ, ald_1, ald_2, ast_1, ast_2, aln_1, aln_2, gf_1, gf_2, pf_1, pf_2, nw_1, ck_0, ck_1, ck_2, ck_3, ck_4, rr_1, rc_1, rc_2, K_i, K_l, K_v, I_add, I_sub, I_mul, I_div, I_em, I_eq0, I_lt0, I_0lt, I_le0, I_0le, I_eq, I_lt, I_le, I_a1, I_r1, I_eq1, I32_at, I32_s, Int.toNat_natCast, List.set_cons_zero, reduceCtorEq, not_false_eq_true, not_true_eq_false, false_and, true_and, and_true, and_false, false_or, true_or, or_true, or_false, if_true, if_false, eq_self, ↓reduceIte, Int.reduceEq, Int.reduceLT, Int.reduceLE, Int.reduceAdd, Int.reduceSub, Int.reduceMul, Int.reduceNeg, Int.reduceToNat, Nat.reduceLT, Nat.reduceAdd, Nat.reduceEqDiff, List.length_cons, List.length_nil]
        by_cases c2 : A 54 i < A 54 b
        · rw [u1 ⟨c.1, c.2.1, c.2.2, Or.inr c2⟩] at ih1
          rw [if_neg (Int.not_le.mpr c2)]
          simp (disch := omega) only [r144_151, r144_153, r144_155, r144_158, sw_ldi, sw_ldl, sw_lda, sw_has1, sw_i1, sw_i2, sw_l1, sw_l2, sw_li, sw_r1, sw_ri, sw_rix, sw_rv, sw_pop, sw_set1, sw_set2, List.set_cons_zero, List.set_cons_succ, List.getElem?_cons_zero, List.getElem?_cons_succ, ald_1, ald_2, ast_1, ast_2, aln_1, aln_2, gf_1, gf_2, pf_1, pf_2, nw_1, ck_0, ck_1, ck_2, ck_3, ck_4, rr_1, rc_1, rc_2, K_i, K_l, K_v, I_add, I_sub, I_mul, I_div, I_em, I_eq0, I_lt0, I_0lt, I_le0, I_0le, I_eq, I_lt, I_le, I_a1, I_r1, I_eq1, I32_at, I32_s, Int.toNat_natCast, List.set_cons_zero, reduceCtorEq, not_false_eq_true, not_true_eq_false, false_and, true_and, and_true, and_false, false_or, true_or, or_true, or_false, if_true, if_false, eq_self, ↓reduceIte, Int.reduceEq, Int.reduceLT, Int.reduceLE, Int.reduceAdd, Int.reduceSub, Int.reduceMul, Int.reduceNeg, Int.reduceToNat, Nat.reduceLT, Nat.reduceAdd, Nat.reduceEqDiff, List.length_cons, List.length_nil]
          exact ih1
        · rw [u0 (fun q => by
            rcases q.2.2.2 with z | z
            · omega
            · exact c2 z)] at ih1
          rw [if_pos (Int.not_lt.mp c2)]
          simp (disch := omega) only [r144_155, r144_158, sw_ldi, sw_ldl, sw_lda, sw_has1, sw_i1, sw_i2, sw_l1, sw_l2, sw_li, sw_r1, sw_ri, sw_rix, sw_rv, sw_pop, sw_set1, sw_set2, List.set_cons_zero, List.set_cons_succ, List.getElem?_cons_zero, List.getElem?_cons_succ, ald_1, ald_2, ast_1, ast_2, aln_1, aln_2, gf_1, gf_2, pf_1, pf_2, nw_1, ck_0, ck_1, ck_2, ck_3, ck_4, rr_1, rc_1, rc_2, K_i, K_l, K_v, I_add, I_sub, I_mul, I_div, I_em, I_eq0, I_lt0, I_0lt, I_le0, I_0le, I_eq, I_lt, I_le, I_a1, I_r1, I_eq1, I32_at, I32_s, Int.toNat_natCast, List.set_cons_zero, reduceCtorEq, not_false_eq_true, not_true_eq_false, false_and, true_and, and_true, and_false, false_or, true_or, or_true, or_false, if_true, if_false, eq_self, ↓reduceIte, Int.reduceEq, Int.reduceLT, Int.reduceLE, Int.reduceAdd, Int.reduceSub, Int.reduceMul, Int.reduceNeg, Int.reduceToNat, Nat.reduceLT, Nat.reduceAdd, Nat.reduceEqDiff, List.length_cons, List.length_nil]
          exact ih1
    · refine ⟨y0, ?_⟩
      rw [u0 (fun q => c ⟨q.1, q.2.1, q.2.2.1⟩)] at ih0
      rw [pre, if_neg c, r144_130]
      simp (disch := omega) only [r144_132, r144_155, r144_158, sw_ldi, sw_ldl, sw_lda, sw_has1, sw_i1, sw_i2, sw_l1, sw_l2, sw_li, sw_r1, sw_ri, sw_rix, sw_rv, sw_pop, sw_set1, sw_set2, List.set_cons_zero, List.set_cons_succ, List.getElem?_cons_zero, List.getElem?_cons_succ, ald_1, ald_2, ast_1, ast_2, aln_1, aln_2, gf_1, gf_2, pf_1, pf_2, nw_1, ck_0, ck_1, ck_2, ck_3, ck_4, rr_1, rc_1, rc_2, K_i, K_l, K_v, I_add, I_sub, I_mul, I_div, I_em, I_eq0, I_lt0, I_0lt, I_le0, I_0le, I_eq, I_lt, I_le, I_a1, I_r1, I_eq1, I32_at, I32_s, Int.toNat_natCast, List.set_cons_zero, reduceCtorEq, not_false_eq_true, not_true_eq_false, false_and, true_and, and_true, and_false, false_or, true_or, or_true, or_false, if_true, if_false, eq_self, ↓reduceIte, Int.reduceEq, Int.reduceLT, Int.reduceLE, Int.reduceAdd, Int.reduceSub, Int.reduceMul, Int.reduceNeg, Int.reduceToNat, Nat.reduceLT, Nat.reduceAdd, Nat.reduceEqDiff, List.length_cons, List.length_nil]
      exact ih0
theorem Lw_sh {A : Nat → Nat → Int} {shut : Int64} (h : Lw A shut) : ∀ t, t < 36 → bi (hb shut t) = A 9 t := fun t ht => by
  have q := h.2.2.2.1 t ht
  rcases h.1.2.2 t ht with e | e
  · rw [e, bi_0]
    cases z : hb shut t with
    | false => rfl
    | true => have := q.mp z; omega
  · rw [e, q.mpr e]
    rfl
theorem m144_e {d : Nat} {th : Int64} {g b9 to : Int} {n : Nat} {x11 : Option Value} (hL : Lw A shut) (hf : fr < 36) (hsh : A 9 fr = 0) (hn : n < 36) (hg : -1 ≤ g ∧ g < 1000) (hto : -1 ≤ to ∧ to < 36) (h1 : to = cmv (A 3) (A 9) fr n) (h2 : (if to < 0 then -1 else g) = mov (A 3) (A 9) fr n) (h3 : to < 0 → sm (fun u => bi (hb th u)) 36 = n)
    (hQ : to < 0 → ∀ (B : Nat → Nat → Int) (G : Nat → Int), Fm A B → G 0 = F 0 → Q (some (some (.int (Int32.ofInt 1)))) (sw_h L B G T X))
    (hN : 0 ≤ to → ∀ (B : Nat → Nat → Int) (G : Nat → Int), Fm A B → G 0 = F 0 → sw_A 144 51 [some (.ref 1), some (.ref 54), some (.long shut), none, some (.int (Int32.ofInt fr)), some (.long (th ||| wb 0 to.toNat)), none, some (.int (Int32.ofInt g)), some (.int (Int32.ofInt ((n + 1 : Nat) : Int))), some (.int (Int32.ofInt b9)), some (.int (Int32.ofInt to)), x11] [] (sw_h L B G T X) Q) :
    sw_A 144 228 [some (.ref 1), some (.ref 54), some (.long shut), none, some (.int (Int32.ofInt fr)), some (.long th), none, some (.int (Int32.ofInt g)), some (.int (Int32.ofInt n)), some (.int (Int32.ofInt b9)), some (.int (Int32.ofInt to)), x11] [] (sw_h L A F T X) Q := by
  simp (disch := omega) only [r144_228, r144_229, r144_231, r144_233, sw_ldi, sw_ldl, sw_lda, sw_has1, sw_i1, sw_i2, sw_l1, sw_l2, sw_li, sw_r1, sw_ri, sw_rix, sw_rv, sw_pop, sw_set1, sw_set2, List.set_cons_zero, List.set_cons_succ, List.getElem?_cons_zero, List.getElem?_cons_succ, ald_1, ald_2, ast_1, ast_2, aln_1, aln_2, gf_1, gf_2, pf_1, pf_2, nw_1, ck_0, ck_1, ck_2, ck_3, ck_4, rr_1, rc_1, rc_2, K_i, K_l, K_v, I_add, I_sub, I_mul, I_div, I_em, I_eq0, I_lt0, I_0lt, I_le0, I_0le, I_eq, I_lt, I_le, I_a1, I_r1, I_eq1, I32_at, I32_s, Int.toNat_natCast, List.set_cons_zero, reduceCtorEq, not_false_eq_true, not_true_eq_false, false_and, true_and, and_true, and_false, false_or, true_or, or_true, or_false, if_true, if_false, eq_self, ↓reduceIte, Int.reduceEq, Int.reduceLT, Int.reduceLE, Int.reduceAdd, Int.reduceSub, Int.reduceMul, Int.reduceNeg, Int.reduceToNat, Nat.reduceLT, Nat.reduceAdd, Nat.reduceEqDiff, List.length_cons, List.length_nil]
  refine m141_0 hL.1 hf hn hsh fun B1 G1 f1 a1 => ?_
  rw [← h1]
  have s1 : B1 9 fr = 0 := by rw [f1.2.2.2.1]; exact hsh
  simp (disch := omega) only [r144_236, r144_238, r144_241, r144_242, r144_244, r144_246, sw_ldi, sw_ldl, sw_lda, sw_has1, sw_i1, sw_i2, sw_l1, sw_l2, sw_li, sw_r1, sw_ri, sw_rix, sw_rv, sw_pop, sw_set1, sw_set2, List.set_cons_zero, List.set_cons_succ, List.getElem?_cons_zero, List.getElem?_cons_succ, ald_1, ald_2, ast_1, ast_2, aln_1, aln_2, gf_1, gf_2, pf_1, pf_2, nw_1, ck_0, ck_1, ck_2, ck_3, ck_4, rr_1, rc_1, rc_2, K_i, K_l, K_v, I_add, I_sub, I_mul, I_div, I_em, I_eq0, I_lt0, I_0lt, I_le0, I_0le, I_eq, I_lt, I_le, I_a1, I_r1, I_eq1, I32_at, I32_s, Int.toNat_natCast, List.set_cons_zero, reduceCtorEq, not_false_eq_true, not_true_eq_false, false_and, true_and, and_true, and_false, false_or, true_or, or_true, or_false, if_true, if_false, eq_self, ↓reduceIte, Int.reduceEq, Int.reduceLT, Int.reduceLE, Int.reduceAdd, Int.reduceSub, Int.reduceMul, Int.reduceNeg, Int.reduceToNat, Nat.reduceLT, Nat.reduceAdd, Nat.reduceEqDiff, List.length_cons, List.length_nil]
  refine m143_0 (Lw_F f1 hL).1 hf hn s1 fun B2 G2 f2 a2 => ?_
  rw [f1.2.1, f1.2.2.2.1, ← h2]
  have fm := Fm_t f1 f2
  have a3 : G2 0 = F 0 := by rw [a2, a1]
  by_cases c : to < 0
  · have hq := hQ c B2 G2 fm a3
    rw [if_pos c]
    simp (disch := omega) only [r144_249, r144_251, r144_254, r144_255, r144_258, r144_260, sw_ldi, sw_ldl, sw_lda, sw_has1, sw_i1, sw_i2, sw_l1, sw_l2, sw_li, sw_r1, sw_ri, sw_rix, sw_rv, sw_pop, sw_set1, sw_set2, List.set_cons_zero, List.set_cons_succ, List.getElem?_cons_zero, List.getElem?_cons_succ, ald_1, ald_2, ast_1, ast_2, aln_1, aln_2, gf_1, gf_2, pf_1, pf_2, nw_1, ck_0, ck_1, ck_2, ck_3, ck_4, rr_1, rc_1, rc_2, K_i, K_l, K_v, I_add, I_sub, I_mul, I_div, I_em, I_eq0, I_lt0, I_0lt, I_le0, I_0le, I_eq, I_lt, I_le, I_a1, I_r1, I_eq1, I32_at, I32_s, Int.toNat_natCast, List.set_cons_zero, reduceCtorEq, not_false_eq_true, not_true_eq_false, false_and, true_and, and_true, and_false, false_or, true_or, or_true, or_false, if_true, if_false, eq_self, ↓reduceIte, Int.reduceEq, Int.reduceLT, Int.reduceLE, Int.reduceAdd, Int.reduceSub, Int.reduceMul, Int.reduceNeg, Int.reduceToNat, Nat.reduceLT, Nat.reduceAdd, Nat.reduceEqDiff, List.length_cons, List.length_nil]
    rw [if_neg (by omega)]
    simp (disch := omega) only [r144_265, r144_267, r144_270, r144_272, r144_274, sw_ldi, sw_ldl, sw_lda, sw_has1, sw_i1, sw_i2, sw_l1, sw_l2, sw_li, sw_r1, sw_ri, sw_rix, sw_rv, sw_pop, sw_set1, sw_set2, List.set_cons_zero, List.set_cons_succ, List.getElem?_cons_zero, List.getElem?_cons_succ, ald_1, ald_2, ast_1, ast_2, aln_1, aln_2, gf_1, gf_2, pf_1, pf_2, nw_1, ck_0, ck_1, ck_2, ck_3, ck_4, rr_1, rc_1, rc_2, K_i, K_l, K_v, I_add, I_sub, I_mul, I_div, I_em, I_eq0, I_lt0, I_0lt, I_le0, I_0le, I_eq, I_lt, I_le, I_a1, I_r1, I_eq1, I32_at, I32_s, Int.toNat_natCast, List.set_cons_zero, reduceCtorEq, not_false_eq_true, not_true_eq_false, false_and, true_and, and_true, and_false, false_or, true_or, or_true, or_false, if_true, if_false, eq_self, ↓reduceIte, Int.reduceEq, Int.reduceLT, Int.reduceLE, Int.reduceAdd, Int.reduceSub, Int.reduceMul, Int.reduceNeg, Int.reduceToNat, Nat.reduceLT, Nat.reduceAdd, Nat.reduceEqDiff, List.length_cons, List.length_nil, m37]
    rw [if_neg (by omega), h3 c]
    simp (disch := omega) only [r144_277, r144_280, r144_281, r144_284, r144_285, sw_ldi, sw_ldl, sw_lda, sw_has1, sw_i1, sw_i2, sw_l1, sw_l2, sw_li, sw_r1, sw_ri, sw_rix, sw_rv, sw_pop, sw_set1, sw_set2, List.set_cons_zero, List.set_cons_succ, List.getElem?_cons_zero, List.getElem?_cons_succ, ald_1, ald_2, ast_1, ast_2, aln_1, aln_2, gf_1, gf_2, pf_1, pf_2, nw_1, ck_0, ck_1, ck_2, ck_3, ck_4, rr_1, rc_1, rc_2, K_i, K_l, K_v, I_add, I_sub, I_mul, I_div, I_em, I_eq0, I_lt0, I_0lt, I_le0, I_0le, I_eq, I_lt, I_le, I_a1, I_r1, I_eq1, I32_at, I32_s, Int.toNat_natCast, List.set_cons_zero, reduceCtorEq, not_false_eq_true, not_true_eq_false, false_and, true_and, and_true, and_false, false_or, true_or, or_true, or_false, if_true, if_false, eq_self, ↓reduceIte, Int.reduceEq, Int.reduceLT, Int.reduceLE, Int.reduceAdd, Int.reduceSub, Int.reduceMul, Int.reduceNeg, Int.reduceToNat, Nat.reduceLT, Nat.reduceAdd, Nat.reduceEqDiff, List.length_cons, List.length_nil]
    exact hq
  · have hn := hN (by omega) B2 G2 fm a3
    rw [if_neg c]
    simp (disch := omega) only [r144_249, r144_251, r144_254, r144_255, r144_258, r144_260, sw_ldi, sw_ldl, sw_lda, sw_has1, sw_i1, sw_i2, sw_l1, sw_l2, sw_li, sw_r1, sw_ri, sw_rix, sw_rv, sw_pop, sw_set1, sw_set2, List.set_cons_zero, List.set_cons_succ, List.getElem?_cons_zero, List.getElem?_cons_succ, ald_1, ald_2, ast_1, ast_2, aln_1, aln_2, gf_1, gf_2, pf_1, pf_2, nw_1, ck_0, ck_1, ck_2, ck_3, ck_4, rr_1, rc_1, rc_2, K_i, K_l, K_v, I_add, I_sub, I_mul, I_div, I_em, I_eq0, I_lt0, I_0lt, I_le0, I_0le, I_eq, I_lt, I_le, I_a1, I_r1, I_eq1, I32_at, I32_s, Int.toNat_natCast, List.set_cons_zero, reduceCtorEq, not_false_eq_true, not_true_eq_false, false_and, true_and, and_true, and_false, false_or, true_or, or_true, or_false, if_true, if_false, eq_self, ↓reduceIte, Int.reduceEq, Int.reduceLT, Int.reduceLE, Int.reduceAdd, Int.reduceSub, Int.reduceMul, Int.reduceNeg, Int.reduceToNat, Nat.reduceLT, Nat.reduceAdd, Nat.reduceEqDiff, List.length_cons, List.length_nil]
    rw [if_pos (by omega)]
    simp (disch := omega) only [r144_265, r144_267, sw_ldi, sw_ldl, sw_lda, sw_has1, sw_i1, sw_i2, sw_l1, sw_l2, sw_li, sw_r1, sw_ri, sw_rix, sw_rv, sw_pop, sw_set1, sw_set2, List.set_cons_zero, List.set_cons_succ, List.getElem?_cons_zero, List.getElem?_cons_succ, ald_1, ald_2, ast_1, ast_2, aln_1, aln_2, gf_1, gf_2, pf_1, pf_2, nw_1, ck_0, ck_1, ck_2, ck_3, ck_4, rr_1, rc_1, rc_2, K_i, K_l, K_v, I_add, I_sub, I_mul, I_div, I_em, I_eq0, I_lt0, I_0lt, I_le0, I_0le, I_eq, I_lt, I_le, I_a1, I_r1, I_eq1, I32_at, I32_s, Int.toNat_natCast, List.set_cons_zero, reduceCtorEq, not_false_eq_true, not_true_eq_false, false_and, true_and, and_true, and_false, false_or, true_or, or_true, or_false, if_true, if_false, eq_self, ↓reduceIte, Int.reduceEq, Int.reduceLT, Int.reduceLE, Int.reduceAdd, Int.reduceSub, Int.reduceMul, Int.reduceNeg, Int.reduceToNat, Nat.reduceLT, Nat.reduceAdd, Nat.reduceEqDiff, List.length_cons, List.length_nil]
    rw [if_pos (by omega)]
    rw [show to = ((to.toNat : Nat) : Int) by omega] at hn ⊢
    simp only [Int.toNat_natCast] at hn
    simp (disch := omega) only [r144_286, r144_288, r144_289, r144_291, r144_292, r144_293, r144_295, r144_298, sw_ldi, sw_ldl, sw_lda, sw_has1, sw_i1, sw_i2, sw_l1, sw_l2, sw_li, sw_r1, sw_ri, sw_rix, sw_rv, sw_pop, sw_set1, sw_set2, List.set_cons_zero, List.set_cons_succ, List.getElem?_cons_zero, List.getElem?_cons_succ, ald_1, ald_2, ast_1, ast_2, aln_1, aln_2, gf_1, gf_2, pf_1, pf_2, nw_1, ck_0, ck_1, ck_2, ck_3, ck_4, rr_1, rc_1, rc_2, K_i, K_l, K_v, I_add, I_sub, I_mul, I_div, I_em, I_eq0, I_lt0, I_0lt, I_le0, I_0le, I_eq, I_lt, I_le, I_a1, I_r1, I_eq1, I32_at, I32_s, Int.toNat_natCast, List.set_cons_zero, reduceCtorEq, not_false_eq_true, not_true_eq_false, false_and, true_and, and_true, and_false, false_or, true_or, or_true, or_false, if_true, if_false, eq_self, ↓reduceIte, Int.reduceEq, Int.reduceLT, Int.reduceLE, Int.reduceAdd, Int.reduceSub, Int.reduceMul, Int.reduceNeg, Int.reduceToNat, Nat.reduceLT, Nat.reduceAdd, Nat.reduceEqDiff, List.length_cons, List.length_nil, wb0]
    exact hn
theorem m144_n : ∀ (d n : Nat) (A : Nat → Nat → Int) (F : Nat → Int) (th : Int64) (g : Int) (x9 x10 x11 : Option Value), n + d = 36 → fr < 36 → Lw A shut → A 9 fr = 0 → (∀ u, u < 36 → bi (hb th u) = (iv (A 3) (A 9) fr (n - 1)).1 u) → g = (iv (A 3) (A 9) fr (n - 1)).2.2 → ivo (A 3) (A 9) fr (n - 1) → (∀ (B : Nat → Nat → Int) (G : Nat → Int), Fm A B → G 0 = F 0 → Q (some (some (.int (Int32.ofInt 1)))) (sw_h L B G T X)) →
    sw_A 144 51 [some (.ref 1), some (.ref 54), some (.long shut), none, some (.int (Int32.ofInt fr)), some (.long th), none, some (.int (Int32.ofInt g)), some (.int (Int32.ofInt n)), x9, x10, x11] [] (sw_h L A F T X) Q := by
  intro d
  induction d with
  | zero =>
    intro n A F th g x9 x10 x11 hn hf hL hsh i1 i2 i3 hQ
    have e : n = 36 := hn
    subst e
    rw [r144_51]
    simp (disch := omega) only [r144_53, r144_55, r144_301, r144_302, sw_ldi, sw_ldl, sw_lda, sw_has1, sw_i1, sw_i2, sw_l1, sw_l2, sw_li, sw_r1, sw_ri, sw_rix, sw_rv, sw_pop, sw_set1, sw_set2, List.set_cons_zero, List.set_cons_succ, List.getElem?_cons_zero, List.getElem?_cons_succ, ald_1, ald_2, ast_1, ast_2, aln_1, aln_2, gf_1, gf_2, pf_1, pf_2, nw_1, ck_0, ck_1, ck_2, ck_3, ck_4, rr_1, rc_1, rc_2, K_i, K_l, K_v, I_add, I_sub, I_mul, I_div, I_em, I_eq0, I_lt0, I_0lt, I_le0, I_0le, I_eq, I_lt, I_le, I_a1, I_r1, I_eq1, I32_at, I32_s, Int.toNat_natCast, List.set_cons_zero, reduceCtorEq, not_false_eq_true, not_true_eq_false, false_and, true_and, and_true, and_false, false_or, true_or, or_true, or_false, if_true, if_false, eq_self, ↓reduceIte, Int.reduceEq, Int.reduceLT, Int.reduceLE, Int.reduceAdd, Int.reduceSub, Int.reduceMul, Int.reduceNeg, Int.reduceToNat, Nat.reduceLT, Nat.reduceAdd, Nat.reduceEqDiff, List.length_cons, List.length_nil, Int.le_refl]
    exact hQ A F (Fm_r A) rfl
  | succ d ih =>
    intro n A F th g x9 x10 x11 hn hf hL hsh i1 i2 i3 hQ
    obtain ⟨f1, f2, f3, f4, f5, f6⟩ := iv_f (sh := A 9) hf hL.1.1 (n - 1)
    have hc : nxb (A 54) (fun u => bi (hb shut u)) (fun u => bi (hb th u)) 60 = nxb (A 3) (A 9) (iv (A 3) (A 9) fr (n - 1)).1 60 := nxb_c hL.2.1 (Lw_sh hL) i1 60 (Nat.le_refl _)
    by_cases n0 : n = 0
    · subst n0
      have iv0 : iv (A 3) (A 9) fr 0 = (sw_s (fun _ => 0) fr 1, (fr : Int), -1) := rfl
      have o0 : ivo (A 3) (A 9) fr 0 := fun i hi2 => absurd hi2 (Nat.not_lt_zero _)
      rw [r144_51]
      simp (disch := omega) only [r144_53, r144_55, r144_58, r144_59, r144_61, r144_62, sw_ldi, sw_ldl, sw_lda, sw_has1, sw_i1, sw_i2, sw_l1, sw_l2, sw_li, sw_r1, sw_ri, sw_rix, sw_rv, sw_pop, sw_set1, sw_set2, List.set_cons_zero, List.set_cons_succ, List.getElem?_cons_zero, List.getElem?_cons_succ, ald_1, ald_2, ast_1, ast_2, aln_1, aln_2, gf_1, gf_2, pf_1, pf_2, nw_1, ck_0, ck_1, ck_2, ck_3, ck_4, rr_1, rc_1, rc_2, K_i, K_l, K_v, I_add, I_sub, I_mul, I_div, I_em, I_eq0, I_lt0, I_0lt, I_le0, I_0le, I_eq, I_lt, I_le, I_a1, I_r1, I_eq1, I32_at, I32_s, Int.toNat_natCast, List.set_cons_zero, reduceCtorEq, not_false_eq_true, not_true_eq_false, false_and, true_and, and_true, and_false, false_or, true_or, or_true, or_false, if_true, if_false, eq_self, ↓reduceIte, Int.reduceEq, Int.reduceLT, Int.reduceLE, Int.reduceAdd, Int.reduceSub, Int.reduceMul, Int.reduceNeg, Int.reduceToNat, Nat.reduceLT, Nat.reduceAdd, Nat.reduceEqDiff, List.length_cons, List.length_nil]
      rw [if_neg (by omega)]
      simp (disch := omega) only [r144_64, r144_66, r144_68, r144_71, r144_73, sw_ldi, sw_ldl, sw_lda, sw_has1, sw_i1, sw_i2, sw_l1, sw_l2, sw_li, sw_r1, sw_ri, sw_rix, sw_rv, sw_pop, sw_set1, sw_set2, List.set_cons_zero, List.set_cons_succ, List.getElem?_cons_zero, List.getElem?_cons_succ, ald_1, ald_2, ast_1, ast_2, aln_1, aln_2, gf_1, gf_2, pf_1, pf_2, nw_1, ck_0, ck_1, ck_2, ck_3, ck_4, rr_1, rc_1, rc_2, K_i, K_l, K_v, I_add, I_sub, I_mul, I_div, I_em, I_eq0, I_lt0, I_0lt, I_le0, I_0le, I_eq, I_lt, I_le, I_a1, I_r1, I_eq1, I32_at, I32_s, Int.toNat_natCast, List.set_cons_zero, reduceCtorEq, not_false_eq_true, not_true_eq_false, false_and, true_and, and_true, and_false, false_or, true_or, or_true, or_false, if_true, if_false, eq_self, ↓reduceIte, Int.reduceEq, Int.reduceLT, Int.reduceLE, Int.reduceAdd, Int.reduceSub, Int.reduceMul, Int.reduceNeg, Int.reduceToNat, Nat.reduceLT, Nat.reduceAdd, Nat.reduceEqDiff, List.length_cons, List.length_nil]
      simp (disch := omega) only [r144_161, r144_163, r144_166, r144_168, r144_171, r144_173, r144_176, r144_177, r144_180, r144_182, r144_184, r144_187, r144_190, r144_193, r144_195, r144_198, r144_201, r144_203, r144_206, r144_208, r144_210, sw_ldi, sw_ldl, sw_lda, sw_has1, sw_i1, sw_i2, sw_l1, sw_l2, sw_li, sw_r1, sw_ri, sw_rix, sw_rv, sw_pop, sw_set1, sw_set2, List.set_cons_zero, List.set_cons_succ, List.getElem?_cons_zero, List.getElem?_cons_succ, ald_1, ald_2, ast_1, ast_2, aln_1, aln_2, gf_1, gf_2, pf_1, pf_2, nw_1, ck_0, ck_1, ck_2, ck_3, ck_4, rr_1, rc_1, rc_2, K_i, K_l, K_v, I_add, I_sub, I_mul, I_div, I_em, I_eq0, I_lt0, I_0lt, I_le0, I_0le, I_eq, I_lt, I_le, I_a1, I_r1, I_eq1, I32_at, I32_s, Int.toNat_natCast, List.set_cons_zero, reduceCtorEq, not_false_eq_true, not_true_eq_false, false_and, true_and, and_true, and_false, false_or, true_or, or_true, or_false, if_true, if_false, eq_self, ↓reduceIte, Int.reduceEq, Int.reduceLT, Int.reduceLE, Int.reduceAdd, Int.reduceSub, Int.reduceMul, Int.reduceNeg, Int.reduceToNat, Nat.reduceLT, Nat.reduceAdd, Nat.reduceEqDiff, List.length_cons, List.length_nil]
      refine m144_e (d := d) hL hf hsh (by omega) ⟨by omega, by omega⟩ ⟨by omega, by omega⟩ ?_ ?_ (fun q => by omega) (fun q => by omega) (fun q B G fm a => ?_)
      · show _ = @ite Int _ (Classical.propDecidable _) _ _
        rw [if_pos o0]
        rfl
      · show _ = @ite Int _ (Classical.propDecidable _) _ _
        rw [if_pos o0, if_neg (by omega), i2]
      · rw [Int.toNat_natCast]
        have e3 : B 3 = A 3 := fm.2.1
        have e9 : B 9 = A 9 := fm.2.2.2.1
        refine ih 1 B G (th ||| wb 0 fr) g _ _ _ (by omega) hf (Lw_F fm hL) (by rw [e9]; exact hsh) (fun u hu => ?_) (by rw [e3, e9]; exact i2) (by rw [e3, e9]; exact i3) (fun B2 G2 fm2 a2 => hQ B2 G2 (Fm_t fm fm2) (by rw [a2, a]))
        rw [e3, e9]
        have q := i1 u hu
        have z := congrFun (bi_wb th hf) u
        rw [z]
        show sw_s (fun u => bi (hb th u)) fr 1 u = sw_s (fun _ => (0 : Int)) fr 1 u
        unfold sw_s
        split
        · rfl
        · next ne =>
          have q : bi (hb th u) = sw_s (fun _ => (0 : Int)) fr 1 u := q
          unfold sw_s at q
          rw [if_neg ne] at q
          exact q
    · obtain ⟨m, rfl⟩ : ∃ m, n = m + 1 := ⟨n - 1, by omega⟩
      rw [show m + 1 - 1 = m from rfl] at *
      obtain ⟨y2, eb⟩ := m144_b (L := L) (F := F) (T := T) (X := X) (Q := Q) (fr := fr) (th := th) (g := Int32.ofInt g) (n := m + 1) hL (by omega) (by omega) 60 0 x11 (by omega)
      have nx0 : nxb (A 54) (fun u => bi (hb shut u)) (fun u => bi (hb th u)) 0 = -1 := rfl
      rw [nx0, hc] at eb
      have sz : sm (fun u => bi (hb th u)) 36 = ((m + 1 : Nat) : Int) := by
        rw [sm_c 36 i1, f6 i3]
        rfl
      rw [r144_51]
      simp (disch := omega) only [r144_53, r144_55, r144_58, r144_59, r144_61, r144_62, sw_ldi, sw_ldl, sw_lda, sw_has1, sw_i1, sw_i2, sw_l1, sw_l2, sw_li, sw_r1, sw_ri, sw_rix, sw_rv, sw_pop, sw_set1, sw_set2, List.set_cons_zero, List.set_cons_succ, List.getElem?_cons_zero, List.getElem?_cons_succ, ald_1, ald_2, ast_1, ast_2, aln_1, aln_2, gf_1, gf_2, pf_1, pf_2, nw_1, ck_0, ck_1, ck_2, ck_3, ck_4, rr_1, rc_1, rc_2, K_i, K_l, K_v, I_add, I_sub, I_mul, I_div, I_em, I_eq0, I_lt0, I_0lt, I_le0, I_0le, I_eq, I_lt, I_le, I_a1, I_r1, I_eq1, I32_at, I32_s, Int.toNat_natCast, List.set_cons_zero, reduceCtorEq, not_false_eq_true, not_true_eq_false, false_and, true_and, and_true, and_false, false_or, true_or, or_true, or_false, if_true, if_false, eq_self, ↓reduceIte, Int.reduceEq, Int.reduceLT, Int.reduceLE, Int.reduceAdd, Int.reduceSub, Int.reduceMul, Int.reduceNeg, Int.reduceToNat, Nat.reduceLT, Nat.reduceAdd, Nat.reduceEqDiff, List.length_cons, List.length_nil]
      rw [if_neg (by omega)]
      refine cast (Eq.symm eb) ?_
      rcases nxb_v (w := A 3) (sh := A 9) (th := (iv (A 3) (A 9) fr m).1) 60 with e | ⟨b, e, b60, b2⟩
      · rw [e]
        have no : ¬ ivo (A 3) (A 9) fr (m + 1) := fun q => q m (Nat.lt_succ_self _) e
        simp (disch := omega) only [r144_161, r144_163, r144_166, r144_168, r144_171, r144_173, r144_176, r144_177, r144_180, r144_182, r144_184, r144_187, r144_190, r144_193, r144_195, r144_198, r144_201, r144_203, r144_206, r144_208, r144_210, sw_ldi, sw_ldl, sw_lda, sw_has1, sw_i1, sw_i2, sw_l1, sw_l2, sw_li, sw_r1, sw_ri, sw_rix, sw_rv, sw_pop, sw_set1, sw_set2, List.set_cons_zero, List.set_cons_succ, List.getElem?_cons_zero, List.getElem?_cons_succ, ald_1, ald_2, ast_1, ast_2, aln_1, aln_2, gf_1, gf_2, pf_1, pf_2, nw_1, ck_0, ck_1, ck_2, ck_3, ck_4, rr_1, rc_1, rc_2, K_i, K_l, K_v, I_add, I_sub, I_mul, I_div, I_em, I_eq0, I_lt0, I_0lt, I_le0, I_0le, I_eq, I_lt, I_le, I_a1, I_r1, I_eq1, I32_at, I32_s, Int.toNat_natCast, List.set_cons_zero, reduceCtorEq, not_false_eq_true, not_true_eq_false, false_and, true_and, and_true, and_false, false_or, true_or, or_true, or_false, if_true, if_false, eq_self, ↓reduceIte, Int.reduceEq, Int.reduceLT, Int.reduceLE, Int.reduceAdd, Int.reduceSub, Int.reduceMul, Int.reduceNeg, Int.reduceToNat, Nat.reduceLT, Nat.reduceAdd, Nat.reduceEqDiff, List.length_cons, List.length_nil]
        rw [if_pos (by omega)]
        refine m144_e (d := d) hL hf hsh (by omega) ⟨by omega, by omega⟩ ⟨by omega, by omega⟩ ?_ ?_ (fun _ => sz) (fun _ => hQ) (fun q => by omega)
        · show _ = @ite Int _ (Classical.propDecidable _) _ _
          rw [if_neg no]
        · show _ = @ite Int _ (Classical.propDecidable _) _ _
          rw [if_neg no, if_pos (by omega)]
      · rw [e]
        have l1 := lo_lt b60
        have l2 := hi_lt b60
        have w9 := hL.1.1 b b60
        have w54 : A 54 b = A 3 b := hL.2.1 b b60
        have o1 : ivo (A 3) (A 9) fr (m + 1) := fun j hj => by
          by_cases z : j = m
          · subst z; omega
          · exact i3 j (by omega)
        have es : iv (A 3) (A 9) fr (m + 1) = (sw_s (iv (A 3) (A 9) fr m).1 (ivt (iv (A 3) (A 9) fr m).1 b) 1, (ivt (iv (A 3) (A 9) fr m).1 b : Int), if (iv (A 3) (A 9) fr m).2.2 < A 3 b then A 3 b else (iv (A 3) (A 9) fr m).2.2) := by
          show ivs (A 3) (A 9) (iv (A 3) (A 9) fr m) = _
          unfold ivs
          rw [e, if_neg (by omega), Int.toNat_natCast]
        have t36 : ivt (iv (A 3) (A 9) fr m).1 b < 36 := by unfold ivt; split <;> omega
        have m1 := fun (Q : sw_Ot → sw_HS → Prop) (H : sw_HS) => m30 (H := H) (Q := Q) th (lo b) (by omega) (by omega)
        simp only [Int.toNat_natCast] at m1
        rw [i1 _ l1.1] at m1
        have tb := f1 (lo b) l1.1
        have pre : sw_A 144 161 [some (.ref 1), some (.ref 54), some (.long shut), none, some (.int (Int32.ofInt fr)), some (.long th), none, some (.int (Int32.ofInt g)), some (.int (Int32.ofInt ((m + 1 : Nat) : Int))), some (.int (Int32.ofInt b)), some (.int (Int32.ofInt 60)), y2] [] (sw_h L A F T X) Q = sw_A 144 206 [some (.ref 1), some (.ref 54), some (.long shut), none, some (.int (Int32.ofInt fr)), some (.long th), none, some (.int (Int32.ofInt g)), some (.int (Int32.ofInt ((m + 1 : Nat) : Int))), some (.int (Int32.ofInt b)), some (.int (Int32.ofInt 60)), y2] [.int (Int32.ofInt (ivt (iv (A 3) (A 9) fr m).1 b : Int))] (sw_h L A F T X) Q := by
          rw [r144_161]
          simp (disch := omega) only [r144_163, r144_166, r144_168, r144_171, r144_173, sw_ldi, sw_ldl, sw_lda, sw_has1, sw_i1, sw_i2, sw_l1, sw_l2, sw_li, sw_r1, sw_ri, sw_rix, sw_rv, sw_pop, sw_set1, sw_set2, List.set_cons_zero, List.set_cons_succ, List.getElem?_cons_zero, List.getElem?_cons_succ, ald_1, ald_2, ast_1, ast_2, aln_1, aln_2, gf_1, gf_2, pf_1, pf_2, nw_1, ck_0, ck_1, ck_2, ck_3, ck_4, rr_1, rc_1, rc_2, K_i, K_l, K_v, I_add, I_sub, I_mul, I_div, I_em, I_eq0, I_lt0, I_0lt, I_le0, I_0le, I_eq, I_lt, I_le, I_a1, I_r1, I_eq1, I32_at, I32_s, Int.toNat_natCast, List.set_cons_zero, reduceCtorEq, not_false_eq_true, not_true_eq_false, false_and, true_and, and_true, and_false, false_or, true_or, or_true, or_false, if_true, if_false, eq_self, ↓reduceIte, Int.reduceEq, Int.reduceLT, Int.reduceLE, Int.reduceAdd, Int.reduceSub, Int.reduceMul, Int.reduceNeg, Int.reduceToNat, Nat.reduceLT, Nat.reduceAdd, Nat.reduceEqDiff, List.length_cons, List.length_nil]
          rw [if_pos (by omega), if_pos (show (0 : Int) ≤ ((b : Nat) : Int) by omega)]
          simp (disch := omega) only [r144_180, r144_182, r144_184, r144_187, r144_190, sw_ldi, sw_ldl, sw_lda, sw_has1, sw_i1, sw_i2, sw_l1, sw_l2, sw_li, sw_r1, sw_ri, sw_rix, sw_rv, sw_pop, sw_set1, sw_set2, List.set_cons_zero, List.set_cons_succ, List.getElem?_cons_zero, List.getElem?_cons_succ, ald_1, ald_2, ast_1, ast_2, aln_1, aln_2, gf_1, gf_2, pf_1, pf_2, nw_1, ck_0, ck_1, ck_2, ck_3, ck_4, rr_1, rc_1, rc_2, K_i, K_l, K_v, I_add, I_sub, I_mul, I_div, I_em, I_eq0, I_lt0, I_0lt, I_le0, I_0le, I_eq, I_lt, I_le, I_a1, I_r1, I_eq1, I32_at, I32_s, Int.toNat_natCast, List.set_cons_zero, reduceCtorEq, not_false_eq_true, not_true_eq_false, false_and, true_and, and_true, and_false, false_or, true_or, or_true, or_false, if_true, if_false, eq_self, ↓reduceIte, Int.reduceEq, Int.reduceLT, Int.reduceLE, Int.reduceAdd, Int.reduceSub, Int.reduceMul, Int.reduceNeg, Int.reduceToNat, Nat.reduceLT, Nat.reduceAdd, Nat.reduceEqDiff, List.length_cons, List.length_nil, m79, l1.2, m1]
          unfold ivt
          by_cases z : (iv (A 3) (A 9) fr m).1 (lo b) = 0
          · rw [if_pos z, if_pos z]
            simp (disch := omega) only [r144_201, r144_203, sw_ldi, sw_ldl, sw_lda, sw_has1, sw_i1, sw_i2, sw_l1, sw_l2, sw_li, sw_r1, sw_ri, sw_rix, sw_rv, sw_pop, sw_set1, sw_set2, List.set_cons_zero, List.set_cons_succ, List.getElem?_cons_zero, List.getElem?_cons_succ, ald_1, ald_2, ast_1, ast_2, aln_1, aln_2, gf_1, gf_2, pf_1, pf_2, nw_1, ck_0, ck_1, ck_2, ck_3, ck_4, rr_1, rc_1, rc_2, K_i, K_l, K_v, I_add, I_sub, I_mul, I_div, I_em, I_eq0, I_lt0, I_0lt, I_le0, I_0le, I_eq, I_lt, I_le, I_a1, I_r1, I_eq1, I32_at, I32_s, Int.toNat_natCast, List.set_cons_zero, reduceCtorEq, not_false_eq_true, not_true_eq_false, false_and, true_and, and_true, and_false, false_or, true_or, or_true, or_false, if_true, if_false, eq_self, ↓reduceIte, Int.reduceEq, Int.reduceLT, Int.reduceLE, Int.reduceAdd, Int.reduceSub, Int.reduceMul, Int.reduceNeg, Int.reduceToNat, Nat.reduceLT, Nat.reduceAdd, Nat.reduceEqDiff, List.length_cons, List.length_nil, m79, l1.2]
          · rw [if_neg z, if_neg z]
            simp (disch := omega) only [r144_193, r144_195, r144_198, sw_ldi, sw_ldl, sw_lda, sw_has1, sw_i1, sw_i2, sw_l1, sw_l2, sw_li, sw_r1, sw_ri, sw_rix, sw_rv, sw_pop, sw_set1, sw_set2, List.set_cons_zero, List.set_cons_succ, List.getElem?_cons_zero, List.getElem?_cons_succ, ald_1, ald_2, ast_1, ast_2, aln_1, aln_2, gf_1, gf_2, pf_1, pf_2, nw_1, ck_0, ck_1, ck_2, ck_3, ck_4, rr_1, rc_1, rc_2, K_i, K_l, K_v, I_add, I_sub, I_mul, I_div, I_em, I_eq0, I_lt0, I_0lt, I_le0, I_0le, I_eq, I_lt, I_le, I_a1, I_r1, I_eq1, I32_at, I32_s, Int.toNat_natCast, List.set_cons_zero, reduceCtorEq, not_false_eq_true, not_true_eq_false, false_and, true_and, and_true, and_false, false_or, true_or, or_true, or_false, if_true, if_false, eq_self, ↓reduceIte, Int.reduceEq, Int.reduceLT, Int.reduceLE, Int.reduceAdd, Int.reduceSub, Int.reduceMul, Int.reduceNeg, Int.reduceToNat, Nat.reduceLT, Nat.reduceAdd, Nat.reduceEqDiff, List.length_cons, List.length_nil, m80, l2.2]
        rw [pre]
        have fin : ∀ g2, g2 = (iv (A 3) (A 9) fr (m + 1)).2.2 → sw_A 144 228 [some (.ref 1), some (.ref 54), some (.long shut), none, some (.int (Int32.ofInt fr)), some (.long th), none, some (.int (Int32.ofInt g2)), some (.int (Int32.ofInt ((m + 1 : Nat) : Int))), some (.int (Int32.ofInt b)), some (.int (Int32.ofInt (ivt (iv (A 3) (A 9) fr m).1 b : Int))), y2] [] (sw_h L A F T X) Q := fun g2 hg2 => by
          obtain ⟨-, -, -, k4, k5, -⟩ := iv_f (sh := A 9) hf hL.1.1 (m + 1)
          refine m144_e (d := d) hL hf hsh (by omega) ⟨by omega, by omega⟩ ⟨by omega, by omega⟩ ?_ ?_ (fun q => by omega) (fun q => by omega) (fun q B G fm a => ?_)
          · show _ = @ite Int _ (Classical.propDecidable _) _ _
            rw [if_pos o1, es]
          · show _ = @ite Int _ (Classical.propDecidable _) _ _
            rw [if_pos o1, if_neg (by omega), hg2]
          · rw [Int.toNat_natCast]
            have e3 : B 3 = A 3 := fm.2.1
            have e9 : B 9 = A 9 := fm.2.2.2.1
            refine ih (m + 1 + 1) B G (th ||| wb 0 (ivt (iv (A 3) (A 9) fr m).1 b)) g2 _ _ _ (by omega) hf (Lw_F fm hL) (by rw [e9]; exact hsh) (fun u hu => ?_) (by rw [e3, e9]; exact hg2) (by rw [e3, e9]; exact o1) (fun B2 G2 fm2 a2 => hQ B2 G2 (Fm_t fm fm2) (by rw [a2, a]))
            rw [e3, e9]
            have z := congrFun (bi_wb th t36) u
            rw [z, show m + 1 + 1 - 1 = m + 1 from rfl, es]
            show sw_s _ _ 1 u = sw_s _ _ 1 u
            unfold sw_s
            split
            · rfl
            · exact i1 u hu
        rw [← i2] at es
        simp (disch := omega) only [r144_206, r144_208, r144_210, r144_213, r144_214, r144_216, r144_217, sw_ldi, sw_ldl, sw_lda, sw_has1, sw_i1, sw_i2, sw_l1, sw_l2, sw_li, sw_r1, sw_ri, sw_rix, sw_rv, sw_pop, sw_set1, sw_set2, List.set_cons_zero, List.set_cons_succ, List.getElem?_cons_zero, List.getElem?_cons_succ, ald_1, ald_2, ast_1, ast_2, aln_1, aln_2, gf_1, gf_2, pf_1, pf_2, nw_1, ck_0, ck_1, ck_2, ck_3, ck_4, rr_1, rc_1, rc_2, K_i, K_l, K_v, I_add, I_sub, I_mul, I_div, I_em, I_eq0, I_lt0, I_0lt, I_le0, I_0le, I_eq, I_lt, I_le, I_a1, I_r1, I_eq1, I32_at, I32_s, Int.toNat_natCast, List.set_cons_zero, reduceCtorEq, not_false_eq_true, not_true_eq_false, false_and, true_and, and_true, and_false, false_or, true_or, or_true, or_false, if_true, if_false, eq_self, ↓reduceIte, Int.reduceEq, Int.reduceLT, Int.reduceLE, Int.reduceAdd, Int.reduceSub, Int.reduceMul, Int.reduceNeg, Int.reduceToNat, Nat.reduceLT, Nat.reduceAdd, Nat.reduceEqDiff, List.length_cons, List.length_nil, h_54]
        rw [if_neg (by omega)]
        rw [r144_219]
        simp (disch := omega) only [sw_ldi, sw_ldl, sw_lda, sw_has1, sw_i1, sw_i2, sw_l1, sw_l2, sw_li, sw_r1, sw_ri, sw_rix, sw_rv, sw_pop, sw_set1, sw_set2, List.set_cons_zero, List.set_cons_succ, List.getElem?_cons_zero, List.getElem?_cons_succ, ald_1, ald_2, ast_1, ast_2, aln_1, aln_2, gf_1, gf_2, pf_1, pf_2, nw_1, ck_0, ck_1, ck_2, ck_3, ck_4, rr_1, rc_1, rc_2, K_i, K_l, K_v, I_add, I_sub, I_mul, I_div, I_em, I_eq0, I_lt0, I_0lt, I_le0, I_0le, I_eq, I_lt, I_le, I_a1, I_r1, I_eq1, I32_at, I32_s, Int.toNat_natCast, List.set_cons_zero, reduceCtorEq, not_false_eq_true, not_true_eq_false, false_and, true_and, and_true, and_false, false_or, true_or, or_true, or_false, if_true, if_false, eq_self, ↓reduceIte, Int.reduceEq, Int.reduceLT, Int.reduceLE, Int.reduceAdd, Int.reduceSub, Int.reduceMul, Int.reduceNeg, Int.reduceToNat, Nat.reduceLT, Nat.reduceAdd, Nat.reduceEqDiff, List.length_cons, List.length_nil]
        rw [w54]
        by_cases z : g < A 3 b
        · rw [if_pos z] at es
          rw [if_neg (Int.not_le.mpr z)]
          simp (disch := omega) only [r144_222, r144_223, r144_225, r144_226, sw_ldi, sw_ldl, sw_lda, sw_has1, sw_i1, sw_i2, sw_l1, sw_l2, sw_li, sw_r1, sw_ri, sw_rix, sw_rv, sw_pop, sw_set1, sw_set2, List.set_cons_zero, List.set_cons_succ, List.getElem?_cons_zero, List.getElem?_cons_succ, ald_1, ald_2, ast_1, ast_2, aln_1, aln_2, gf_1, gf_2, pf_1, pf_2, nw_1, ck_0, ck_1, ck_2, ck_3, ck_4, rr_1, rc_1, rc_2, K_i, K_l, K_v, I_add, I_sub, I_mul, I_div, I_em, I_eq0, I_lt0, I_0lt, I_le0, I_0le, I_eq, I_lt, I_le, I_a1, I_r1, I_eq1, I32_at, I32_s, Int.toNat_natCast, List.set_cons_zero, reduceCtorEq, not_false_eq_true, not_true_eq_false, false_and, true_and, and_true, and_false, false_or, true_or, or_true, or_false, if_true, if_false, eq_self, ↓reduceIte, Int.reduceEq, Int.reduceLT, Int.reduceLE, Int.reduceAdd, Int.reduceSub, Int.reduceMul, Int.reduceNeg, Int.reduceToNat, Nat.reduceLT, Nat.reduceAdd, Nat.reduceEqDiff, List.length_cons, List.length_nil, h_54]
          rw [w54]
          exact fin (A 3 b) (by rw [es])
        · rw [if_neg z] at es
          rw [if_pos (Int.not_lt.mp z)]
          exact fin g (by rw [es])
end sw_co
