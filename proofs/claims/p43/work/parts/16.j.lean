/-! lastStraw -/
section sw_ls
variable {L : Nat} {A : Nat → Nat → Int} {F : Nat → Int} {T : Nat → sw_Ce} {X : Nat × Nat × Nat} {Q : sw_Ot → sw_HS → Prop}
theorem m65_l (hs : SB (A 43)) : ∀ (n i : Nat) (w b o : Nat → Int) (c0 : Int), i + n = 1001 → (∀ e : Nat, e < i → ∀ c, BR true (12 * e) (A 43) c → ¬ c = 12) → ∃ (w2 b2 o2 : Nat → Int) (c s : Int), LSt true (A 43) s ∧ sw_A 65 4 [some (.ref 42), some (.int (Int32.ofInt (12 * i))), some (.int (Int32.ofInt i))] [] (hY L A F T X w b o c0) Q = Q (some (some (.int (Int32.ofInt (s + 1))))) (hY L A F T X w2 b2 o2 c)
  | n, i, w, b, o, c0, hn, hp => by
    have i1 : ∀ m : Nat, (1 ≤ m) → (∀ e : Nat, e < m → ∀ c, BR true (12 * e) (A 43) c → ¬ c = 12) → BR true (12 * m) (A 43) 12 → m ≤ 1001 → LSt true (A 43) (12 * m - 1) := fun m m1 q1 q2 q3 => ⟨by omega, by omega, by rw [show (12 * (m : Int) - 1 + 1) = 12 * m by omega]; exact q2, fun x x0 x1 c bb => q1 (x / 12).toNat (by omega) c (BR_l (by omega) bb)⟩
    match n, hn with
    | 0, hn =>
      have e : i = 1001 := hn
      subst e
      refine ⟨w, b, o, c0, 12 * ((1001 : Nat) : Int) - 1, i1 1001 (by omega) hp (BR_top hs) (by omega), ?_⟩
      rw [r65_4]
      simp (disch := omega) only [r65_5, r65_8, r65_33, r65_34, sw_ldi, sw_ldl, sw_lda, sw_has1, sw_i1, sw_i2, sw_l1, sw_l2, sw_li, sw_r1, sw_ri, sw_rix, sw_rv, sw_pop, sw_set1, sw_set2, List.set_cons_zero, List.set_cons_succ, List.getElem?_cons_zero, List.getElem?_cons_succ, ald_1, ald_2, ast_1, ast_2, aln_1, aln_2, gf_1, gf_2, pf_1, pf_2, nw_1, ck_0, ck_1, ck_2, ck_3, ck_4, rr_1, rc_1, rc_2, K_i, K_l, K_v, I_add, I_sub, I_mul, I_div, I_em, I_eq0, I_lt0, I_0lt, I_le0, I_0le, I_eq, I_lt, I_le, I_a1, I_r1, I_eq1, I32_at, I32_s, Int.toNat_natCast, List.set_cons_zero, reduceCtorEq, not_false_eq_true, not_true_eq_false, false_and, true_and, and_true, and_false, false_or, true_or, or_true, or_false, if_true, if_false, eq_self, ↓reduceIte, Int.reduceEq, Int.reduceLT, Int.reduceLE, Int.reduceAdd, Int.reduceSub, Int.reduceMul, Int.reduceNeg, Int.reduceToNat, Nat.reduceLT, Nat.reduceAdd, Nat.reduceEqDiff, List.length_cons, List.length_nil]
      rw [if_pos (by omega)]
      exact congrArg (fun z => Q (some (some (.int (Int32.ofInt z)))) _) (by omega)
    | n + 1, hn =>
      obtain ⟨w1, b1, o1, c1, k1, k2⟩ := m61 (L := L) (A := sw_s (sw_s (sw_s A 44 w) 45 b) 46 o) (F := sw_s F 14 c0) (T := T) (X := X) (Q := sw_K 65 16 none [some (.ref 42), some (.int (Int32.ofInt (12 * i))), some (.int (Int32.ofInt i))] [] Q) (load := 12 * i) hs (by omega) (by omega)
      have a43 : sw_s (sw_s (sw_s A 44 w) 45 b) 46 o 43 = A 43 := rfl
      rw [a43] at k1
      have ha : hY L (sw_s (sw_s (sw_s A 44 w) 45 b) 46 o) (sw_s F 14 c0) T X w1 b1 o1 c1 = hY L A F T X w1 b1 o1 c1 := by
        unfold hY
        rw [ss]
        congr 1
        funext t
        unfold sw_s
        (repeat' split) <;> first | rfl | (exfalso; omega)
      rw [ha] at k2
      have kb : True → 0 ≤ 12 - c1 ∧ 12 - c1 ≤ 12 := fun _ => by
        obtain ⟨m, -, -, e⟩ := k1
        have f := (bsq_f (loc := true) (load := 12 * i) (st := A 43) (by omega) m).1
        have := sm_b 12 f
        omega
      have kb := kb trivial
      by_cases z : 12 - c1 = 12
      · have i0 : 1 ≤ i := by
          apply Classical.byContradiction
          intro q
          have : i = 0 := by omega
          subst this
          rw [z] at k1
          have := BR_u k1 (BR_t0 hs)
          omega
        rw [z] at k1
        refine ⟨w1, b1, o1, c1, 12 * (i : Int) - 1, i1 i i0 hp k1 (by omega), ?_⟩
        rw [z] at k2
        unfold hY at k2 ⊢
        rw [r65_4]
        simp (disch := omega) only [r65_5, r65_8, r65_11, r65_12, r65_13, sw_ldi, sw_ldl, sw_lda, sw_has1, sw_i1, sw_i2, sw_l1, sw_l2, sw_li, sw_r1, sw_ri, sw_rix, sw_rv, sw_pop, sw_set1, sw_set2, List.set_cons_zero, List.set_cons_succ, List.getElem?_cons_zero, List.getElem?_cons_succ, ald_1, ald_2, ast_1, ast_2, aln_1, aln_2, gf_1, gf_2, pf_1, pf_2, nw_1, ck_0, ck_1, ck_2, ck_3, ck_4, rr_1, rc_1, rc_2, K_i, K_l, K_v, I_add, I_sub, I_mul, I_div, I_em, I_eq0, I_lt0, I_0lt, I_le0, I_0le, I_eq, I_lt, I_le, I_a1, I_r1, I_eq1, I32_at, I32_s, Int.toNat_natCast, List.set_cons_zero, reduceCtorEq, not_false_eq_true, not_true_eq_false, false_and, true_and, and_true, and_false, false_or, true_or, or_true, or_false, if_true, if_false, eq_self, ↓reduceIte, Int.reduceEq, Int.reduceLT, Int.reduceLE, Int.reduceAdd, Int.reduceSub, Int.reduceMul, Int.reduceNeg, Int.reduceToNat, Nat.reduceLT, Nat.reduceAdd, Nat.reduceEqDiff, List.length_cons, List.length_nil, h_42]
        rw [if_neg (by omega), k2]
        simp (disch := omega) only [r65_16, r65_18, r65_21, r65_33, r65_34, sw_ldi, sw_ldl, sw_lda, sw_has1, sw_i1, sw_i2, sw_l1, sw_l2, sw_li, sw_r1, sw_ri, sw_rix, sw_rv, sw_pop, sw_set1, sw_set2, List.set_cons_zero, List.set_cons_succ, List.getElem?_cons_zero, List.getElem?_cons_succ, ald_1, ald_2, ast_1, ast_2, aln_1, aln_2, gf_1, gf_2, pf_1, pf_2, nw_1, ck_0, ck_1, ck_2, ck_3, ck_4, rr_1, rc_1, rc_2, K_i, K_l, K_v, I_add, I_sub, I_mul, I_div, I_em, I_eq0, I_lt0, I_0lt, I_le0, I_0le, I_eq, I_lt, I_le, I_a1, I_r1, I_eq1, I32_at, I32_s, Int.toNat_natCast, List.set_cons_zero, reduceCtorEq, not_false_eq_true, not_true_eq_false, false_and, true_and, and_true, and_false, false_or, true_or, or_true, or_false, if_true, if_false, eq_self, ↓reduceIte, Int.reduceEq, Int.reduceLT, Int.reduceLE, Int.reduceAdd, Int.reduceSub, Int.reduceMul, Int.reduceNeg, Int.reduceToNat, Nat.reduceLT, Nat.reduceAdd, Nat.reduceEqDiff, List.length_cons, List.length_nil]
        exact congrArg (fun z => Q (some (some (.int (Int32.ofInt z)))) _) (by omega)
      · obtain ⟨w2, b2, o2, c, s, g1, g2⟩ := m65_l hs n (i + 1) w1 b1 o1 c1 (by omega) (fun e he c bb => by
          by_cases y : e = i
          · subst y
            have := BR_u bb k1
            omega
          · exact hp e (by omega) c bb)
        refine ⟨w2, b2, o2, c, s, g1, Eq.trans ?_ g2⟩
        unfold hY at k2 ⊢
        rw [r65_4]
        simp (disch := omega) only [r65_5, r65_8, r65_11, r65_12, r65_13, sw_ldi, sw_ldl, sw_lda, sw_has1, sw_i1, sw_i2, sw_l1, sw_l2, sw_li, sw_r1, sw_ri, sw_rix, sw_rv, sw_pop, sw_set1, sw_set2, List.set_cons_zero, List.set_cons_succ, List.getElem?_cons_zero, List.getElem?_cons_succ, ald_1, ald_2, ast_1, ast_2, aln_1, aln_2, gf_1, gf_2, pf_1, pf_2, nw_1, ck_0, ck_1, ck_2, ck_3, ck_4, rr_1, rc_1, rc_2, K_i, K_l, K_v, I_add, I_sub, I_mul, I_div, I_em, I_eq0, I_lt0, I_0lt, I_le0, I_0le, I_eq, I_lt, I_le, I_a1, I_r1, I_eq1, I32_at, I32_s, Int.toNat_natCast, List.set_cons_zero, reduceCtorEq, not_false_eq_true, not_true_eq_false, false_and, true_and, and_true, and_false, false_or, true_or, or_true, or_false, if_true, if_false, eq_self, ↓reduceIte, Int.reduceEq, Int.reduceLT, Int.reduceLE, Int.reduceAdd, Int.reduceSub, Int.reduceMul, Int.reduceNeg, Int.reduceToNat, Nat.reduceLT, Nat.reduceAdd, Nat.reduceEqDiff, List.length_cons, List.length_nil, h_42]
        rw [if_neg (by omega), k2]
        simp (disch := omega) only [r65_16, r65_18, sw_ldi, sw_ldl, sw_lda, sw_has1, sw_i1, sw_i2, sw_l1, sw_l2, sw_li, sw_r1, sw_ri, sw_rix, sw_rv, sw_pop, sw_set1, sw_set2, List.set_cons_zero, List.set_cons_succ, List.getElem?_cons_zero, List.getElem?_cons_succ, ald_1, ald_2, ast_1, ast_2, aln_1, aln_2, gf_1, gf_2, pf_1, pf_2, nw_1, ck_0, ck_1, ck_2, ck_3, ck_4, rr_1, rc_1, rc_2, K_i, K_l, K_v, I_add, I_sub, I_mul, I_div, I_em, I_eq0, I_lt0, I_0lt, I_le0, I_0le, I_eq, I_lt, I_le, I_a1, I_r1, I_eq1, I32_at, I32_s, Int.toNat_natCast, List.set_cons_zero, reduceCtorEq, not_false_eq_true, not_true_eq_false, false_and, true_and, and_true, and_false, false_or, true_or, or_true, or_false, if_true, if_false, eq_self, ↓reduceIte, Int.reduceEq, Int.reduceLT, Int.reduceLE, Int.reduceAdd, Int.reduceSub, Int.reduceMul, Int.reduceNeg, Int.reduceToNat, Nat.reduceLT, Nat.reduceAdd, Nat.reduceEqDiff, List.length_cons, List.length_nil]
        rw [if_pos z]
        simp (disch := omega) only [r65_24, r65_27, r65_30, sw_ldi, sw_ldl, sw_lda, sw_has1, sw_i1, sw_i2, sw_l1, sw_l2, sw_li, sw_r1, sw_ri, sw_rix, sw_rv, sw_pop, sw_set1, sw_set2, List.set_cons_zero, List.set_cons_succ, List.getElem?_cons_zero, List.getElem?_cons_succ, ald_1, ald_2, ast_1, ast_2, aln_1, aln_2, gf_1, gf_2, pf_1, pf_2, nw_1, ck_0, ck_1, ck_2, ck_3, ck_4, rr_1, rc_1, rc_2, K_i, K_l, K_v, I_add, I_sub, I_mul, I_div, I_em, I_eq0, I_lt0, I_0lt, I_le0, I_0le, I_eq, I_lt, I_le, I_a1, I_r1, I_eq1, I32_at, I32_s, Int.toNat_natCast, List.set_cons_zero, reduceCtorEq, not_false_eq_true, not_true_eq_false, false_and, true_and, and_true, and_false, false_or, true_or, or_true, or_false, if_true, if_false, eq_self, ↓reduceIte, Int.reduceEq, Int.reduceLT, Int.reduceLE, Int.reduceAdd, Int.reduceSub, Int.reduceMul, Int.reduceNeg, Int.reduceToNat, Nat.reduceLT, Nat.reduceAdd, Nat.reduceEqDiff, List.length_cons, List.length_nil]
        rw [show 12 * (i : Int) + 12 = 12 * ((i + 1 : Nat) : Int) by omega]
        rfl
theorem m66_l (hs : SB (A 43)) (hw : B12 (A 44)) : ∀ (n i : Nat), i + n = 12 → sw_A 66 4 [some (.ref 42), some (.int (Int32.ofInt (wkw (A 43) (A 44) i))), some (.int (Int32.ofInt i))] [] (sw_h L A F T X) Q = Q (some (some (.int (Int32.ofInt (wkw (A 43) (A 44) 12))))) (sw_h L A F T X)
  | 0, i, hn => by
    have e : i = 12 := hn
    subst e
    rw [r66_4]
    simp (disch := omega) only [r66_5, r66_7, r66_47, r66_48, sw_ldi, sw_ldl, sw_lda, sw_has1, sw_i1, sw_i2, sw_l1, sw_l2, sw_li, sw_r1, sw_ri, sw_rix, sw_rv, sw_pop, sw_set1, sw_set2, List.set_cons_zero, List.set_cons_succ, List.getElem?_cons_zero, List.getElem?_cons_succ, ald_1, ald_2, ast_1, ast_2, aln_1, aln_2, gf_1, gf_2, pf_1, pf_2, nw_1, ck_0, ck_1, ck_2, ck_3, ck_4, rr_1, rc_1, rc_2, K_i, K_l, K_v, I_add, I_sub, I_mul, I_div, I_em, I_eq0, I_lt0, I_0lt, I_le0, I_0le, I_eq, I_lt, I_le, I_a1, I_r1, I_eq1, I32_at, I32_s, Int.toNat_natCast, List.set_cons_zero, reduceCtorEq, not_false_eq_true, not_true_eq_false, false_and, true_and, and_true, and_false, false_or, true_or, or_true, or_false, if_true, if_false, eq_self, ↓reduceIte, Int.reduceEq, Int.reduceLT, Int.reduceLE, Int.reduceAdd, Int.reduceSub, Int.reduceMul, Int.reduceNeg, Int.reduceToNat, Nat.reduceLT, Nat.reduceAdd, Nat.reduceEqDiff, List.length_cons, List.length_nil, Int.le_refl]
    rfl
  | n + 1, i, hn => by
    have hi2 : i < 12 := by omega
    have ih := m66_l hs hw n (i + 1) (by omega)
    have o := hw i hi2
    have s1 := hs i hi2
    have vb : True → (wkw (A 43) (A 44) i = -1 ∨ ∃ b : Nat, wkw (A 43) (A 44) i = (b : Int) ∧ b < 12) := fun _ => by
      rcases wkw_v (st := A 43) (w := A 44) i with ⟨e, -⟩ | ⟨b, e, b1, -⟩
      · exact Or.inl e
      · exact Or.inr ⟨b, e, by omega⟩
    have u1 : (A 44 i = 1 ∧ (wkw (A 43) (A 44) i = -1 ∨ A 43 i < A 43 (wkw (A 43) (A 44) i).toNat)) → wkw (A 43) (A 44) (i + 1) = (i : Int) := fun h => if_pos h
    have u0 : ¬ (A 44 i = 1 ∧ (wkw (A 43) (A 44) i = -1 ∨ A 43 i < A 43 (wkw (A 43) (A 44) i).toNat)) → wkw (A 43) (A 44) (i + 1) = wkw (A 43) (A 44) i := fun h => if_neg h
    generalize wkw (A 43) (A 44) (i + 1) = v1 at *
    generalize wkw (A 43) (A 44) i = v at *
    rw [r66_4]
    simp (disch := omega) only [r66_5, r66_7, r66_10, r66_11, r66_14, r66_15, r66_16, sw_ldi, sw_ldl, sw_lda, sw_has1, sw_i1, sw_i2, sw_l1, sw_l2, sw_li, sw_r1, sw_ri, sw_rix, sw_rv, sw_pop, sw_set1, sw_set2, List.set_cons_zero, List.set_cons_succ, List.getElem?_cons_zero, List.getElem?_cons_succ, ald_1, ald_2, ast_1, ast_2, aln_1, aln_2, gf_1, gf_2, pf_1, pf_2, nw_1, ck_0, ck_1, ck_2, ck_3, ck_4, rr_1, rc_1, rc_2, K_i, K_l, K_v, I_add, I_sub, I_mul, I_div, I_em, I_eq0, I_lt0, I_0lt, I_le0, I_0le, I_eq, I_lt, I_le, I_a1, I_r1, I_eq1, I32_at, I32_s, Int.toNat_natCast, List.set_cons_zero, reduceCtorEq, not_false_eq_true, not_true_eq_false, false_and, true_and, and_true, and_false, false_or, true_or, or_true, or_false, if_true, if_false, eq_self, ↓reduceIte, Int.reduceEq, Int.reduceLT, Int.reduceLE, Int.reduceAdd, Int.reduceSub, Int.reduceMul, Int.reduceNeg, Int.reduceToNat, Nat.reduceLT, Nat.reduceAdd, Nat.reduceEqDiff, List.length_cons, List.length_nil, h_42, h_44]
    rw [if_neg (by omega)]
    rcases o with c | c
    · rw [u0 (fun q => by omega)] at ih
      rw [if_pos c]
      simp (disch := omega) only [r66_41, r66_44, sw_ldi, sw_ldl, sw_lda, sw_has1, sw_i1, sw_i2, sw_l1, sw_l2, sw_li, sw_r1, sw_ri, sw_rix, sw_rv, sw_pop, sw_set1, sw_set2, List.set_cons_zero, List.set_cons_succ, List.getElem?_cons_zero, List.getElem?_cons_succ, ald_1, ald_2, ast_1, ast_2, aln_1, aln_2, gf_1, gf_2, pf_1, pf_2, nw_1, ck_0, ck_1, ck_2, ck_3, ck_4, rr_1, rc_1, rc_2, K_i, K_l, K_v, I_add, I_sub, I_mul, I_div, I_em, I_eq0, I_lt0, I_0lt, I_le0, I_0le, I_eq, I_lt, I_le, I_a1, I_r1, I_eq1, I32_at, I32_s, Int.toNat_natCast, List.set_cons_zero, reduceCtorEq, not_false_eq_true, not_true_eq_false, false_and, true_and, and_true, and_false, false_or, true_or, or_true, or_false, if_true, if_false, eq_self, ↓reduceIte, Int.reduceEq, Int.reduceLT, Int.reduceLE, Int.reduceAdd, Int.reduceSub, Int.reduceMul, Int.reduceNeg, Int.reduceToNat, Nat.reduceLT, Nat.reduceAdd, Nat.reduceEqDiff, List.length_cons, List.length_nil]
      exact ih
    · rw [if_neg (by omega)]
      rcases vb trivial with rfl | ⟨b, rfl, b12⟩
      · rw [u1 ⟨c, Or.inl rfl⟩] at ih
        simp (disch := omega) only [r66_19, r66_20, r66_21, sw_ldi, sw_ldl, sw_lda, sw_has1, sw_i1, sw_i2, sw_l1, sw_l2, sw_li, sw_r1, sw_ri, sw_rix, sw_rv, sw_pop, sw_set1, sw_set2, List.set_cons_zero, List.set_cons_succ, List.getElem?_cons_zero, List.getElem?_cons_succ, ald_1, ald_2, ast_1, ast_2, aln_1, aln_2, gf_1, gf_2, pf_1, pf_2, nw_1, ck_0, ck_1, ck_2, ck_3, ck_4, rr_1, rc_1, rc_2, K_i, K_l, K_v, I_add, I_sub, I_mul, I_div, I_em, I_eq0, I_lt0, I_0lt, I_le0, I_0le, I_eq, I_lt, I_le, I_a1, I_r1, I_eq1, I32_at, I32_s, Int.toNat_natCast, List.set_cons_zero, reduceCtorEq, not_false_eq_true, not_true_eq_false, false_and, true_and, and_true, and_false, false_or, true_or, or_true, or_false, if_true, if_false, eq_self, ↓reduceIte, Int.reduceEq, Int.reduceLT, Int.reduceLE, Int.reduceAdd, Int.reduceSub, Int.reduceMul, Int.reduceNeg, Int.reduceToNat, Nat.reduceLT, Nat.reduceAdd, Nat.reduceEqDiff, List.length_cons, List.length_nil]
        simp (disch := omega) only [r66_39, r66_40, r66_41, r66_44, sw_ldi, sw_ldl, sw_lda, sw_has1, sw_i1, sw_i2, sw_l1, sw_l2, sw_li, sw_r1, sw_ri, sw_rix, sw_rv, sw_pop, sw_set1, sw_set2, List.set_cons_zero, List.set_cons_succ, List.getElem?_cons_zero, List.getElem?_cons_succ, ald_1, ald_2, ast_1, ast_2, aln_1, aln_2, gf_1, gf_2, pf_1, pf_2, nw_1, ck_0, ck_1, ck_2, ck_3, ck_4, rr_1, rc_1, rc_2, K_i, K_l, K_v, I_add, I_sub, I_mul, I_div, I_em, I_eq0, I_lt0, I_0lt, I_le0, I_0le, I_eq, I_lt, I_le, I_a1, I_r1, I_eq1, I32_at, I32_s, Int.toNat_natCast, List.set_cons_zero, reduceCtorEq, not_false_eq_true, not_true_eq_false, false_and, true_and, and_true, and_false, false_or, true_or, or_true, or_false, if_true, if_false, eq_self, ↓reduceIte, Int.reduceEq, Int.reduceLT, Int.reduceLE, Int.reduceAdd, Int.reduceSub, Int.reduceMul, Int.reduceNeg, Int.reduceToNat, Nat.reduceLT, Nat.reduceAdd, Nat.reduceEqDiff, List.length_cons, List.length_nil]
        exact ih
      · have s2 := hs b b12
        rw [Int.toNat_natCast] at u1 u0
        simp (disch := omega) only [r66_19, r66_20, r66_21, sw_ldi, sw_ldl, sw_lda, sw_has1, sw_i1, sw_i2, sw_l1, sw_l2, sw_li, sw_r1, sw_ri, sw_rix, sw_rv, sw_pop, sw_set1, sw_set2, List.set_cons_zero, List.set_cons_succ, List.getElem?_cons_zero, List.getElem?_cons_succ, ald_1, ald_2, ast_1, ast_2, aln_1, aln_2, gf_1, gf_2, pf_1, pf_2, nw_1, ck_0, ck_1, ck_2, ck_3, ck_4, rr_1, rc_1, rc_2, K_i, K_l, K_v, I_add, I_sub, I_mul, I_div, I_em, I_eq0, I_lt0, I_0lt, I_le0, I_0le, I_eq, I_lt, I_le, I_a1, I_r1, I_eq1, I32_at, I32_s, Int.toNat_natCast, List.set_cons_zero, reduceCtorEq, not_false_eq_true, not_true_eq_false, false_and, true_and, and_true, and_false, false_or, true_or, or_true, or_false, if_true, if_false, eq_self, ↓reduceIte, Int.reduceEq, Int.reduceLT, Int.reduceLE, Int.reduceAdd, Int.reduceSub, Int.reduceMul, Int.reduceNeg, Int.reduceToNat, Nat.reduceLT, Nat.reduceAdd, Nat.reduceEqDiff, List.length_cons, List.length_nil]
        simp (disch := omega) only [r66_24, r66_25, r66_28, r66_29, r66_30, r66_31, r66_34, r66_35, sw_ldi, sw_ldl, sw_lda, sw_has1, sw_i1, sw_i2, sw_l1, sw_l2, sw_li, sw_r1, sw_ri, sw_rix, sw_rv, sw_pop, sw_set1, sw_set2, List.set_cons_zero, List.set_cons_succ, List.getElem?_cons_zero, List.getElem?_cons_succ, ald_1, ald_2, ast_1, ast_2, aln_1, aln_2, gf_1, gf_2, pf_1, pf_2, nw_1, ck_0, ck_1, ck_2, ck_3, ck_4, rr_1, rc_1, rc_2, K_i, K_l, K_v, I_add, I_sub, I_mul, I_div, I_em, I_eq0, I_lt0, I_0lt, I_le0, I_0le, I_eq, I_lt, I_le, I_a1, I_r1, I_eq1, I32_at, I32_s, Int.toNat_natCast, List.set_cons_zero, reduceCtorEq, not_false_eq_true, not_true_eq_false, false_and, true_and, and_true, and_false, false_or, true_or, or_true, or_false, if_true, if_false, eq_self, ↓reduceIte, Int.reduceEq, Int.reduceLT, Int.reduceLE, Int.reduceAdd, Int.reduceSub, Int.reduceMul, Int.reduceNeg, Int.reduceToNat, Nat.reduceLT, Nat.reduceAdd, Nat.reduceEqDiff, List.length_cons, List.length_nil, h_42, h_43]
        rw [r66_36]
        simp (disch := omega) only [sw_ldi, sw_ldl, sw_lda, sw_has1, sw_i1, sw_i2, sw_l1, sw_l2, sw_li, sw_r1, sw_ri, sw_rix, sw_rv, sw_pop, sw_set1, sw_set2, List.set_cons_zero, List.set_cons_succ, List.getElem?_cons_zero, List.getElem?_cons_succ, ald_1, ald_2, ast_1, ast_2, aln_1, aln_2, gf_1, gf_2, pf_1, pf_2, nw_1, ck_0, ck_1, ck_2, ck_3, ck_4, rr_1, rc_1, rc_2, K_i, K_l, K_v, I_add, I_sub, I_mul, I_div, I_em, I_eq0, I_lt0, I_0lt, I_le0, I_0le, I_eq, I_lt, I_le, I_a1, I_r1, I_eq1, I32_at, I32_s, Int.toNat_natCast, List.set_cons_zero, reduceCtorEq, not_false_eq_true, not_true_eq_false, false_and, true_and, and_true, and_false, false_or, true_or, or_true, or_false, if_true, if_false, eq_self, ↓reduceIte, Int.reduceEq, Int.reduceLT, Int.reduceLE, Int.reduceAdd, Int.reduceSub, Int.reduceMul, Int.reduceNeg, Int.reduceToNat, Nat.reduceLT, Nat.reduceAdd, Nat.reduceEqDiff, List.length_cons, List.length_nil]
        by_cases d : A 43 i < A 43 b
        · rw [u1 ⟨c, Or.inr d⟩] at ih
          rw [if_neg (Int.not_le.mpr d)]
          simp (disch := omega) only [r66_39, r66_40, r66_41, r66_44, sw_ldi, sw_ldl, sw_lda, sw_has1, sw_i1, sw_i2, sw_l1, sw_l2, sw_li, sw_r1, sw_ri, sw_rix, sw_rv, sw_pop, sw_set1, sw_set2, List.set_cons_zero, List.set_cons_succ, List.getElem?_cons_zero, List.getElem?_cons_succ, ald_1, ald_2, ast_1, ast_2, aln_1, aln_2, gf_1, gf_2, pf_1, pf_2, nw_1, ck_0, ck_1, ck_2, ck_3, ck_4, rr_1, rc_1, rc_2, K_i, K_l, K_v, I_add, I_sub, I_mul, I_div, I_em, I_eq0, I_lt0, I_0lt, I_le0, I_0le, I_eq, I_lt, I_le, I_a1, I_r1, I_eq1, I32_at, I32_s, Int.toNat_natCast, List.set_cons_zero, reduceCtorEq, not_false_eq_true, not_true_eq_false, false_and, true_and, and_true, and_false, false_or, true_or, or_true, or_false, if_true, if_false, eq_self, ↓reduceIte, Int.reduceEq, Int.reduceLT, Int.reduceLE, Int.reduceAdd, Int.reduceSub, Int.reduceMul, Int.reduceNeg, Int.reduceToNat, Nat.reduceLT, Nat.reduceAdd, Nat.reduceEqDiff, List.length_cons, List.length_nil]
          exact ih
        · rw [u0 (fun q => by
            rcases q.2 with z | z
            · omega
            · exact d z)] at ih
          rw [if_pos (Int.not_lt.mp d)]
          simp (disch := omega) only [r66_41, r66_44, sw_ldi, sw_ldl, sw_lda, sw_has1, sw_i1, sw_i2, sw_l1, sw_l2, sw_li, sw_r1, sw_ri, sw_rix, sw_rv, sw_pop, sw_set1, sw_set2, List.set_cons_zero, List.set_cons_succ, List.getElem?_cons_zero, List.getElem?_cons_succ, ald_1, ald_2, ast_1, ast_2, aln_1, aln_2, gf_1, gf_2, pf_1, pf_2, nw_1, ck_0, ck_1, ck_2, ck_3, ck_4, rr_1, rc_1, rc_2, K_i, K_l, K_v, I_add, I_sub, I_mul, I_div, I_em, I_eq0, I_lt0, I_0lt, I_le0, I_0le, I_eq, I_lt, I_le, I_a1, I_r1, I_eq1, I32_at, I32_s, Int.toNat_natCast, List.set_cons_zero, reduceCtorEq, not_false_eq_true, not_true_eq_false, false_and, true_and, and_true, and_false, false_or, true_or, or_true, or_false, if_true, if_false, eq_self, ↓reduceIte, Int.reduceEq, Int.reduceLT, Int.reduceLE, Int.reduceAdd, Int.reduceSub, Int.reduceMul, Int.reduceNeg, Int.reduceToNat, Nat.reduceLT, Nat.reduceAdd, Nat.reduceEqDiff, List.length_cons, List.length_nil]
          exact ih
theorem m67_l (hs : SB (A 43)) : ∀ (n : Nat) (w : Nat → Int) (least : Int) (x : Option Value), WI (A 43) w n least → ∃ (w2 : Nat → Int) (s : Int), LSt false (A 43) s ∧ sw_A 67 9 [some (.ref 42), some (.int (Int32.ofInt least)), some (.int (Int32.ofInt n)), x] [] (sw_h L (sw_s A 44 w) F T X) Q = Q (some (some (.int (Int32.ofInt (s + 1))))) (sw_h L (sw_s A 44 w2) F T X)
  | 0, w, least, x, h => by
    refine ⟨w, least - 1, WI_LS h, ?_⟩
    rw [r67_9]
    simp (disch := omega) only [r67_10, r67_54, r67_55, sw_ldi, sw_ldl, sw_lda, sw_has1, sw_i1, sw_i2, sw_l1, sw_l2, sw_li, sw_r1, sw_ri, sw_rix, sw_rv, sw_pop, sw_set1, sw_set2, List.set_cons_zero, List.set_cons_succ, List.getElem?_cons_zero, List.getElem?_cons_succ, ald_1, ald_2, ast_1, ast_2, aln_1, aln_2, gf_1, gf_2, pf_1, pf_2, nw_1, ck_0, ck_1, ck_2, ck_3, ck_4, rr_1, rc_1, rc_2, K_i, K_l, K_v, I_add, I_sub, I_mul, I_div, I_em, I_eq0, I_lt0, I_0lt, I_le0, I_0le, I_eq, I_lt, I_le, I_a1, I_r1, I_eq1, I32_at, I32_s, Int.toNat_natCast, List.set_cons_zero, reduceCtorEq, not_false_eq_true, not_true_eq_false, false_and, true_and, and_true, and_false, false_or, true_or, or_true, or_false, if_true, if_false, eq_self, ↓reduceIte, Int.reduceEq, Int.reduceLT, Int.reduceLE, Int.reduceAdd, Int.reduceSub, Int.reduceMul, Int.reduceNeg, Int.reduceToNat, Nat.reduceLT, Nat.reduceAdd, Nat.reduceEqDiff, List.length_cons, List.length_nil]
    exact congrArg (fun z => Q (some (some (.int (Int32.ofInt z)))) _) (by omega)
  | n + 1, w, least, x, h => by
    have hb9 := h.1
    have hsm := h.2.1
    have sb := sm_b 12 hb9
    have lb : 0 ≤ least ∧ least ≤ 12012 := ⟨h.2.2.2.2.2.1, h.2.2.2.2.2.2.1⟩
    have a43 : sw_s A 44 w 43 = A 43 := rfl
    have a44 : sw_s A 44 w 44 = w := rfl
    have mq := m66_l (L := L) (A := sw_s A 44 w) (F := F) (T := T) (X := X) (Q := sw_K 67 17 none [some (.ref 42), some (.int (Int32.ofInt least)), some (.int (Int32.ofInt ((n + 1 : Nat) : Int))), x] [] Q) hs hb9 12 0 (by omega)
    have w0 : wkw (A 43) w 0 = -1 := rfl
    rw [a43, a44, w0, show (((0 : Nat) : Int)) = 0 from rfl] at mq
    rcases wkw_v (st := A 43) (w := w) 12 with ⟨e, q⟩ | ⟨b, e, b1, b2, b3⟩
    · have : sm w 12 = 0 := sm_z 12 fun f hf => by
        rcases hb9 f hf with z | z
        · exact z
        · exact absurd z (q f hf)
      omega
    · rw [e] at mq
      have s1 := hs b b1
      have up := WI_s hs h (by omega) (by omega) b1 b2 b3
      rw [show ((n + 1 : Nat) : Int) - 1 = (n : Int) by omega] at up
      have kc : ((n + 1 : Nat) : Int) * (A 43 b + 1) ≤ 12012 := by
        have : ((n + 1 : Nat) : Int) * (A 43 b + 1) ≤ 12 * 1001 := Int.mul_le_mul (by omega) (by omega) (by omega) (by omega)
        omega
      have k0 : 0 < ((n + 1 : Nat) : Int) * (A 43 b + 1) := Int.mul_pos (by omega) (by omega)
      have pre : ∀ l2 : Int, l2 = (if least < ((n + 1 : Nat) : Int) * (A 43 b + 1) then ((n + 1 : Nat) : Int) * (A 43 b + 1) else least) → sw_A 67 9 [some (.ref 42), some (.int (Int32.ofInt least)), some (.int (Int32.ofInt ((n + 1 : Nat) : Int))), x] [] (sw_h L (sw_s A 44 w) F T X) Q = sw_A 67 9 [some (.ref 42), some (.int (Int32.ofInt l2)), some (.int (Int32.ofInt (n : Int))), some (.int (Int32.ofInt (b : Int)))] [] (sw_h L (sw_s A 44 (sw_s w b 0)) F T X) Q := fun l2 el => by
        rw [r67_9]
        simp (disch := omega) only [r67_10, r67_13, r67_14, sw_ldi, sw_ldl, sw_lda, sw_has1, sw_i1, sw_i2, sw_l1, sw_l2, sw_li, sw_r1, sw_ri, sw_rix, sw_rv, sw_pop, sw_set1, sw_set2, List.set_cons_zero, List.set_cons_succ, List.getElem?_cons_zero, List.getElem?_cons_succ, ald_1, ald_2, ast_1, ast_2, aln_1, aln_2, gf_1, gf_2, pf_1, pf_2, nw_1, ck_0, ck_1, ck_2, ck_3, ck_4, rr_1, rc_1, rc_2, K_i, K_l, K_v, I_add, I_sub, I_mul, I_div, I_em, I_eq0, I_lt0, I_0lt, I_le0, I_0le, I_eq, I_lt, I_le, I_a1, I_r1, I_eq1, I32_at, I32_s, Int.toNat_natCast, List.set_cons_zero, reduceCtorEq, not_false_eq_true, not_true_eq_false, false_and, true_and, and_true, and_false, false_or, true_or, or_true, or_false, if_true, if_false, eq_self, ↓reduceIte, Int.reduceEq, Int.reduceLT, Int.reduceLE, Int.reduceAdd, Int.reduceSub, Int.reduceMul, Int.reduceNeg, Int.reduceToNat, Nat.reduceLT, Nat.reduceAdd, Nat.reduceEqDiff, List.length_cons, List.length_nil, h_42]
        rw [if_neg (by omega), e66]
        simp (disch := omega) only [r66_0, r66_1, r66_2, r66_3, sw_ldi, sw_ldl, sw_lda, sw_has1, sw_i1, sw_i2, sw_l1, sw_l2, sw_li, sw_r1, sw_ri, sw_rix, sw_rv, sw_pop, sw_set1, sw_set2, List.set_cons_zero, List.set_cons_succ, List.getElem?_cons_zero, List.getElem?_cons_succ, ald_1, ald_2, ast_1, ast_2, aln_1, aln_2, gf_1, gf_2, pf_1, pf_2, nw_1, ck_0, ck_1, ck_2, ck_3, ck_4, rr_1, rc_1, rc_2, K_i, K_l, K_v, I_add, I_sub, I_mul, I_div, I_em, I_eq0, I_lt0, I_0lt, I_le0, I_0le, I_eq, I_lt, I_le, I_a1, I_r1, I_eq1, I32_at, I32_s, Int.toNat_natCast, List.set_cons_zero, reduceCtorEq, not_false_eq_true, not_true_eq_false, false_and, true_and, and_true, and_false, false_or, true_or, or_true, or_false, if_true, if_false, eq_self, ↓reduceIte, Int.reduceEq, Int.reduceLT, Int.reduceLE, Int.reduceAdd, Int.reduceSub, Int.reduceMul, Int.reduceNeg, Int.reduceToNat, Nat.reduceLT, Nat.reduceAdd, Nat.reduceEqDiff, List.length_cons, List.length_nil]
        rw [mq]
        simp (disch := omega) only [r67_17, r67_18, r67_19, r67_20, sw_ldi, sw_ldl, sw_lda, sw_has1, sw_i1, sw_i2, sw_l1, sw_l2, sw_li, sw_r1, sw_ri, sw_rix, sw_rv, sw_pop, sw_set1, sw_set2, List.set_cons_zero, List.set_cons_succ, List.getElem?_cons_zero, List.getElem?_cons_succ, ald_1, ald_2, ast_1, ast_2, aln_1, aln_2, gf_1, gf_2, pf_1, pf_2, nw_1, ck_0, ck_1, ck_2, ck_3, ck_4, rr_1, rc_1, rc_2, K_i, K_l, K_v, I_add, I_sub, I_mul, I_div, I_em, I_eq0, I_lt0, I_0lt, I_le0, I_0le, I_eq, I_lt, I_le, I_a1, I_r1, I_eq1, I32_at, I32_s, Int.toNat_natCast, List.set_cons_zero, reduceCtorEq, not_false_eq_true, not_true_eq_false, false_and, true_and, and_true, and_false, false_or, true_or, or_true, or_false, if_true, if_false, eq_self, ↓reduceIte, Int.reduceEq, Int.reduceLT, Int.reduceLE, Int.reduceAdd, Int.reduceSub, Int.reduceMul, Int.reduceNeg, Int.reduceToNat, Nat.reduceLT, Nat.reduceAdd, Nat.reduceEqDiff, List.length_cons, List.length_nil]
        simp (disch := omega) only [r67_26, r67_27, r67_28, r67_29, r67_32, r67_33, r67_34, r67_35, r67_36, sw_ldi, sw_ldl, sw_lda, sw_has1, sw_i1, sw_i2, sw_l1, sw_l2, sw_li, sw_r1, sw_ri, sw_rix, sw_rv, sw_pop, sw_set1, sw_set2, List.set_cons_zero, List.set_cons_succ, List.getElem?_cons_zero, List.getElem?_cons_succ, ald_1, ald_2, ast_1, ast_2, aln_1, aln_2, gf_1, gf_2, pf_1, pf_2, nw_1, ck_0, ck_1, ck_2, ck_3, ck_4, rr_1, rc_1, rc_2, K_i, K_l, K_v, I_add, I_sub, I_mul, I_div, I_em, I_eq0, I_lt0, I_0lt, I_le0, I_0le, I_eq, I_lt, I_le, I_a1, I_r1, I_eq1, I32_at, I32_s, Int.toNat_natCast, List.set_cons_zero, reduceCtorEq, not_false_eq_true, not_true_eq_false, false_and, true_and, and_true, and_false, false_or, true_or, or_true, or_false, if_true, if_false, eq_self, ↓reduceIte, Int.reduceEq, Int.reduceLT, Int.reduceLE, Int.reduceAdd, Int.reduceSub, Int.reduceMul, Int.reduceNeg, Int.reduceToNat, Nat.reduceLT, Nat.reduceAdd, Nat.reduceEqDiff, List.length_cons, List.length_nil, sA_at, ss, sA_cm, h_42, h_43]
        by_cases c : least < ((n + 1 : Nat) : Int) * (A 43 b + 1)
        · rw [if_pos c] at el
          subst el
          simp (disch := omega) only [r67_37, r67_40, r67_41, r67_42, r67_45, r67_46, r67_47, r67_48, r67_51, sw_ldi, sw_ldl, sw_lda, sw_has1, sw_i1, sw_i2, sw_l1, sw_l2, sw_li, sw_r1, sw_ri, sw_rix, sw_rv, sw_pop, sw_set1, sw_set2, List.set_cons_zero, List.set_cons_succ, List.getElem?_cons_zero, List.getElem?_cons_succ, ald_1, ald_2, ast_1, ast_2, aln_1, aln_2, gf_1, gf_2, pf_1, pf_2, nw_1, ck_0, ck_1, ck_2, ck_3, ck_4, rr_1, rc_1, rc_2, K_i, K_l, K_v, I_add, I_sub, I_mul, I_div, I_em, I_eq0, I_lt0, I_0lt, I_le0, I_0le, I_eq, I_lt, I_le, I_a1, I_r1, I_eq1, I32_at, I32_s, Int.toNat_natCast, List.set_cons_zero, reduceCtorEq, not_false_eq_true, not_true_eq_false, false_and, true_and, and_true, and_false, false_or, true_or, or_true, or_false, if_true, if_false, eq_self, ↓reduceIte, Int.reduceEq, Int.reduceLT, Int.reduceLE, Int.reduceAdd, Int.reduceSub, Int.reduceMul, Int.reduceNeg, Int.reduceToNat, Nat.reduceLT, Nat.reduceAdd, Nat.reduceEqDiff, List.length_cons, List.length_nil, sA_at, ss, sA_cm, h_42, h_44, w_44, c]
          rw [show ((n + 1 : Nat) : Int) + -1 = (n : Int) by omega]
        · rw [if_neg c] at el
          subst el
          simp (disch := omega) only [r67_37, r67_40, r67_41, r67_42, r67_45, r67_46, r67_47, r67_48, r67_51, sw_ldi, sw_ldl, sw_lda, sw_has1, sw_i1, sw_i2, sw_l1, sw_l2, sw_li, sw_r1, sw_ri, sw_rix, sw_rv, sw_pop, sw_set1, sw_set2, List.set_cons_zero, List.set_cons_succ, List.getElem?_cons_zero, List.getElem?_cons_succ, ald_1, ald_2, ast_1, ast_2, aln_1, aln_2, gf_1, gf_2, pf_1, pf_2, nw_1, ck_0, ck_1, ck_2, ck_3, ck_4, rr_1, rc_1, rc_2, K_i, K_l, K_v, I_add, I_sub, I_mul, I_div, I_em, I_eq0, I_lt0, I_0lt, I_le0, I_0le, I_eq, I_lt, I_le, I_a1, I_r1, I_eq1, I32_at, I32_s, Int.toNat_natCast, List.set_cons_zero, reduceCtorEq, not_false_eq_true, not_true_eq_false, false_and, true_and, and_true, and_false, false_or, true_or, or_true, or_false, if_true, if_false, eq_self, ↓reduceIte, Int.reduceEq, Int.reduceLT, Int.reduceLE, Int.reduceAdd, Int.reduceSub, Int.reduceMul, Int.reduceNeg, Int.reduceToNat, Nat.reduceLT, Nat.reduceAdd, Nat.reduceEqDiff, List.length_cons, List.length_nil, sA_at, ss, sA_cm, h_42, h_44, w_44, c]
          rw [show ((n + 1 : Nat) : Int) + -1 = (n : Int) by omega]
      obtain ⟨w2, s, g1, g2⟩ := m67_l hs n _ _ (some (.int (Int32.ofInt (b : Int)))) up
      exact ⟨w2, s, g1, Eq.trans (pre _ rfl) g2⟩
/-- lastStraw -/
theorem m68 {d : Int} (hs : SB (A 43)) (hd : d = 0 ∨ d = 1)
    (hQ : ∀ (B : Nat → Nat → Int) (G : Nat → Int) (s : Int), LSt (decide (d = 1)) (A 43) s → Fm A B → G 0 = F 0 → Q (some (some (.int (Int32.ofInt s)))) (sw_h L B G T X)) :
    sw_M 68 [.ref 1, .int (Int32.ofInt d)] (sw_h L A F T X) Q := by
  rw [e68]
  rcases hd with rfl | rfl
  · obtain ⟨w2, s, g1, g2⟩ := m67_l (L := L) (A := A) (F := sw_s F 14 12) (T := T) (X := X) (Q := sw_K 68 21 none [some (.ref 1), some (.int (Int32.ofInt 0))] [] Q) hs 12 (mix 12 (fun _ => 1) (A 44)) 0 none (WI_0 fun f hf => mix_at hf)
    have hq := hQ (sw_s A 44 w2) (sw_s F 14 12) s g1 (Fm_s rfl) rfl
    simp (disch := omega) only [r68_0, r68_1, r68_4, r68_5, r68_8, r68_11, r68_14, r68_15, r68_18, sw_ldi, sw_ldl, sw_lda, sw_has1, sw_i1, sw_i2, sw_l1, sw_l2, sw_li, sw_r1, sw_ri, sw_rix, sw_rv, sw_pop, sw_set1, sw_set2, List.set_cons_zero, List.set_cons_succ, List.getElem?_cons_zero, List.getElem?_cons_succ, ald_1, ald_2, ast_1, ast_2, aln_1, aln_2, gf_1, gf_2, pf_1, pf_2, nw_1, ck_0, ck_1, ck_2, ck_3, ck_4, rr_1, rc_1, rc_2, K_i, K_l, K_v, I_add, I_sub, I_mul, I_div, I_em, I_eq0, I_lt0, I_0lt, I_le0, I_0le, I_eq, I_lt, I_le, I_a1, I_r1, I_eq1, I32_at, I32_s, Int.toNat_natCast, List.set_cons_zero, reduceCtorEq, not_false_eq_true, not_true_eq_false, false_and, true_and, and_true, and_false, false_or, true_or, or_true, or_false, if_true, if_false, eq_self, ↓reduceIte, Int.reduceEq, Int.reduceLT, Int.reduceLE, Int.reduceAdd, Int.reduceSub, Int.reduceMul, Int.reduceNeg, Int.reduceToNat, Nat.reduceLT, Nat.reduceAdd, Nat.reduceEqDiff, List.length_cons, List.length_nil, h_1, h_42, e67]
    simp (disch := omega) only [r67_0, r67_1, r67_4, r67_5, r67_6, r67_8, sw_ldi, sw_ldl, sw_lda, sw_has1, sw_i1, sw_i2, sw_l1, sw_l2, sw_li, sw_r1, sw_ri, sw_rix, sw_rv, sw_pop, sw_set1, sw_set2, List.set_cons_zero, List.set_cons_succ, List.getElem?_cons_zero, List.getElem?_cons_succ, ald_1, ald_2, ast_1, ast_2, aln_1, aln_2, gf_1, gf_2, pf_1, pf_2, nw_1, ck_0, ck_1, ck_2, ck_3, ck_4, rr_1, rc_1, rc_2, K_i, K_l, K_v, I_add, I_sub, I_mul, I_div, I_em, I_eq0, I_lt0, I_0lt, I_le0, I_0le, I_eq, I_lt, I_le, I_a1, I_r1, I_eq1, I32_at, I32_s, Int.toNat_natCast, List.set_cons_zero, reduceCtorEq, not_false_eq_true, not_true_eq_false, false_and, true_and, and_true, and_false, false_or, true_or, or_true, or_false, if_true, if_false, eq_self, ↓reduceIte, Int.reduceEq, Int.reduceLT, Int.reduceLE, Int.reduceAdd, Int.reduceSub, Int.reduceMul, Int.reduceNeg, Int.reduceToNat, Nat.reduceLT, Nat.reduceAdd, Nat.reduceEqDiff, List.length_cons, List.length_nil, m57]
    rw [show (12 : Int) = ((12 : Nat) : Int) from rfl] at g2 ⊢
    rw [g2]
    simp (disch := omega) only [r68_21, r68_22, r68_23, sw_ldi, sw_ldl, sw_lda, sw_has1, sw_i1, sw_i2, sw_l1, sw_l2, sw_li, sw_r1, sw_ri, sw_rix, sw_rv, sw_pop, sw_set1, sw_set2, List.set_cons_zero, List.set_cons_succ, List.getElem?_cons_zero, List.getElem?_cons_succ, ald_1, ald_2, ast_1, ast_2, aln_1, aln_2, gf_1, gf_2, pf_1, pf_2, nw_1, ck_0, ck_1, ck_2, ck_3, ck_4, rr_1, rc_1, rc_2, K_i, K_l, K_v, I_add, I_sub, I_mul, I_div, I_em, I_eq0, I_lt0, I_0lt, I_le0, I_0le, I_eq, I_lt, I_le, I_a1, I_r1, I_eq1, I32_at, I32_s, Int.toNat_natCast, List.set_cons_zero, reduceCtorEq, not_false_eq_true, not_true_eq_false, false_and, true_and, and_true, and_false, false_or, true_or, or_true, or_false, if_true, if_false, eq_self, ↓reduceIte, Int.reduceEq, Int.reduceLT, Int.reduceLE, Int.reduceAdd, Int.reduceSub, Int.reduceMul, Int.reduceNeg, Int.reduceToNat, Nat.reduceLT, Nat.reduceAdd, Nat.reduceEqDiff, List.length_cons, List.length_nil]
    rw [show s + 1 - 1 = s by omega]
    exact hq
  · obtain ⟨w2, b2, o2, c, s, g1, g2⟩ := m65_l (L := L) (A := A) (F := F) (T := T) (X := X) (Q := sw_K 68 11 none [some (.ref 1), some (.int (Int32.ofInt 1))] [] Q) hs 1001 0 (A 44) (A 45) (A 46) (F 14) (by omega) (fun e he => absurd he (Nat.not_lt_zero _))
    have hq := hQ (sw_s (sw_s (sw_s A 44 w2) 45 b2) 46 o2) (sw_s F 14 c) s g1 (Fm_t (Fm_2 rfl rfl) (Fm_s rfl)) rfl
    have ha : hY L A F T X (A 44) (A 45) (A 46) (F 14) = sw_h L A F T X := by
      unfold hY
      rw [sA_id, sA_id, sA_id]
      congr 1
      funext j
      unfold sw_s
      split
      · next e => rw [e]
      · rfl
    rw [ha] at g2
    simp (disch := omega) only [r68_0, r68_1, r68_4, r68_5, r68_8, sw_ldi, sw_ldl, sw_lda, sw_has1, sw_i1, sw_i2, sw_l1, sw_l2, sw_li, sw_r1, sw_ri, sw_rix, sw_rv, sw_pop, sw_set1, sw_set2, List.set_cons_zero, List.set_cons_succ, List.getElem?_cons_zero, List.getElem?_cons_succ, ald_1, ald_2, ast_1, ast_2, aln_1, aln_2, gf_1, gf_2, pf_1, pf_2, nw_1, ck_0, ck_1, ck_2, ck_3, ck_4, rr_1, rc_1, rc_2, K_i, K_l, K_v, I_add, I_sub, I_mul, I_div, I_em, I_eq0, I_lt0, I_0lt, I_le0, I_0le, I_eq, I_lt, I_le, I_a1, I_r1, I_eq1, I32_at, I32_s, Int.toNat_natCast, List.set_cons_zero, reduceCtorEq, not_false_eq_true, not_true_eq_false, false_and, true_and, and_true, and_false, false_or, true_or, or_true, or_false, if_true, if_false, eq_self, ↓reduceIte, Int.reduceEq, Int.reduceLT, Int.reduceLE, Int.reduceAdd, Int.reduceSub, Int.reduceMul, Int.reduceNeg, Int.reduceToNat, Nat.reduceLT, Nat.reduceAdd, Nat.reduceEqDiff, List.length_cons, List.length_nil, h_1, h_42, e65]
    simp (disch := omega) only [r65_0, r65_1, r65_2, r65_3, sw_ldi, sw_ldl, sw_lda, sw_has1, sw_i1, sw_i2, sw_l1, sw_l2, sw_li, sw_r1, sw_ri, sw_rix, sw_rv, sw_pop, sw_set1, sw_set2, List.set_cons_zero, List.set_cons_succ, List.getElem?_cons_zero, List.getElem?_cons_succ, ald_1, ald_2, ast_1, ast_2, aln_1, aln_2, gf_1, gf_2, pf_1, pf_2, nw_1, ck_0, ck_1, ck_2, ck_3, ck_4, rr_1, rc_1, rc_2, K_i, K_l, K_v, I_add, I_sub, I_mul, I_div, I_em, I_eq0, I_lt0, I_0lt, I_le0, I_0le, I_eq, I_lt, I_le, I_a1, I_r1, I_eq1, I32_at, I32_s, Int.toNat_natCast, List.set_cons_zero, reduceCtorEq, not_false_eq_true, not_true_eq_false, false_and, true_and, and_true, and_false, false_or, true_or, or_true, or_false, if_true, if_false, eq_self, ↓reduceIte, Int.reduceEq, Int.reduceLT, Int.reduceLE, Int.reduceAdd, Int.reduceSub, Int.reduceMul, Int.reduceNeg, Int.reduceToNat, Nat.reduceLT, Nat.reduceAdd, Nat.reduceEqDiff, List.length_cons, List.length_nil]
    rw [show (12 * ((0 : Nat) : Int)) = 0 from rfl, show (((0 : Nat) : Int)) = 0 from rfl] at g2
    rw [g2]
    unfold hY
    simp (disch := omega) only [r68_11, r68_21, r68_22, r68_23, sw_ldi, sw_ldl, sw_lda, sw_has1, sw_i1, sw_i2, sw_l1, sw_l2, sw_li, sw_r1, sw_ri, sw_rix, sw_rv, sw_pop, sw_set1, sw_set2, List.set_cons_zero, List.set_cons_succ, List.getElem?_cons_zero, List.getElem?_cons_succ, ald_1, ald_2, ast_1, ast_2, aln_1, aln_2, gf_1, gf_2, pf_1, pf_2, nw_1, ck_0, ck_1, ck_2, ck_3, ck_4, rr_1, rc_1, rc_2, K_i, K_l, K_v, I_add, I_sub, I_mul, I_div, I_em, I_eq0, I_lt0, I_0lt, I_le0, I_0le, I_eq, I_lt, I_le, I_a1, I_r1, I_eq1, I32_at, I32_s, Int.toNat_natCast, List.set_cons_zero, reduceCtorEq, not_false_eq_true, not_true_eq_false, false_and, true_and, and_true, and_false, false_or, true_or, or_true, or_false, if_true, if_false, eq_self, ↓reduceIte, Int.reduceEq, Int.reduceLT, Int.reduceLE, Int.reduceAdd, Int.reduceSub, Int.reduceMul, Int.reduceNeg, Int.reduceToNat, Nat.reduceLT, Nat.reduceAdd, Nat.reduceEqDiff, List.length_cons, List.length_nil]
    rw [show s + 1 - 1 = s by omega]
    exact hq
end sw_ls
