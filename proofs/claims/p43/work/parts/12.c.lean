/-! steps -/
def nx1 (le : Nat → Bool) (now a : Int64) (b : Nat) : Int64 := if ¬ hb now (lo b) = hb now (hi b) ∧ le b = true then wb2 a (lo b) (hi b) else a
def nxp (le : Nat → Bool) (now : Int64) : Nat → Int64
  | 0 => now
  | n + 1 => nx1 le now (nxp le now n) n
theorem nxp_v {le : Nat → Bool} {now : Int64} : ∀ n, n ≤ 60 → ∀ i, i < 64 → (hb (nxp le now n) i = true ↔ (hb now i = true ∨ ∃ b, b < n ∧ le b = true ∧ ((lo b = i ∧ hb now (hi b) = true) ∨ (hi b = i ∧ hb now (lo b) = true))))
  | 0, _, i, _ => ⟨fun h => Or.inl h, fun h => by
    rcases h with h | ⟨b, h, _⟩
    · exact h
    · exact absurd h (Nat.not_lt_zero _)⟩
  | n + 1, hn, i, h64 => by
    have ih := nxp_v (le := le) (now := now) n (by omega) i h64
    have l1 := (lo_lt (b := n) (by omega)).1
    have l2 := (hi_lt (b := n) (by omega)).1
    show hb (nx1 le now (nxp le now n) n) i = true ↔ _
    unfold nx1
    split
    · next c =>
      rw [hb_wb2 _ _ _ i (by omega) (by omega) h64, Bool.or_eq_true, Bool.or_eq_true, ih, decide_eq_true_iff, decide_eq_true_iff]
      constructor
      · rintro ((q | ⟨b, b1, b2⟩) | q | q)
        · exact Or.inl q
        · exact Or.inr ⟨b, by omega, b2⟩
        · cases e : hb now i with
          | true => exact Or.inl rfl
          | false => refine Or.inr ⟨n, Nat.lt_succ_self _, c.2, Or.inl ⟨q.symm, ?_⟩⟩; have c1 := c.1; rw [← q, e] at c1; cases e2 : hb now (hi n) with
            | true => rfl
            | false => exact absurd e2.symm c1
        · cases e : hb now i with
          | true => exact Or.inl rfl
          | false => refine Or.inr ⟨n, Nat.lt_succ_self _, c.2, Or.inr ⟨q.symm, ?_⟩⟩; have c1 := c.1; rw [← q, e] at c1; cases e2 : hb now (lo n) with
            | true => rfl
            | false => exact absurd e2 c1
      · rintro (q | ⟨b, b1, b2, b3⟩)
        · exact Or.inl (Or.inl q)
        · by_cases e : b = n
          · subst e
            rcases b3 with ⟨e1, _⟩ | ⟨e1, _⟩
            · exact Or.inr (Or.inl e1.symm)
            · exact Or.inr (Or.inr e1.symm)
          · exact Or.inl (Or.inr ⟨b, by omega, b2, b3⟩)
    · next c =>
      rw [ih]
      constructor
      · rintro (q | ⟨b, b1, b2⟩)
        · exact Or.inl q
        · exact Or.inr ⟨b, by omega, b2⟩
      · rintro (q | ⟨b, b1, b2, b3⟩)
        · exact Or.inl q
        · by_cases e : b = n
          · subst e
            have same : hb now (lo b) = hb now (hi b) := Classical.byContradiction fun q => c ⟨q, b2⟩
            rcases b3 with ⟨e1, e2⟩ | ⟨e1, e2⟩
            · exact Or.inl (by rw [← e1, same]; exact e2)
            · exact Or.inl (by rw [← e1, ← same]; exact e2)
          · exact Or.inr ⟨b, by omega, b2, b3⟩
section sw_s6
variable {H : sw_HS} {Q : sw_Ot → sw_HS → Prop} {rb rs : Nat} {nb ns : Nat → Int} {shut all : Int64} {k p : Int}
theorem m129_s (hs0 : H.1 rs = .inr (0, 36, I32 ns)) (ns1 : ∀ i, i < 36 → 0 ≤ ns i ∧ ns i < 1000) (k0 : 0 ≤ k) (k1 : k ≤ 2) (p0 : -1 ≤ p) (p1 : p ≤ 1000) : ∀ (n i : Nat), i + n = 36 → sw_A 129 37 [some (.ref rb), some (.ref rs), some (.long shut), none, some (.int (Int32.ofInt k)), some (.int (Int32.ofInt p)), some (.long all), none, some (.long (gs shut (sdv 0) ns k p i)), none, some (.int (Int32.ofInt i)), none, none, none] [] H Q = sw_A 129 97 [some (.ref rb), some (.ref rs), some (.long shut), none, some (.int (Int32.ofInt k)), some (.int (Int32.ofInt p)), some (.long all), none, some (.long (gs shut (sdv 0) ns k p 36)), none, some (.int (Int32.ofInt 0)), none, none, none] [] H Q
  | 0, i, hn => by
    have e : i = 36 := hn
    subst e
    rw [r129_37]
    simp (disch := omega) only [r129_39, r129_41, r129_94, r129_95, sw_ldi, sw_ldl, sw_lda, sw_has1, sw_i1, sw_i2, sw_l1, sw_l2, sw_li, sw_r1, sw_ri, sw_rix, sw_rv, sw_pop, sw_set1, sw_set2, List.set_cons_zero, List.set_cons_succ, List.getElem?_cons_zero, List.getElem?_cons_succ, ald_1, ald_2, ast_1, ast_2, aln_1, aln_2, gf_1, gf_2, pf_1, pf_2, nw_1, ck_0, ck_1, ck_2, ck_3, ck_4, rr_1, rc_1, rc_2, K_i, K_l, K_v, I_add, I_sub, I_mul, I_div, I_em, I_eq0, I_lt0, I_0lt, I_le0, I_0le, I_eq, I_lt, I_le, I_a1, I_r1, I_eq1, I32_at, I32_s, Int.toNat_natCast, List.set_cons_zero, reduceCtorEq, not_false_eq_true, not_true_eq_false, false_and, true_and, and_true, and_false, false_or, true_or, or_true, or_false, if_true, if_false, eq_self, ↓reduceIte, Int.reduceEq, Int.reduceLT, Int.reduceLE, Int.reduceAdd, Int.reduceSub, Int.reduceMul, Int.reduceNeg, Int.reduceToNat, Nat.reduceLT, Nat.reduceAdd, Nat.reduceEqDiff, List.length_cons, List.length_nil, Int.le_refl]
    rfl
  | n + 1, i, hn => by
    have ih := m129_s hs0 ns1 k0 k1 p0 p1 n (i + 1) (by omega)
    have e : gs shut (sdv 0) ns k p (i + 1) = gs1 shut (sdv 0) ns k p (gs shut (sdv 0) ns k p i) i := rfl
    rw [e] at ih
    have h2 := ns1 i (by omega)
    rw [r129_37]
    simp (disch := omega) only [r129_39, r129_41, r129_44, r129_45, r129_48, r129_50, sw_ldi, sw_ldl, sw_lda, sw_has1, sw_i1, sw_i2, sw_l1, sw_l2, sw_li, sw_r1, sw_ri, sw_rix, sw_rv, sw_pop, sw_set1, sw_set2, List.set_cons_zero, List.set_cons_succ, List.getElem?_cons_zero, List.getElem?_cons_succ, ald_1, ald_2, ast_1, ast_2, aln_1, aln_2, gf_1, gf_2, pf_1, pf_2, nw_1, ck_0, ck_1, ck_2, ck_3, ck_4, rr_1, rc_1, rc_2, K_i, K_l, K_v, I_add, I_sub, I_mul, I_div, I_em, I_eq0, I_lt0, I_0lt, I_le0, I_0le, I_eq, I_lt, I_le, I_a1, I_r1, I_eq1, I32_at, I32_s, Int.toNat_natCast, List.set_cons_zero, reduceCtorEq, not_false_eq_true, not_true_eq_false, false_and, true_and, and_true, and_false, false_or, true_or, or_true, or_false, if_true, if_false, eq_self, ↓reduceIte, Int.reduceEq, Int.reduceLT, Int.reduceLE, Int.reduceAdd, Int.reduceSub, Int.reduceMul, Int.reduceNeg, Int.reduceToNat, Nat.reduceLT, Nat.reduceAdd, Nat.reduceEqDiff, List.length_cons, List.length_nil, m30, m69_0]
    rw [if_neg (by omega)]
    cases ef : hb (sdv 0) i with
    | false =>
      have e2 : gs1 shut (sdv 0) ns k p (gs shut (sdv 0) ns k p i) i = gs shut (sdv 0) ns k p i := if_neg (fun q => by rw [ef] at q; exact Bool.false_ne_true q.1)
      rw [e2] at ih
      simp (disch := omega) only [r129_53, sw_ldi, sw_ldl, sw_lda, sw_has1, sw_i1, sw_i2, sw_l1, sw_l2, sw_li, sw_r1, sw_ri, sw_rix, sw_rv, sw_pop, sw_set1, sw_set2, List.set_cons_zero, List.set_cons_succ, List.getElem?_cons_zero, List.getElem?_cons_succ, ald_1, ald_2, ast_1, ast_2, aln_1, aln_2, gf_1, gf_2, pf_1, pf_2, nw_1, ck_0, ck_1, ck_2, ck_3, ck_4, rr_1, rc_1, rc_2, K_i, K_l, K_v, I_add, I_sub, I_mul, I_div, I_em, I_eq0, I_lt0, I_0lt, I_le0, I_0le, I_eq, I_lt, I_le, I_a1, I_r1, I_eq1, I32_at, I32_s, Int.toNat_natCast, List.set_cons_zero, reduceCtorEq, not_false_eq_true, not_true_eq_false, false_and, true_and, and_true, and_false, false_or, true_or, or_true, or_false, if_true, if_false, eq_self, ↓reduceIte, Int.reduceEq, Int.reduceLT, Int.reduceLE, Int.reduceAdd, Int.reduceSub, Int.reduceMul, Int.reduceNeg, Int.reduceToNat, Nat.reduceLT, Nat.reduceAdd, Nat.reduceEqDiff, List.length_cons, List.length_nil]
      rw [if_pos (show Int32.ofInt (bi false) = 0 from rfl)]
      simp (disch := omega) only [r129_88, r129_91, sw_ldi, sw_ldl, sw_lda, sw_has1, sw_i1, sw_i2, sw_l1, sw_l2, sw_li, sw_r1, sw_ri, sw_rix, sw_rv, sw_pop, sw_set1, sw_set2, List.set_cons_zero, List.set_cons_succ, List.getElem?_cons_zero, List.getElem?_cons_succ, ald_1, ald_2, ast_1, ast_2, aln_1, aln_2, gf_1, gf_2, pf_1, pf_2, nw_1, ck_0, ck_1, ck_2, ck_3, ck_4, rr_1, rc_1, rc_2, K_i, K_l, K_v, I_add, I_sub, I_mul, I_div, I_em, I_eq0, I_lt0, I_0lt, I_le0, I_0le, I_eq, I_lt, I_le, I_a1, I_r1, I_eq1, I32_at, I32_s, Int.toNat_natCast, List.set_cons_zero, reduceCtorEq, not_false_eq_true, not_true_eq_false, false_and, true_and, and_true, and_false, false_or, true_or, or_true, or_false, if_true, if_false, eq_self, ↓reduceIte, Int.reduceEq, Int.reduceLT, Int.reduceLE, Int.reduceAdd, Int.reduceSub, Int.reduceMul, Int.reduceNeg, Int.reduceToNat, Nat.reduceLT, Nat.reduceAdd, Nat.reduceEqDiff, List.length_cons, List.length_nil]
      exact ih
    | true =>
      simp (disch := omega) only [r129_53, r129_56, r129_57, r129_59, sw_ldi, sw_ldl, sw_lda, sw_has1, sw_i1, sw_i2, sw_l1, sw_l2, sw_li, sw_r1, sw_ri, sw_rix, sw_rv, sw_pop, sw_set1, sw_set2, List.set_cons_zero, List.set_cons_succ, List.getElem?_cons_zero, List.getElem?_cons_succ, ald_1, ald_2, ast_1, ast_2, aln_1, aln_2, gf_1, gf_2, pf_1, pf_2, nw_1, ck_0, ck_1, ck_2, ck_3, ck_4, rr_1, rc_1, rc_2, K_i, K_l, K_v, I_add, I_sub, I_mul, I_div, I_em, I_eq0, I_lt0, I_0lt, I_le0, I_0le, I_eq, I_lt, I_le, I_a1, I_r1, I_eq1, I32_at, I32_s, Int.toNat_natCast, List.set_cons_zero, reduceCtorEq, not_false_eq_true, not_true_eq_false, false_and, true_and, and_true, and_false, false_or, true_or, or_true, or_false, if_true, if_false, eq_self, ↓reduceIte, Int.reduceEq, Int.reduceLT, Int.reduceLE, Int.reduceAdd, Int.reduceSub, Int.reduceMul, Int.reduceNeg, Int.reduceToNat, Nat.reduceLT, Nat.reduceAdd, Nat.reduceEqDiff, List.length_cons, List.length_nil, m30]
      rw [if_neg (show ¬ Int32.ofInt (bi true) = 0 by decide)]
      cases es : hb shut i with
      | true =>
        have e2 : gs1 shut (sdv 0) ns k p (gs shut (sdv 0) ns k p i) i = gs shut (sdv 0) ns k p i := if_neg (fun q => by rw [es] at q; exact absurd q.2.1 (by decide))
        rw [e2] at ih
        simp (disch := omega) only [r129_62, sw_ldi, sw_ldl, sw_lda, sw_has1, sw_i1, sw_i2, sw_l1, sw_l2, sw_li, sw_r1, sw_ri, sw_rix, sw_rv, sw_pop, sw_set1, sw_set2, List.set_cons_zero, List.set_cons_succ, List.getElem?_cons_zero, List.getElem?_cons_succ, ald_1, ald_2, ast_1, ast_2, aln_1, aln_2, gf_1, gf_2, pf_1, pf_2, nw_1, ck_0, ck_1, ck_2, ck_3, ck_4, rr_1, rc_1, rc_2, K_i, K_l, K_v, I_add, I_sub, I_mul, I_div, I_em, I_eq0, I_lt0, I_0lt, I_le0, I_0le, I_eq, I_lt, I_le, I_a1, I_r1, I_eq1, I32_at, I32_s, Int.toNat_natCast, List.set_cons_zero, reduceCtorEq, not_false_eq_true, not_true_eq_false, false_and, true_and, and_true, and_false, false_or, true_or, or_true, or_false, if_true, if_false, eq_self, ↓reduceIte, Int.reduceEq, Int.reduceLT, Int.reduceLE, Int.reduceAdd, Int.reduceSub, Int.reduceMul, Int.reduceNeg, Int.reduceToNat, Nat.reduceLT, Nat.reduceAdd, Nat.reduceEqDiff, List.length_cons, List.length_nil]
        rw [if_pos (show ¬ Int32.ofInt (bi true) = 0 by decide)]
        simp (disch := omega) only [r129_88, r129_91, sw_ldi, sw_ldl, sw_lda, sw_has1, sw_i1, sw_i2, sw_l1, sw_l2, sw_li, sw_r1, sw_ri, sw_rix, sw_rv, sw_pop, sw_set1, sw_set2, List.set_cons_zero, List.set_cons_succ, List.getElem?_cons_zero, List.getElem?_cons_succ, ald_1, ald_2, ast_1, ast_2, aln_1, aln_2, gf_1, gf_2, pf_1, pf_2, nw_1, ck_0, ck_1, ck_2, ck_3, ck_4, rr_1, rc_1, rc_2, K_i, K_l, K_v, I_add, I_sub, I_mul, I_div, I_em, I_eq0, I_lt0, I_0lt, I_le0, I_0le, I_eq, I_lt, I_le, I_a1, I_r1, I_eq1, I32_at, I32_s, Int.toNat_natCast, List.set_cons_zero, reduceCtorEq, not_false_eq_true, not_true_eq_false, false_and, true_and, and_true, and_false, false_or, true_or, or_true, or_false, if_true, if_false, eq_self, ↓reduceIte, Int.reduceEq, Int.reduceLT, Int.reduceLE, Int.reduceAdd, Int.reduceSub, Int.reduceMul, Int.reduceNeg, Int.reduceToNat, Nat.reduceLT, Nat.reduceAdd, Nat.reduceEqDiff, List.length_cons, List.length_nil]
        exact ih
      | false =>
        simp (disch := omega) only [r129_62, r129_65, r129_67, r129_70, r129_71, r129_73, r129_74, r129_76, sw_ldi, sw_ldl, sw_lda, sw_has1, sw_i1, sw_i2, sw_l1, sw_l2, sw_li, sw_r1, sw_ri, sw_rix, sw_rv, sw_pop, sw_set1, sw_set2, List.set_cons_zero, List.set_cons_succ, List.getElem?_cons_zero, List.getElem?_cons_succ, ald_1, ald_2, ast_1, ast_2, aln_1, aln_2, gf_1, gf_2, pf_1, pf_2, nw_1, ck_0, ck_1, ck_2, ck_3, ck_4, rr_1, rc_1, rc_2, K_i, K_l, K_v, I_add, I_sub, I_mul, I_div, I_em, I_eq0, I_lt0, I_0lt, I_le0, I_0le, I_eq, I_lt, I_le, I_a1, I_r1, I_eq1, I32_at, I32_s, Int.toNat_natCast, List.set_cons_zero, reduceCtorEq, not_false_eq_true, not_true_eq_false, false_and, true_and, and_true, and_false, false_or, true_or, or_true, or_false, if_true, if_false, eq_self, ↓reduceIte, Int.reduceEq, Int.reduceLT, Int.reduceLE, Int.reduceAdd, Int.reduceSub, Int.reduceMul, Int.reduceNeg, Int.reduceToNat, Nat.reduceLT, Nat.reduceAdd, Nat.reduceEqDiff, List.length_cons, List.length_nil, hs0]
        rw [if_neg (show ¬ ¬ Int32.ofInt (bi false) = 0 by decide)]
        by_cases c : k = 0 ∨ ns i < p
        · have e2 : gs1 shut (sdv 0) ns k p (gs shut (sdv 0) ns k p i) i = wb (gs shut (sdv 0) ns k p i) i := if_pos ⟨ef, es, c⟩
          rw [e2] at ih
          by_cases c0 : k = 0
          · rw [if_pos c0]
            simp (disch := omega) only [r129_79, r129_81, r129_82, r129_84, r129_85, r129_86, r129_88, r129_91, sw_ldi, sw_ldl, sw_lda, sw_has1, sw_i1, sw_i2, sw_l1, sw_l2, sw_li, sw_r1, sw_ri, sw_rix, sw_rv, sw_pop, sw_set1, sw_set2, List.set_cons_zero, List.set_cons_succ, List.getElem?_cons_zero, List.getElem?_cons_succ, ald_1, ald_2, ast_1, ast_2, aln_1, aln_2, gf_1, gf_2, pf_1, pf_2, nw_1, ck_0, ck_1, ck_2, ck_3, ck_4, rr_1, rc_1, rc_2, K_i, K_l, K_v, I_add, I_sub, I_mul, I_div, I_em, I_eq0, I_lt0, I_0lt, I_le0, I_0le, I_eq, I_lt, I_le, I_a1, I_r1, I_eq1, I32_at, I32_s, Int.toNat_natCast, List.set_cons_zero, reduceCtorEq, not_false_eq_true, not_true_eq_false, false_and, true_and, and_true, and_false, false_or, true_or, or_true, or_false, if_true, if_false, eq_self, ↓reduceIte, Int.reduceEq, Int.reduceLT, Int.reduceLE, Int.reduceAdd, Int.reduceSub, Int.reduceMul, Int.reduceNeg, Int.reduceToNat, Nat.reduceLT, Nat.reduceAdd, Nat.reduceEqDiff, List.length_cons, List.length_nil]
            exact ih
          · rw [if_neg c0, if_neg (by omega)]
            simp (disch := omega) only [r129_79, r129_81, r129_82, r129_84, r129_85, r129_86, r129_88, r129_91, sw_ldi, sw_ldl, sw_lda, sw_has1, sw_i1, sw_i2, sw_l1, sw_l2, sw_li, sw_r1, sw_ri, sw_rix, sw_rv, sw_pop, sw_set1, sw_set2, List.set_cons_zero, List.set_cons_succ, List.getElem?_cons_zero, List.getElem?_cons_succ, ald_1, ald_2, ast_1, ast_2, aln_1, aln_2, gf_1, gf_2, pf_1, pf_2, nw_1, ck_0, ck_1, ck_2, ck_3, ck_4, rr_1, rc_1, rc_2, K_i, K_l, K_v, I_add, I_sub, I_mul, I_div, I_em, I_eq0, I_lt0, I_0lt, I_le0, I_0le, I_eq, I_lt, I_le, I_a1, I_r1, I_eq1, I32_at, I32_s, Int.toNat_natCast, List.set_cons_zero, reduceCtorEq, not_false_eq_true, not_true_eq_false, false_and, true_and, and_true, and_false, false_or, true_or, or_true, or_false, if_true, if_false, eq_self, ↓reduceIte, Int.reduceEq, Int.reduceLT, Int.reduceLE, Int.reduceAdd, Int.reduceSub, Int.reduceMul, Int.reduceNeg, Int.reduceToNat, Nat.reduceLT, Nat.reduceAdd, Nat.reduceEqDiff, List.length_cons, List.length_nil]
            exact ih
        · have e2 : gs1 shut (sdv 0) ns k p (gs shut (sdv 0) ns k p i) i = gs shut (sdv 0) ns k p i := if_neg (fun q => c q.2.2)
          rw [e2] at ih
          rw [if_neg (by omega), if_pos (by omega)]
          simp (disch := omega) only [r129_88, r129_91, sw_ldi, sw_ldl, sw_lda, sw_has1, sw_i1, sw_i2, sw_l1, sw_l2, sw_li, sw_r1, sw_ri, sw_rix, sw_rv, sw_pop, sw_set1, sw_set2, List.set_cons_zero, List.set_cons_succ, List.getElem?_cons_zero, List.getElem?_cons_succ, ald_1, ald_2, ast_1, ast_2, aln_1, aln_2, gf_1, gf_2, pf_1, pf_2, nw_1, ck_0, ck_1, ck_2, ck_3, ck_4, rr_1, rc_1, rc_2, K_i, K_l, K_v, I_add, I_sub, I_mul, I_div, I_em, I_eq0, I_lt0, I_0lt, I_le0, I_0le, I_eq, I_lt, I_le, I_a1, I_r1, I_eq1, I32_at, I32_s, Int.toNat_natCast, List.set_cons_zero, reduceCtorEq, not_false_eq_true, not_true_eq_false, false_and, true_and, and_true, and_false, false_or, true_or, or_true, or_false, if_true, if_false, eq_self, ↓reduceIte, Int.reduceEq, Int.reduceLT, Int.reduceLE, Int.reduceAdd, Int.reduceSub, Int.reduceMul, Int.reduceNeg, Int.reduceToNat, Nat.reduceLT, Nat.reduceAdd, Nat.reduceEqDiff, List.length_cons, List.length_nil]
          exact ih
theorem m129_p {now : Int64} {j : Int} (hb0 : H.1 rb = .inr (0, 60, I32 nb)) (hs0 : H.1 rs = .inr (0, 36, I32 ns)) (nb1 : ∀ i, i < 60 → 0 ≤ nb i ∧ nb i < 1000) (ns1 : ∀ i, i < 36 → 0 ≤ ns i ∧ ns i < 1000) (k0 : 0 ≤ k) (k1 : k ≤ 2) (p0 : -1 ≤ p) (p1 : p ≤ 1000) : ∀ (n i : Nat), i + n = 60 → sw_A 129 116 [some (.ref rb), some (.ref rs), some (.long shut), none, some (.int (Int32.ofInt k)), some (.int (Int32.ofInt p)), some (.long all), none, some (.long now), none, some (.int (Int32.ofInt j)), some (.long (nxp (leb nb ns shut k p (-1)) now i)), none, some (.int (Int32.ofInt i))] [] H Q = sw_A 129 97 [some (.ref rb), some (.ref rs), some (.long shut), none, some (.int (Int32.ofInt k)), some (.int (Int32.ofInt p)), some (.long all), none, some (.long (nxp (leb nb ns shut k p (-1)) now 60)), none, some (.int (Int32.ofInt (j + 1))), some (.long (nxp (leb nb ns shut k p (-1)) now 60)), none, some (.int (Int32.ofInt 60))] [] H Q
  | 0, i, hn => by
    have e : i = 60 := hn
    subst e
    rw [r129_116]
    simp (disch := omega) only [r129_118, r129_120, r129_187, r129_189, r129_191, r129_194, sw_ldi, sw_ldl, sw_lda, sw_has1, sw_i1, sw_i2, sw_l1, sw_l2, sw_li, sw_r1, sw_ri, sw_rix, sw_rv, sw_pop, sw_set1, sw_set2, List.set_cons_zero, List.set_cons_succ, List.getElem?_cons_zero, List.getElem?_cons_succ, ald_1, ald_2, ast_1, ast_2, aln_1, aln_2, gf_1, gf_2, pf_1, pf_2, nw_1, ck_0, ck_1, ck_2, ck_3, ck_4, rr_1, rc_1, rc_2, K_i, K_l, K_v, I_add, I_sub, I_mul, I_div, I_em, I_eq0, I_lt0, I_0lt, I_le0, I_0le, I_eq, I_lt, I_le, I_a1, I_r1, I_eq1, I32_at, I32_s, Int.toNat_natCast, List.set_cons_zero, reduceCtorEq, not_false_eq_true, not_true_eq_false, false_and, true_and, and_true, and_false, false_or, true_or, or_true, or_false, if_true, if_false, eq_self, ↓reduceIte, Int.reduceEq, Int.reduceLT, Int.reduceLE, Int.reduceAdd, Int.reduceSub, Int.reduceMul, Int.reduceNeg, Int.reduceToNat, Nat.reduceLT, Nat.reduceAdd, Nat.reduceEqDiff, List.length_cons, List.length_nil, Int.le_refl]
    rfl
  | n + 1, i, hn => by
    have hi60 : i < 60 := by omega
    have ih := m129_p (now := now) (j := j) hb0 hs0 nb1 ns1 k0 k1 p0 p1 n (i + 1) (by omega)
    refine Eq.trans ?_ ih
    have g1 := f_lo_b (b := i) (by omega) (by omega)
    have g2 := f_hi_b (b := i) (by omega) (by omega)
    have e : nxp (leb nb ns shut k p (-1)) now (i + 1) = nx1 (leb nb ns shut k p (-1)) now (nxp (leb nb ns shut k p (-1)) now i) i := rfl
    rw [e]
    generalize nxp (leb nb ns shut k p (-1)) now i = z
    have l1 : f_lo i = (lo i : Int) := (lo_lt hi60).2
    have l2 : f_hi i = (hi i : Int) := (hi_lt hi60).2
    have b1 := bi_b (hb now (lo i))
    have b2 := bi_b (hb now (hi i))
    have lb : ld nb ns shut k p i = 0 ∨ ld nb ns shut k p i = 1 := ldv_b _ _ _ _ _ _ _
    have stay : (hb now (lo i) = hb now (hi i) ∨ leb nb ns shut k p (-1) i = false) → nx1 (leb nb ns shut k p (-1)) now z i = z := fun q => if_neg (fun q2 => by
      rcases q with q | q
      · exact q2.1 q
      · rw [q] at q2; exact Bool.false_ne_true q2.2)
    have m81x := m81 (Q := sw_K 129 158 none [some (.ref rb), some (.ref rs), some (.long shut), none, some (.int (Int32.ofInt k)), some (.int (Int32.ofInt p)), some (.long all), none, some (.long now), none, some (.int (Int32.ofInt j)), some (.long z), none, some (.int (Int32.ofInt i))] [] Q) (shut := shut) (b := i) hb0 hs0 nb1 ns1 k0 k1 p0 p1 (by omega) (by omega)
    rw [r129_116]
    simp (disch := omega) only [r129_118, r129_120, r129_123, r129_125, r129_127, r129_130, r129_133, r129_135, r129_137, r129_140, sw_ldi, sw_ldl, sw_lda, sw_has1, sw_i1, sw_i2, sw_l1, sw_l2, sw_li, sw_r1, sw_ri, sw_rix, sw_rv, sw_pop, sw_set1, sw_set2, List.set_cons_zero, List.set_cons_succ, List.getElem?_cons_zero, List.getElem?_cons_succ, ald_1, ald_2, ast_1, ast_2, aln_1, aln_2, gf_1, gf_2, pf_1, pf_2, nw_1, ck_0, ck_1, ck_2, ck_3, ck_4, rr_1, rc_1, rc_2, K_i, K_l, K_v, I_add, I_sub, I_mul, I_div, I_em, I_eq0, I_lt0, I_0lt, I_le0, I_0le, I_eq, I_lt, I_le, I_a1, I_r1, I_eq1, I32_at, I32_s, Int.toNat_natCast, List.set_cons_zero, reduceCtorEq, not_false_eq_true, not_true_eq_false, false_and, true_and, and_true, and_false, false_or, true_or, or_true, or_false, if_true, if_false, eq_self, ↓reduceIte, Int.reduceEq, Int.reduceLT, Int.reduceLE, Int.reduceAdd, Int.reduceSub, Int.reduceMul, Int.reduceNeg, Int.reduceToNat, Nat.reduceLT, Nat.reduceAdd, Nat.reduceEqDiff, List.length_cons, List.length_nil, m79, m80, m30]
    rw [if_neg (by omega), show (f_lo i).toNat = lo i from rfl, show (f_hi i).toNat = hi i from rfl]
    simp (disch := omega) only [r129_143, sw_ldi, sw_ldl, sw_lda, sw_has1, sw_i1, sw_i2, sw_l1, sw_l2, sw_li, sw_r1, sw_ri, sw_rix, sw_rv, sw_pop, sw_set1, sw_set2, List.set_cons_zero, List.set_cons_succ, List.getElem?_cons_zero, List.getElem?_cons_succ, ald_1, ald_2, ast_1, ast_2, aln_1, aln_2, gf_1, gf_2, pf_1, pf_2, nw_1, ck_0, ck_1, ck_2, ck_3, ck_4, rr_1, rc_1, rc_2, K_i, K_l, K_v, I_add, I_sub, I_mul, I_div, I_em, I_eq0, I_lt0, I_0lt, I_le0, I_0le, I_eq, I_lt, I_le, I_a1, I_r1, I_eq1, I32_at, I32_s, Int.toNat_natCast, List.set_cons_zero, reduceCtorEq, not_false_eq_true, not_true_eq_false, false_and, true_and, and_true, and_false, false_or, true_or, or_true, or_false, if_true, if_false, eq_self, ↓reduceIte, Int.reduceEq, Int.reduceLT, Int.reduceLE, Int.reduceAdd, Int.reduceSub, Int.reduceMul, Int.reduceNeg, Int.reduceToNat, Nat.reduceLT, Nat.reduceAdd, Nat.reduceEqDiff, List.length_cons, List.length_nil]
    by_cases c : hb now (lo i) = hb now (hi i)
    · rw [stay (Or.inl c), c, if_pos rfl]
      simp (disch := omega) only [r129_181, r129_184, sw_ldi, sw_ldl, sw_lda, sw_has1, sw_i1, sw_i2, sw_l1, sw_l2, sw_li, sw_r1, sw_ri, sw_rix, sw_rv, sw_pop, sw_set1, sw_set2, List.set_cons_zero, List.set_cons_succ, List.getElem?_cons_zero, List.getElem?_cons_succ, ald_1, ald_2, ast_1, ast_2, aln_1, aln_2, gf_1, gf_2, pf_1, pf_2, nw_1, ck_0, ck_1, ck_2, ck_3, ck_4, rr_1, rc_1, rc_2, K_i, K_l, K_v, I_add, I_sub, I_mul, I_div, I_em, I_eq0, I_lt0, I_0lt, I_le0, I_0le, I_eq, I_lt, I_le, I_a1, I_r1, I_eq1, I32_at, I32_s, Int.toNat_natCast, List.set_cons_zero, reduceCtorEq, not_false_eq_true, not_true_eq_false, false_and, true_and, and_true, and_false, false_or, true_or, or_true, or_false, if_true, if_false, eq_self, ↓reduceIte, Int.reduceEq, Int.reduceLT, Int.reduceLE, Int.reduceAdd, Int.reduceSub, Int.reduceMul, Int.reduceNeg, Int.reduceToNat, Nat.reduceLT, Nat.reduceAdd, Nat.reduceEqDiff, List.length_cons, List.length_nil]
      rfl
    · have cb : ¬ bi (hb now (lo i)) = bi (hb now (hi i)) := by
        revert c
        cases hb now (lo i) <;> cases hb now (hi i) <;> decide
      rw [if_neg cb]
      simp (disch := omega) only [r129_146, r129_147, r129_148, r129_149, r129_151, r129_153, r129_155, sw_ldi, sw_ldl, sw_lda, sw_has1, sw_i1, sw_i2, sw_l1, sw_l2, sw_li, sw_r1, sw_ri, sw_rix, sw_rv, sw_pop, sw_set1, sw_set2, List.set_cons_zero, List.set_cons_succ, List.getElem?_cons_zero, List.getElem?_cons_succ, ald_1, ald_2, ast_1, ast_2, aln_1, aln_2, gf_1, gf_2, pf_1, pf_2, nw_1, ck_0, ck_1, ck_2, ck_3, ck_4, rr_1, rc_1, rc_2, K_i, K_l, K_v, I_add, I_sub, I_mul, I_div, I_em, I_eq0, I_lt0, I_0lt, I_le0, I_0le, I_eq, I_lt, I_le, I_a1, I_r1, I_eq1, I32_at, I32_s, Int.toNat_natCast, List.set_cons_zero, reduceCtorEq, not_false_eq_true, not_true_eq_false, false_and, true_and, and_true, and_false, false_or, true_or, or_true, or_false, if_true, if_false, eq_self, ↓reduceIte, Int.reduceEq, Int.reduceLT, Int.reduceLE, Int.reduceAdd, Int.reduceSub, Int.reduceMul, Int.reduceNeg, Int.reduceToNat, Nat.reduceLT, Nat.reduceAdd, Nat.reduceEqDiff, List.length_cons, List.length_nil]
      rw [m81x]
      simp (disch := omega) only [r129_158, sw_ldi, sw_ldl, sw_lda, sw_has1, sw_i1, sw_i2, sw_l1, sw_l2, sw_li, sw_r1, sw_ri, sw_rix, sw_rv, sw_pop, sw_set1, sw_set2, List.set_cons_zero, List.set_cons_succ, List.getElem?_cons_zero, List.getElem?_cons_succ, ald_1, ald_2, ast_1, ast_2, aln_1, aln_2, gf_1, gf_2, pf_1, pf_2, nw_1, ck_0, ck_1, ck_2, ck_3, ck_4, rr_1, rc_1, rc_2, K_i, K_l, K_v, I_add, I_sub, I_mul, I_div, I_em, I_eq0, I_lt0, I_0lt, I_le0, I_0le, I_eq, I_lt, I_le, I_a1, I_r1, I_eq1, I32_at, I32_s, Int.toNat_natCast, List.set_cons_zero, reduceCtorEq, not_false_eq_true, not_true_eq_false, false_and, true_and, and_true, and_false, false_or, true_or, or_true, or_false, if_true, if_false, eq_self, ↓reduceIte, Int.reduceEq, Int.reduceLT, Int.reduceLE, Int.reduceAdd, Int.reduceSub, Int.reduceMul, Int.reduceNeg, Int.reduceToNat, Nat.reduceLT, Nat.reduceAdd, Nat.reduceEqDiff, List.length_cons, List.length_nil]
      by_cases cl : ld nb ns shut k p i = 0
      · rw [if_pos cl, stay (Or.inr (decide_eq_false (fun q => by omega)))]
        simp (disch := omega) only [r129_181, r129_184, sw_ldi, sw_ldl, sw_lda, sw_has1, sw_i1, sw_i2, sw_l1, sw_l2, sw_li, sw_r1, sw_ri, sw_rix, sw_rv, sw_pop, sw_set1, sw_set2, List.set_cons_zero, List.set_cons_succ, List.getElem?_cons_zero, List.getElem?_cons_succ, ald_1, ald_2, ast_1, ast_2, aln_1, aln_2, gf_1, gf_2, pf_1, pf_2, nw_1, ck_0, ck_1, ck_2, ck_3, ck_4, rr_1, rc_1, rc_2, K_i, K_l, K_v, I_add, I_sub, I_mul, I_div, I_em, I_eq0, I_lt0, I_0lt, I_le0, I_0le, I_eq, I_lt, I_le, I_a1, I_r1, I_eq1, I32_at, I32_s, Int.toNat_natCast, List.set_cons_zero, reduceCtorEq, not_false_eq_true, not_true_eq_false, false_and, true_and, and_true, and_false, false_or, true_or, or_true, or_false, if_true, if_false, eq_self, ↓reduceIte, Int.reduceEq, Int.reduceLT, Int.reduceLE, Int.reduceAdd, Int.reduceSub, Int.reduceMul, Int.reduceNeg, Int.reduceToNat, Nat.reduceLT, Nat.reduceAdd, Nat.reduceEqDiff, List.length_cons, List.length_nil]
        rfl
      · have e2 : nx1 (leb nb ns shut k p (-1)) now z i = wb2 z (lo i) (hi i) := if_pos ⟨c, decide_eq_true ⟨by omega, by omega⟩⟩
        rw [if_neg cl, e2]
        simp (disch := omega) only [r129_161, r129_163, r129_164, r129_166, r129_169, r129_170, r129_171, r129_173, r129_176, r129_177, r129_178, r129_179, r129_181, r129_184, sw_ldi, sw_ldl, sw_lda, sw_has1, sw_i1, sw_i2, sw_l1, sw_l2, sw_li, sw_r1, sw_ri, sw_rix, sw_rv, sw_pop, sw_set1, sw_set2, List.set_cons_zero, List.set_cons_succ, List.getElem?_cons_zero, List.getElem?_cons_succ, ald_1, ald_2, ast_1, ast_2, aln_1, aln_2, gf_1, gf_2, pf_1, pf_2, nw_1, ck_0, ck_1, ck_2, ck_3, ck_4, rr_1, rc_1, rc_2, K_i, K_l, K_v, I_add, I_sub, I_mul, I_div, I_em, I_eq0, I_lt0, I_0lt, I_le0, I_0le, I_eq, I_lt, I_le, I_a1, I_r1, I_eq1, I32_at, I32_s, Int.toNat_natCast, List.set_cons_zero, reduceCtorEq, not_false_eq_true, not_true_eq_false, false_and, true_and, and_true, and_false, false_or, true_or, or_true, or_false, if_true, if_false, eq_self, ↓reduceIte, Int.reduceEq, Int.reduceLT, Int.reduceLE, Int.reduceAdd, Int.reduceSub, Int.reduceMul, Int.reduceNeg, Int.reduceToNat, Nat.reduceLT, Nat.reduceAdd, Nat.reduceEqDiff, List.length_cons, List.length_nil, m79, m80]
        unfold wb2
        rw [← l1, ← l2]
        rfl
end sw_s6
