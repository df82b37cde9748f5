/-! trapped; moved in the law -/
noncomputable def tpv (sh oil : Nat → Int) (iso : Int) (t : Nat) : Int := @ite Int (sh t = 0 ∧ oil t = iso ∧ ¬ HG sh oil t) (Classical.propDecidable _) 1 0
section sw_tp
variable {L : Nat} {A : Nat → Nat → Int} {F : Nat → Int} {T : Nat → sw_Ce} {X : Nat × Nat × Nat} {Q : sw_Ot → sw_HS → Prop}
theorem m146_l {iso : Int} {hg q : Nat → Int} {h z : Int} (h9 : B01 (A 9)) (ho : B01 (A 48)) (hi9 : iso = 0 ∨ iso = 1) (hd : HD (A 9) (A 48) hg) : ∀ (n i : Nat), i + n = 36 → sw_A 146 10 [some (.ref 47), some (.ref 9), some (.int (Int32.ofInt iso)), some (.int (Int32.ofInt (su (tpv (A 9) (A 48) iso) i))), some (.int (Int32.ofInt i))] [] (hZ L A F T X hg q h z) Q = Q (some (some (.int (Int32.ofInt (su (tpv (A 9) (A 48) iso) 36))))) (hZ L A F T X hg q h z)
  | 0, i, hn => by
    have e : i = 36 := hn
    subst e
    rw [r146_10]
    simp (disch := omega) only [r146_12, r146_14, r146_54, r146_55, sw_ldi, sw_ldl, sw_lda, sw_has1, sw_i1, sw_i2, sw_l1, sw_l2, sw_li, sw_r1, sw_ri, sw_rix, sw_rv, sw_pop, sw_set1, sw_set2, List.set_cons_zero, List.set_cons_succ, List.getElem?_cons_zero, List.getElem?_cons_succ, ald_1, ald_2, ast_1, ast_2, aln_1, aln_2, gf_1, gf_2, pf_1, pf_2, nw_1, ck_0, ck_1, ck_2, ck_3, ck_4, rr_1, rc_1, rc_2, K_i, K_l, K_v, I_add, I_sub, I_mul, I_div, I_em, I_eq0, I_lt0, I_0lt, I_le0, I_0le, I_eq, I_lt, I_le, I_a1, I_r1, I_eq1, I32_at, I32_s, Int.toNat_natCast, List.set_cons_zero, reduceCtorEq, not_false_eq_true, not_true_eq_false, false_and, true_and, and_true, and_false, false_or, true_or, or_true, or_false, if_true, if_false, eq_self, ↓reduceIte, Int.reduceEq, Int.reduceLT, Int.reduceLE, Int.reduceAdd, Int.reduceSub, Int.reduceMul, Int.reduceNeg, Int.reduceToNat, Nat.reduceLT, Nat.reduceAdd, Nat.reduceEqDiff, List.length_cons, List.length_nil, Int.le_refl]
    rfl
  | n + 1, i, hn => by
    have hi2 : i < 36 := by omega
    have ih := m146_l (q := q) (h := h) (z := z) h9 ho hi9 hd n (i + 1) (by omega)
    have s1 := h9 i hi2
    have s2 := ho i hi2
    have s3 := hd.1 i hi2
    have s4 := hd.2 i hi2
    have e : su (tpv (A 9) (A 48) iso) (i + 1) = su (tpv (A 9) (A 48) iso) i + tpv (A 9) (A 48) iso i := rfl
    have t1 : (A 9 i = 0 ∧ A 48 i = iso ∧ hg i = 0) → tpv (A 9) (A 48) iso i = 1 := fun q => if_pos ⟨q.1, q.2.1, fun g => by have := s4.mpr g; omega⟩
    have t0 : ¬ (A 9 i = 0 ∧ A 48 i = iso ∧ hg i = 0) → tpv (A 9) (A 48) iso i = 0 := fun q => if_neg fun g => q ⟨g.1, g.2.1, by
      rcases s3 with y | y
      · exact y
      · exact absurd (s4.mp y) g.2.2⟩
    rw [e] at ih
    generalize su (tpv (A 9) (A 48) iso) i = v at *
    unfold hZ at ih ⊢
    rw [r146_10]
    simp (disch := omega) only [r146_12, r146_14, r146_17, r146_18, r146_20, r146_21, sw_ldi, sw_ldl, sw_lda, sw_has1, sw_i1, sw_i2, sw_l1, sw_l2, sw_li, sw_r1, sw_ri, sw_rix, sw_rv, sw_pop, sw_set1, sw_set2, List.set_cons_zero, List.set_cons_succ, List.getElem?_cons_zero, List.getElem?_cons_succ, ald_1, ald_2, ast_1, ast_2, aln_1, aln_2, gf_1, gf_2, pf_1, pf_2, nw_1, ck_0, ck_1, ck_2, ck_3, ck_4, rr_1, rc_1, rc_2, K_i, K_l, K_v, I_add, I_sub, I_mul, I_div, I_em, I_eq0, I_lt0, I_0lt, I_le0, I_0le, I_eq, I_lt, I_le, I_a1, I_r1, I_eq1, I32_at, I32_s, Int.toNat_natCast, List.set_cons_zero, reduceCtorEq, not_false_eq_true, not_true_eq_false, false_and, true_and, and_true, and_false, false_or, true_or, or_true, or_false, if_true, if_false, eq_self, ↓reduceIte, Int.reduceEq, Int.reduceLT, Int.reduceLE, Int.reduceAdd, Int.reduceSub, Int.reduceMul, Int.reduceNeg, Int.reduceToNat, Nat.reduceLT, Nat.reduceAdd, Nat.reduceEqDiff, List.length_cons, List.length_nil, sA_at, ss, sA_cm, h_9]
    rw [if_neg (by omega)]
    by_cases c1 : A 9 i = 0
    · rw [if_neg (by omega)]
      simp (disch := omega) only [r146_24, r146_25, r146_28, r146_30, r146_31, r146_32, sw_ldi, sw_ldl, sw_lda, sw_has1, sw_i1, sw_i2, sw_l1, sw_l2, sw_li, sw_r1, sw_ri, sw_rix, sw_rv, sw_pop, sw_set1, sw_set2, List.set_cons_zero, List.set_cons_succ, List.getElem?_cons_zero, List.getElem?_cons_succ, ald_1, ald_2, ast_1, ast_2, aln_1, aln_2, gf_1, gf_2, pf_1, pf_2, nw_1, ck_0, ck_1, ck_2, ck_3, ck_4, rr_1, rc_1, rc_2, K_i, K_l, K_v, I_add, I_sub, I_mul, I_div, I_em, I_eq0, I_lt0, I_0lt, I_le0, I_0le, I_eq, I_lt, I_le, I_a1, I_r1, I_eq1, I32_at, I32_s, Int.toNat_natCast, List.set_cons_zero, reduceCtorEq, not_false_eq_true, not_true_eq_false, false_and, true_and, and_true, and_false, false_or, true_or, or_true, or_false, if_true, if_false, eq_self, ↓reduceIte, Int.reduceEq, Int.reduceLT, Int.reduceLE, Int.reduceAdd, Int.reduceSub, Int.reduceMul, Int.reduceNeg, Int.reduceToNat, Nat.reduceLT, Nat.reduceAdd, Nat.reduceEqDiff, List.length_cons, List.length_nil, sA_at, ss, sA_cm, h_47, h_48]
      by_cases c2 : A 48 i = iso
      · rw [if_neg (by omega)]
        simp (disch := omega) only [r146_35, r146_36, r146_39, r146_41, r146_42, sw_ldi, sw_ldl, sw_lda, sw_has1, sw_i1, sw_i2, sw_l1, sw_l2, sw_li, sw_r1, sw_ri, sw_rix, sw_rv, sw_pop, sw_set1, sw_set2, List.set_cons_zero, List.set_cons_succ, List.getElem?_cons_zero, List.getElem?_cons_succ, ald_1, ald_2, ast_1, ast_2, aln_1, aln_2, gf_1, gf_2, pf_1, pf_2, nw_1, ck_0, ck_1, ck_2, ck_3, ck_4, rr_1, rc_1, rc_2, K_i, K_l, K_v, I_add, I_sub, I_mul, I_div, I_em, I_eq0, I_lt0, I_0lt, I_le0, I_0le, I_eq, I_lt, I_le, I_a1, I_r1, I_eq1, I32_at, I32_s, Int.toNat_natCast, List.set_cons_zero, reduceCtorEq, not_false_eq_true, not_true_eq_false, false_and, true_and, and_true, and_false, false_or, true_or, or_true, or_false, if_true, if_false, eq_self, ↓reduceIte, Int.reduceEq, Int.reduceLT, Int.reduceLE, Int.reduceAdd, Int.reduceSub, Int.reduceMul, Int.reduceNeg, Int.reduceToNat, Nat.reduceLT, Nat.reduceAdd, Nat.reduceEqDiff, List.length_cons, List.length_nil, sA_at, ss, sA_cm, h_47, h_49]
        by_cases c3 : hg i = 0
        · rw [t1 ⟨c1, c2, c3⟩] at ih
          rw [if_neg (by omega)]
          simp (disch := omega) only [r146_45, r146_48, r146_51, sw_ldi, sw_ldl, sw_lda, sw_has1, sw_i1, sw_i2, sw_l1, sw_l2, sw_li, sw_r1, sw_ri, sw_rix, sw_rv, sw_pop, sw_set1, sw_set2, List.set_cons_zero, List.set_cons_succ, List.getElem?_cons_zero, List.getElem?_cons_succ, ald_1, ald_2, ast_1, ast_2, aln_1, aln_2, gf_1, gf_2, pf_1, pf_2, nw_1, ck_0, ck_1, ck_2, ck_3, ck_4, rr_1, rc_1, rc_2, K_i, K_l, K_v, I_add, I_sub, I_mul, I_div, I_em, I_eq0, I_lt0, I_0lt, I_le0, I_0le, I_eq, I_lt, I_le, I_a1, I_r1, I_eq1, I32_at, I32_s, Int.toNat_natCast, List.set_cons_zero, reduceCtorEq, not_false_eq_true, not_true_eq_false, false_and, true_and, and_true, and_false, false_or, true_or, or_true, or_false, if_true, if_false, eq_self, ↓reduceIte, Int.reduceEq, Int.reduceLT, Int.reduceLE, Int.reduceAdd, Int.reduceSub, Int.reduceMul, Int.reduceNeg, Int.reduceToNat, Nat.reduceLT, Nat.reduceAdd, Nat.reduceEqDiff, List.length_cons, List.length_nil]
          exact ih
        · rw [t0 (fun q => c3 q.2.2), Int.add_zero] at ih
          rw [if_pos c3]
          simp (disch := omega) only [r146_48, r146_51, sw_ldi, sw_ldl, sw_lda, sw_has1, sw_i1, sw_i2, sw_l1, sw_l2, sw_li, sw_r1, sw_ri, sw_rix, sw_rv, sw_pop, sw_set1, sw_set2, List.set_cons_zero, List.set_cons_succ, List.getElem?_cons_zero, List.getElem?_cons_succ, ald_1, ald_2, ast_1, ast_2, aln_1, aln_2, gf_1, gf_2, pf_1, pf_2, nw_1, ck_0, ck_1, ck_2, ck_3, ck_4, rr_1, rc_1, rc_2, K_i, K_l, K_v, I_add, I_sub, I_mul, I_div, I_em, I_eq0, I_lt0, I_0lt, I_le0, I_0le, I_eq, I_lt, I_le, I_a1, I_r1, I_eq1, I32_at, I32_s, Int.toNat_natCast, List.set_cons_zero, reduceCtorEq, not_false_eq_true, not_true_eq_false, false_and, true_and, and_true, and_false, false_or, true_or, or_true, or_false, if_true, if_false, eq_self, ↓reduceIte, Int.reduceEq, Int.reduceLT, Int.reduceLE, Int.reduceAdd, Int.reduceSub, Int.reduceMul, Int.reduceNeg, Int.reduceToNat, Nat.reduceLT, Nat.reduceAdd, Nat.reduceEqDiff, List.length_cons, List.length_nil]
          exact ih
      · rw [t0 (fun q => c2 q.2.1), Int.add_zero] at ih
        rw [if_pos c2]
        simp (disch := omega) only [r146_48, r146_51, sw_ldi, sw_ldl, sw_lda, sw_has1, sw_i1, sw_i2, sw_l1, sw_l2, sw_li, sw_r1, sw_ri, sw_rix, sw_rv, sw_pop, sw_set1, sw_set2, List.set_cons_zero, List.set_cons_succ, List.getElem?_cons_zero, List.getElem?_cons_succ, ald_1, ald_2, ast_1, ast_2, aln_1, aln_2, gf_1, gf_2, pf_1, pf_2, nw_1, ck_0, ck_1, ck_2, ck_3, ck_4, rr_1, rc_1, rc_2, K_i, K_l, K_v, I_add, I_sub, I_mul, I_div, I_em, I_eq0, I_lt0, I_0lt, I_le0, I_0le, I_eq, I_lt, I_le, I_a1, I_r1, I_eq1, I32_at, I32_s, Int.toNat_natCast, List.set_cons_zero, reduceCtorEq, not_false_eq_true, not_true_eq_false, false_and, true_and, and_true, and_false, false_or, true_or, or_true, or_false, if_true, if_false, eq_self, ↓reduceIte, Int.reduceEq, Int.reduceLT, Int.reduceLE, Int.reduceAdd, Int.reduceSub, Int.reduceMul, Int.reduceNeg, Int.reduceToNat, Nat.reduceLT, Nat.reduceAdd, Nat.reduceEqDiff, List.length_cons, List.length_nil]
        exact ih
    · rw [t0 (fun q => c1 q.1), Int.add_zero] at ih
      rw [if_pos c1]
      simp (disch := omega) only [r146_48, r146_51, sw_ldi, sw_ldl, sw_lda, sw_has1, sw_i1, sw_i2, sw_l1, sw_l2, sw_li, sw_r1, sw_ri, sw_rix, sw_rv, sw_pop, sw_set1, sw_set2, List.set_cons_zero, List.set_cons_succ, List.getElem?_cons_zero, List.getElem?_cons_succ, ald_1, ald_2, ast_1, ast_2, aln_1, aln_2, gf_1, gf_2, pf_1, pf_2, nw_1, ck_0, ck_1, ck_2, ck_3, ck_4, rr_1, rc_1, rc_2, K_i, K_l, K_v, I_add, I_sub, I_mul, I_div, I_em, I_eq0, I_lt0, I_0lt, I_le0, I_0le, I_eq, I_lt, I_le, I_a1, I_r1, I_eq1, I32_at, I32_s, Int.toNat_natCast, List.set_cons_zero, reduceCtorEq, not_false_eq_true, not_true_eq_false, false_and, true_and, and_true, and_false, false_or, true_or, or_true, or_false, if_true, if_false, eq_self, ↓reduceIte, Int.reduceEq, Int.reduceLT, Int.reduceLE, Int.reduceAdd, Int.reduceSub, Int.reduceMul, Int.reduceNeg, Int.reduceToNat, Nat.reduceLT, Nat.reduceAdd, Nat.reduceEqDiff, List.length_cons, List.length_nil]
      exact ih
/-- trapped -/
theorem m147 {iso : Int} (h9 : B01 (A 9)) (ho : B01 (A 48)) (hi9 : iso = 0 ∨ iso = 1)
    (hQ : ∀ (B : Nat → Nat → Int) (G : Nat → Int), Fm A B → G 0 = F 0 → Q (some (some (.int (Int32.ofInt (su (tpv (A 9) (A 48) iso) 36))))) (sw_h L B G T X)) :
    sw_M 147 [.ref 1, .int (Int32.ofInt iso)] (sw_h L A F T X) Q := by
  obtain ⟨hg, q, h, z, k1, k2⟩ := m73 (L := L) (F := F) (T := T) (X := X) (Q := sw_K 146 5 none [some (.ref 47), some (.ref 9), some (.int (Int32.ofInt iso)), none, none] [] (sw_K 147 15 none [some (.ref 1), some (.int (Int32.ofInt iso))] [] Q)) h9 ho
  have ml := m146_l (L := L) (F := F) (T := T) (X := X) (Q := sw_K 147 15 none [some (.ref 1), some (.int (Int32.ofInt iso))] [] Q) (q := q) (h := h) (z := z) h9 ho hi9 k1 36 0 (by omega)
  have hq := hQ (sw_s (sw_s A 49 hg) 51 q) (sw_s (sw_s F 15 (h : Int)) 16 (z : Int)) (Fm_2 rfl rfl) rfl
  rw [show su (tpv (A 9) (A 48) iso) 0 = 0 from rfl, show (((0 : Nat) : Int)) = 0 from rfl] at ml
  rw [e147]
  simp (disch := omega) only [r147_0, r147_1, r147_4, r147_5, r147_8, r147_11, r147_12, sw_ldi, sw_ldl, sw_lda, sw_has1, sw_i1, sw_i2, sw_l1, sw_l2, sw_li, sw_r1, sw_ri, sw_rix, sw_rv, sw_pop, sw_set1, sw_set2, List.set_cons_zero, List.set_cons_succ, List.getElem?_cons_zero, List.getElem?_cons_succ, ald_1, ald_2, ast_1, ast_2, aln_1, aln_2, gf_1, gf_2, pf_1, pf_2, nw_1, ck_0, ck_1, ck_2, ck_3, ck_4, rr_1, rc_1, rc_2, K_i, K_l, K_v, I_add, I_sub, I_mul, I_div, I_em, I_eq0, I_lt0, I_0lt, I_le0, I_0le, I_eq, I_lt, I_le, I_a1, I_r1, I_eq1, I32_at, I32_s, Int.toNat_natCast, List.set_cons_zero, reduceCtorEq, not_false_eq_true, not_true_eq_false, false_and, true_and, and_true, and_false, false_or, true_or, or_true, or_false, if_true, if_false, eq_self, ↓reduceIte, Int.reduceEq, Int.reduceLT, Int.reduceLE, Int.reduceAdd, Int.reduceSub, Int.reduceMul, Int.reduceNeg, Int.reduceToNat, Nat.reduceLT, Nat.reduceAdd, Nat.reduceEqDiff, List.length_cons, List.length_nil, h_1, h_8, h_47, e146]
  simp (disch := omega) only [r146_0, r146_1, r146_2, sw_ldi, sw_ldl, sw_lda, sw_has1, sw_i1, sw_i2, sw_l1, sw_l2, sw_li, sw_r1, sw_ri, sw_rix, sw_rv, sw_pop, sw_set1, sw_set2, List.set_cons_zero, List.set_cons_succ, List.getElem?_cons_zero, List.getElem?_cons_succ, ald_1, ald_2, ast_1, ast_2, aln_1, aln_2, gf_1, gf_2, pf_1, pf_2, nw_1, ck_0, ck_1, ck_2, ck_3, ck_4, rr_1, rc_1, rc_2, K_i, K_l, K_v, I_add, I_sub, I_mul, I_div, I_em, I_eq0, I_lt0, I_0lt, I_le0, I_0le, I_eq, I_lt, I_le, I_a1, I_r1, I_eq1, I32_at, I32_s, Int.toNat_natCast, List.set_cons_zero, reduceCtorEq, not_false_eq_true, not_true_eq_false, false_and, true_and, and_true, and_false, false_or, true_or, or_true, or_false, if_true, if_false, eq_self, ↓reduceIte, Int.reduceEq, Int.reduceLT, Int.reduceLE, Int.reduceAdd, Int.reduceSub, Int.reduceMul, Int.reduceNeg, Int.reduceToNat, Nat.reduceLT, Nat.reduceAdd, Nat.reduceEqDiff, List.length_cons, List.length_nil, h_47]
  rw [k2]
  simp (disch := omega) only [r146_5, r146_6, r146_7, r146_8, sw_ldi, sw_ldl, sw_lda, sw_has1, sw_i1, sw_i2, sw_l1, sw_l2, sw_li, sw_r1, sw_ri, sw_rix, sw_rv, sw_pop, sw_set1, sw_set2, List.set_cons_zero, List.set_cons_succ, List.getElem?_cons_zero, List.getElem?_cons_succ, ald_1, ald_2, ast_1, ast_2, aln_1, aln_2, gf_1, gf_2, pf_1, pf_2, nw_1, ck_0, ck_1, ck_2, ck_3, ck_4, rr_1, rc_1, rc_2, K_i, K_l, K_v, I_add, I_sub, I_mul, I_div, I_em, I_eq0, I_lt0, I_0lt, I_le0, I_0le, I_eq, I_lt, I_le, I_a1, I_r1, I_eq1, I32_at, I32_s, Int.toNat_natCast, List.set_cons_zero, reduceCtorEq, not_false_eq_true, not_true_eq_false, false_and, true_and, and_true, and_false, false_or, true_or, or_true, or_false, if_true, if_false, eq_self, ↓reduceIte, Int.reduceEq, Int.reduceLT, Int.reduceLE, Int.reduceAdd, Int.reduceSub, Int.reduceMul, Int.reduceNeg, Int.reduceToNat, Nat.reduceLT, Nat.reduceAdd, Nat.reduceEqDiff, List.length_cons, List.length_nil]
  rw [ml]
  simp (disch := omega) only [r147_15, sw_ldi, sw_ldl, sw_lda, sw_has1, sw_i1, sw_i2, sw_l1, sw_l2, sw_li, sw_r1, sw_ri, sw_rix, sw_rv, sw_pop, sw_set1, sw_set2, List.set_cons_zero, List.set_cons_succ, List.getElem?_cons_zero, List.getElem?_cons_succ, ald_1, ald_2, ast_1, ast_2, aln_1, aln_2, gf_1, gf_2, pf_1, pf_2, nw_1, ck_0, ck_1, ck_2, ck_3, ck_4, rr_1, rc_1, rc_2, K_i, K_l, K_v, I_add, I_sub, I_mul, I_div, I_em, I_eq0, I_lt0, I_0lt, I_le0, I_0le, I_eq, I_lt, I_le, I_a1, I_r1, I_eq1, I32_at, I32_s, Int.toNat_natCast, List.set_cons_zero, reduceCtorEq, not_false_eq_true, not_true_eq_false, false_and, true_and, and_true, and_false, false_or, true_or, or_true, or_false, if_true, if_false, eq_self, ↓reduceIte, Int.reduceEq, Int.reduceLT, Int.reduceLE, Int.reduceAdd, Int.reduceSub, Int.reduceMul, Int.reduceNeg, Int.reduceToNat, Nat.reduceLT, Nat.reduceAdd, Nat.reduceEqDiff, List.length_cons, List.length_nil]
  exact hq
end sw_tp
/-- the law's flood of one kind of content is what hangs of it -/
theorem Fl_HG {sh oil : Nat → Int} {iso : Int} {w : Nat} {set r : Int64} (hw : w < 2) (ew : dirOf w = hom iso) (hs : ∀ t, t < 64 → (hb set t = true ↔ (t < 36 ∧ sh t = 0 ∧ oil t = iso))) (f : Fl set (set &&& sdv w) r) : ∀ t, t < 64 → (hb r t = true ↔ (t < 36 ∧ oil t = iso ∧ HG sh oil t)) := by
  obtain ⟨f1, f2, f3⟩ := f
  have st1 : ∀ i, i < 64 → (hb (set &&& sdv w) i = true ↔ (i < 36 ∧ oil i = iso ∧ src sh oil i)) := fun i hi2 => by
    rw [hb_and, Bool.and_eq_true, hs i hi2, sdv_v (by omega) hi2, ew]
    unfold src
    constructor
    · rintro ⟨⟨a1, a2, a3⟩, a4, a5⟩
      exact ⟨a1, a3, a2, by rw [a3]; exact a5⟩
    · rintro ⟨a1, a2, a3, a4⟩
      exact ⟨⟨a1, a3, a2⟩, a1, by rw [a2] at a4; exact a4⟩
  intro t ht
  constructor
  · intro q
    refine f3 (fun i => i < 36 ∧ oil i = iso ∧ HG sh oil i) (fun i hi2 z => ?_) (fun s hs2 z ⟨u, hu, nb, p1, p2, p3⟩ => ?_) t ht q
    · obtain ⟨a1, a2, a3⟩ := (st1 i hi2).mp z
      exact ⟨a1, a2, HG_0 a1 a3⟩
    · obtain ⟨a1, a2, a3⟩ := (hs s (by omega)).mp z
      exact ⟨a1, a3, HG_s hu hs2 p3 (Nb_s hs2 nb) a2 (by rw [a3, p2])⟩
  · rintro ⟨h36, e, g⟩
    have := g (fun u => oil u = iso → u < 36 ∧ hb r u = true) (fun s hs2 z e2 => ⟨hs2, f1 s (by omega) ((st1 s (by omega)).mpr ⟨hs2, e2, z⟩)⟩) (fun s u hs2 hu p nb h0 eo e2 => ⟨hu, f2 u hu ((hs u (by omega)).mpr ⟨hu, h0, e2⟩) ⟨s, hs2, Nb_s hs2 nb, (p (by rw [← eo]; exact e2)).2⟩⟩) e
    exact this.2
theorem full_hi : ∀ i, i < 64 → 36 ≤ i → hb (Int64.ofInt 68719476735) i = false := by decide +kernel
