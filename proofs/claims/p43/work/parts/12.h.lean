/-! countRedBonds -/
def NS (ob : Nat → Int) (S : Nat → Prop) (to : Int) : Prop := ∀ t : Nat, t < 36 → f_os t to = 1 → ¬ Rc ob S t
theorem lst_NS {ob : Nat → Int} {S : Nat → Prop} {st : Nat → Int} {z to : Int} (b : BD ob S st z) : lst st to 36 = -1 ↔ NS ob S to := by
  have lv := lst_v (st := st) (to := to) 36 fun t h => (b.1 t h).1
  constructor
  · intro h t ht o q
    have := lv.1 h t ht o
    have := (BD_Rc b ht).mp q
    omega
  · intro h
    apply Classical.byContradiction
    intro c
    obtain ⟨⟨t, t1, t2, t3, t4⟩, -⟩ := lv.2 c
    exact h t t1 t2 ((BD_Rc b t1).mpr t4)
def Rd (ob : Nat → Int) (S : Nat → Prop) (b : Nat) : Prop := ¬ ob b = 0 ∧ NS (sw_s ob b 0) S 2
section sw_m16
variable {L : Nat} {A : Nat → Nat → Int} {F : Nat → Int} {T : Nat → sw_Ce} {X : Nat × Nat × Nat} {Q : sw_Ot → sw_HS → Prop}
theorem m126_l (hop : ∀ i, i < 36 → A 17 i = 0 ∨ A 17 i = 1) (hob : ∀ b, b < 60 → A 18 b = 0 ∨ A 18 b = 1) : ∀ (n i : Nat) (σ : sw_B3) (h : Int), i + n = 60 → ∃ (σ2 : sw_B3) (h2 : Int), sw_A 126 16 [some (.ref 16), some (.int (Int32.ofInt (cP (Rd (A 18) (Sd (A 17) 1)) i))), some (.int (Int32.ofInt i))] [] (hB L A F T X σ h) Q = Q (some (some (.int (Int32.ofInt (cP (Rd (A 18) (Sd (A 17) 1)) 60))))) (hB L A F T X σ2 h2)
  | 0, i, σ, h, hn => by
    have e : i = 60 := hn
    subst e
    refine ⟨σ, h, ?_⟩
    rw [r126_16]
    simp (disch := omega) only [r126_17, r126_19, r126_64, r126_65, sw_ldi, sw_ldl, sw_lda, sw_has1, sw_i1, sw_i2, sw_l1, sw_l2, sw_li, sw_r1, sw_ri, sw_rix, sw_rv, sw_pop, sw_set1, sw_set2, List.set_cons_zero, List.set_cons_succ, List.getElem?_cons_zero, List.getElem?_cons_succ, ald_1, ald_2, ast_1, ast_2, aln_1, aln_2, gf_1, gf_2, pf_1, pf_2, nw_1, ck_0, ck_1, ck_2, ck_3, ck_4, rr_1, rc_1, rc_2, K_i, K_l, K_v, I_add, I_sub, I_mul, I_div, I_em, I_eq0, I_lt0, I_0lt, I_le0, I_0le, I_eq, I_lt, I_le, I_a1, I_r1, I_eq1, I32_at, I32_s, Int.toNat_natCast, List.set_cons_zero, reduceCtorEq, not_false_eq_true, not_true_eq_false, false_and, true_and, and_true, and_false, false_or, true_or, or_true, or_false, if_true, if_false, eq_self, ↓reduceIte, Int.reduceEq, Int.reduceLT, Int.reduceLE, Int.reduceAdd, Int.reduceSub, Int.reduceMul, Int.reduceNeg, Int.reduceToNat, Nat.reduceLT, Nat.reduceAdd, Nat.reduceEqDiff, List.length_cons, List.length_nil, Int.le_refl]
    rfl
  | n + 1, i, σ, h, hn => by
    have hi : i < 60 := by omega
    have o := hob i hi
    have cb := cP_b (Rd (A 18) (Sd (A 17) 1)) i
    by_cases c : A 18 i = 0
    · obtain ⟨σ2, h2, g⟩ := m126_l hop hob n (i + 1) σ h (by omega)
      refine ⟨σ2, h2, Eq.trans ?_ g⟩
      have e : cP (Rd (A 18) (Sd (A 17) 1)) (i + 1) = cP (Rd (A 18) (Sd (A 17) 1)) i := by
        show _ + @ite Int _ (Classical.propDecidable _) 1 0 = _
        rw [if_neg (fun q => q.1 c)]; omega
      rw [e]
      unfold hB
      rw [r126_16]
      simp (disch := omega) only [r126_17, r126_19, r126_22, r126_23, r126_26, r126_27, r126_28, sw_ldi, sw_ldl, sw_lda, sw_has1, sw_i1, sw_i2, sw_l1, sw_l2, sw_li, sw_r1, sw_ri, sw_rix, sw_rv, sw_pop, sw_set1, sw_set2, List.set_cons_zero, List.set_cons_succ, List.getElem?_cons_zero, List.getElem?_cons_succ, ald_1, ald_2, ast_1, ast_2, aln_1, aln_2, gf_1, gf_2, pf_1, pf_2, nw_1, ck_0, ck_1, ck_2, ck_3, ck_4, rr_1, rc_1, rc_2, K_i, K_l, K_v, I_add, I_sub, I_mul, I_div, I_em, I_eq0, I_lt0, I_0lt, I_le0, I_0le, I_eq, I_lt, I_le, I_a1, I_r1, I_eq1, I32_at, I32_s, Int.toNat_natCast, List.set_cons_zero, reduceCtorEq, not_false_eq_true, not_true_eq_false, false_and, true_and, and_true, and_false, false_or, true_or, or_true, or_false, if_true, if_false, eq_self, ↓reduceIte, Int.reduceEq, Int.reduceLT, Int.reduceLE, Int.reduceAdd, Int.reduceSub, Int.reduceMul, Int.reduceNeg, Int.reduceToNat, Nat.reduceLT, Nat.reduceAdd, Nat.reduceEqDiff, List.length_cons, List.length_nil, sA_at, ss, sA_cm, h_16, h_18]
      rw [if_neg (by omega), if_pos c]
      simp (disch := omega) only [r126_58, r126_61, sw_ldi, sw_ldl, sw_lda, sw_has1, sw_i1, sw_i2, sw_l1, sw_l2, sw_li, sw_r1, sw_ri, sw_rix, sw_rv, sw_pop, sw_set1, sw_set2, List.set_cons_zero, List.set_cons_succ, List.getElem?_cons_zero, List.getElem?_cons_succ, ald_1, ald_2, ast_1, ast_2, aln_1, aln_2, gf_1, gf_2, pf_1, pf_2, nw_1, ck_0, ck_1, ck_2, ck_3, ck_4, rr_1, rc_1, rc_2, K_i, K_l, K_v, I_add, I_sub, I_mul, I_div, I_em, I_eq0, I_lt0, I_0lt, I_le0, I_0le, I_eq, I_lt, I_le, I_a1, I_r1, I_eq1, I32_at, I32_s, Int.toNat_natCast, List.set_cons_zero, reduceCtorEq, not_false_eq_true, not_true_eq_false, false_and, true_and, and_true, and_false, false_or, true_or, or_true, or_false, if_true, if_false, eq_self, ↓reduceIte, Int.reduceEq, Int.reduceLT, Int.reduceLE, Int.reduceAdd, Int.reduceSub, Int.reduceMul, Int.reduceNeg, Int.reduceToNat, Nat.reduceLT, Nat.reduceAdd, Nat.reduceEqDiff, List.length_cons, List.length_nil]
      rfl
    · have c1 : A 18 i = 1 := by omega
      have hob2 : ∀ b, b < 60 → sw_s (A 18) i 0 b = 0 ∨ sw_s (A 18) i 0 b = 1 := fun b hb2 => by
        unfold sw_s
        split
        · exact Or.inl rfl
        · exact hob b hb2
      obtain ⟨σ1, g1, g2⟩ := m91 (L := L) (A := sw_s (sw_s (sw_s A 18 (sw_s (A 18) i 0)) 19 σ.1) 21 σ.2.1) (F := sw_s (sw_s F 8 h) 9 σ.2.2) (T := T) (X := X) (Q := sw_K 126 44 none [some (.ref 16), some (.int (Int32.ofInt (cP (Rd (A 18) (Sd (A 17) 1)) i))), some (.int (Int32.ofInt i))] [] Q) (fr := 1) (to := 2) (by omega) (by omega) (by omega) (by omega) hop hob2
      have ln := lst_NS (to := 2) g1
      have lb := lst_b (st := σ1.1) (to := 2) 36 g1.1
      have e18 : sw_s (sw_s (A 18) i 0) i 1 = A 18 := by
        rw [ss]
        funext j
        unfold sw_s
        split
        · next e => rw [e, c1]
        · rfl
      obtain ⟨σ2, h2, g⟩ := m126_l hop hob n (i + 1) σ1 σ1.2.2 (by omega)
      refine ⟨σ2, h2, Eq.trans ?_ g⟩
      have fin : sw_h L (sw_s (sw_s (sw_s A 18 (A 18)) 19 σ1.1) 21 σ1.2.1) (sw_s (sw_s F 8 σ1.2.2) 9 σ1.2.2) T X = hB L A F T X σ1 σ1.2.2 := by
        unfold hB
        rw [sA_id]
      unfold hB at g2 ⊢
      rw [r126_16]
      simp (disch := omega) only [r126_17, r126_19, r126_22, r126_23, r126_26, r126_27, r126_28, sw_ldi, sw_ldl, sw_lda, sw_has1, sw_i1, sw_i2, sw_l1, sw_l2, sw_li, sw_r1, sw_ri, sw_rix, sw_rv, sw_pop, sw_set1, sw_set2, List.set_cons_zero, List.set_cons_succ, List.getElem?_cons_zero, List.getElem?_cons_succ, ald_1, ald_2, ast_1, ast_2, aln_1, aln_2, gf_1, gf_2, pf_1, pf_2, nw_1, ck_0, ck_1, ck_2, ck_3, ck_4, rr_1, rc_1, rc_2, K_i, K_l, K_v, I_add, I_sub, I_mul, I_div, I_em, I_eq0, I_lt0, I_0lt, I_le0, I_0le, I_eq, I_lt, I_le, I_a1, I_r1, I_eq1, I32_at, I32_s, Int.toNat_natCast, List.set_cons_zero, reduceCtorEq, not_false_eq_true, not_true_eq_false, false_and, true_and, and_true, and_false, false_or, true_or, or_true, or_false, if_true, if_false, eq_self, ↓reduceIte, Int.reduceEq, Int.reduceLT, Int.reduceLE, Int.reduceAdd, Int.reduceSub, Int.reduceMul, Int.reduceNeg, Int.reduceToNat, Nat.reduceLT, Nat.reduceAdd, Nat.reduceEqDiff, List.length_cons, List.length_nil, sA_at, ss, sA_cm, h_16, h_18]
      rw [if_neg (by omega), if_neg c]
      simp (disch := omega) only [r126_31, r126_32, r126_35, r126_36, r126_37, r126_38, r126_39, r126_40, r126_41, sw_ldi, sw_ldl, sw_lda, sw_has1, sw_i1, sw_i2, sw_l1, sw_l2, sw_li, sw_r1, sw_ri, sw_rix, sw_rv, sw_pop, sw_set1, sw_set2, List.set_cons_zero, List.set_cons_succ, List.getElem?_cons_zero, List.getElem?_cons_succ, ald_1, ald_2, ast_1, ast_2, aln_1, aln_2, gf_1, gf_2, pf_1, pf_2, nw_1, ck_0, ck_1, ck_2, ck_3, ck_4, rr_1, rc_1, rc_2, K_i, K_l, K_v, I_add, I_sub, I_mul, I_div, I_em, I_eq0, I_lt0, I_0lt, I_le0, I_0le, I_eq, I_lt, I_le, I_a1, I_r1, I_eq1, I32_at, I32_s, Int.toNat_natCast, List.set_cons_zero, reduceCtorEq, not_false_eq_true, not_true_eq_false, false_and, true_and, and_true, and_false, false_or, true_or, or_true, or_false, if_true, if_false, eq_self, ↓reduceIte, Int.reduceEq, Int.reduceLT, Int.reduceLE, Int.reduceAdd, Int.reduceSub, Int.reduceMul, Int.reduceNeg, Int.reduceToNat, Nat.reduceLT, Nat.reduceAdd, Nat.reduceEqDiff, List.length_cons, List.length_nil, sA_at, ss, sA_cm, h_16, h_18, w_18]
      rw [g2]
      generalize lst σ1.1 2 36 = w at *
      by_cases cw : w = -1
      · have e : cP (Rd (A 18) (Sd (A 17) 1)) (i + 1) = cP (Rd (A 18) (Sd (A 17) 1)) i + 1 := by
          show _ + @ite Int _ (Classical.propDecidable _) 1 0 = _
          rw [if_pos ⟨c, ln.mp cw⟩]
        rw [e]
        simp (disch := omega) only [r126_44, r126_45, sw_ldi, sw_ldl, sw_lda, sw_has1, sw_i1, sw_i2, sw_l1, sw_l2, sw_li, sw_r1, sw_ri, sw_rix, sw_rv, sw_pop, sw_set1, sw_set2, List.set_cons_zero, List.set_cons_succ, List.getElem?_cons_zero, List.getElem?_cons_succ, ald_1, ald_2, ast_1, ast_2, aln_1, aln_2, gf_1, gf_2, pf_1, pf_2, nw_1, ck_0, ck_1, ck_2, ck_3, ck_4, rr_1, rc_1, rc_2, K_i, K_l, K_v, I_add, I_sub, I_mul, I_div, I_em, I_eq0, I_lt0, I_0lt, I_le0, I_0le, I_eq, I_lt, I_le, I_a1, I_r1, I_eq1, I32_at, I32_s, Int.toNat_natCast, List.set_cons_zero, reduceCtorEq, not_false_eq_true, not_true_eq_false, false_and, true_and, and_true, and_false, false_or, true_or, or_true, or_false, if_true, if_false, eq_self, ↓reduceIte, Int.reduceEq, Int.reduceLT, Int.reduceLE, Int.reduceAdd, Int.reduceSub, Int.reduceMul, Int.reduceNeg, Int.reduceToNat, Nat.reduceLT, Nat.reduceAdd, Nat.reduceEqDiff, List.length_cons, List.length_nil, cw]
        simp (disch := omega) only [r126_48, r126_51, r126_52, r126_55, r126_56, r126_57, r126_58, r126_61, sw_ldi, sw_ldl, sw_lda, sw_has1, sw_i1, sw_i2, sw_l1, sw_l2, sw_li, sw_r1, sw_ri, sw_rix, sw_rv, sw_pop, sw_set1, sw_set2, List.set_cons_zero, List.set_cons_succ, List.getElem?_cons_zero, List.getElem?_cons_succ, ald_1, ald_2, ast_1, ast_2, aln_1, aln_2, gf_1, gf_2, pf_1, pf_2, nw_1, ck_0, ck_1, ck_2, ck_3, ck_4, rr_1, rc_1, rc_2, K_i, K_l, K_v, I_add, I_sub, I_mul, I_div, I_em, I_eq0, I_lt0, I_0lt, I_le0, I_0le, I_eq, I_lt, I_le, I_a1, I_r1, I_eq1, I32_at, I32_s, Int.toNat_natCast, List.set_cons_zero, reduceCtorEq, not_false_eq_true, not_true_eq_false, false_and, true_and, and_true, and_false, false_or, true_or, or_true, or_false, if_true, if_false, eq_self, ↓reduceIte, Int.reduceEq, Int.reduceLT, Int.reduceLE, Int.reduceAdd, Int.reduceSub, Int.reduceMul, Int.reduceNeg, Int.reduceToNat, Nat.reduceLT, Nat.reduceAdd, Nat.reduceEqDiff, List.length_cons, List.length_nil, sA_at, ss, sA_cm, h_16, h_18, w_18, e18]
        rw [fin]
        rfl
      · have e : cP (Rd (A 18) (Sd (A 17) 1)) (i + 1) = cP (Rd (A 18) (Sd (A 17) 1)) i := by
          show _ + @ite Int _ (Classical.propDecidable _) 1 0 = _
          rw [if_neg (fun q => cw (ln.mpr q.2))]; omega
        rw [e]
        simp (disch := omega) only [r126_44, r126_45, sw_ldi, sw_ldl, sw_lda, sw_has1, sw_i1, sw_i2, sw_l1, sw_l2, sw_li, sw_r1, sw_ri, sw_rix, sw_rv, sw_pop, sw_set1, sw_set2, List.set_cons_zero, List.set_cons_succ, List.getElem?_cons_zero, List.getElem?_cons_succ, ald_1, ald_2, ast_1, ast_2, aln_1, aln_2, gf_1, gf_2, pf_1, pf_2, nw_1, ck_0, ck_1, ck_2, ck_3, ck_4, rr_1, rc_1, rc_2, K_i, K_l, K_v, I_add, I_sub, I_mul, I_div, I_em, I_eq0, I_lt0, I_0lt, I_le0, I_0le, I_eq, I_lt, I_le, I_a1, I_r1, I_eq1, I32_at, I32_s, Int.toNat_natCast, List.set_cons_zero, reduceCtorEq, not_false_eq_true, not_true_eq_false, false_and, true_and, and_true, and_false, false_or, true_or, or_true, or_false, if_true, if_false, eq_self, ↓reduceIte, Int.reduceEq, Int.reduceLT, Int.reduceLE, Int.reduceAdd, Int.reduceSub, Int.reduceMul, Int.reduceNeg, Int.reduceToNat, Nat.reduceLT, Nat.reduceAdd, Nat.reduceEqDiff, List.length_cons, List.length_nil]
        rw [if_pos cw]
        simp (disch := omega) only [r126_51, r126_52, r126_55, r126_56, r126_57, r126_58, r126_61, sw_ldi, sw_ldl, sw_lda, sw_has1, sw_i1, sw_i2, sw_l1, sw_l2, sw_li, sw_r1, sw_ri, sw_rix, sw_rv, sw_pop, sw_set1, sw_set2, List.set_cons_zero, List.set_cons_succ, List.getElem?_cons_zero, List.getElem?_cons_succ, ald_1, ald_2, ast_1, ast_2, aln_1, aln_2, gf_1, gf_2, pf_1, pf_2, nw_1, ck_0, ck_1, ck_2, ck_3, ck_4, rr_1, rc_1, rc_2, K_i, K_l, K_v, I_add, I_sub, I_mul, I_div, I_em, I_eq0, I_lt0, I_0lt, I_le0, I_0le, I_eq, I_lt, I_le, I_a1, I_r1, I_eq1, I32_at, I32_s, Int.toNat_natCast, List.set_cons_zero, reduceCtorEq, not_false_eq_true, not_true_eq_false, false_and, true_and, and_true, and_false, false_or, true_or, or_true, or_false, if_true, if_false, eq_self, ↓reduceIte, Int.reduceEq, Int.reduceLT, Int.reduceLE, Int.reduceAdd, Int.reduceSub, Int.reduceMul, Int.reduceNeg, Int.reduceToNat, Nat.reduceLT, Nat.reduceAdd, Nat.reduceEqDiff, List.length_cons, List.length_nil, sA_at, ss, sA_cm, h_16, h_18, w_18, e18]
        rw [fin]
        rfl
end sw_m16
