/-! red -/
theorem NS_c {ob ob2 : Nat → Int} {S S2 : Nat → Prop} {to : Int} (h : ∀ b, b < 60 → ob b = ob2 b) (hS : ∀ t, t < 36 → (S t ↔ S2 t)) : NS ob S to ↔ NS ob2 S2 to := by
  have e : ∀ t, Rc ob S t ↔ Rc ob2 S2 t := fun t =>
    ⟨fun q => Rc_in (P := fun t => Rc ob2 S2 t) (fun u hu z => Rc_0 hu ((hS u hu).mp z)) (fun u v hu hv z he => Rc_s hv z (Ed_c h hu he)) q,
     fun q => Rc_in (P := fun t => Rc ob S t) (fun u hu z => Rc_0 hu ((hS u hu).mpr z)) (fun u v hu hv z he => Rc_s hv z (Ed_c (fun b hb2 => (h b hb2).symm) hu he)) q⟩
  unfold NS
  constructor
  · intro q t ht o z; exact q t ht o ((e t).mpr z)
  · intro q t ht o z; exact q t ht o ((e t).mp z)
theorem cP_cn {P R : Nat → Prop} : ∀ n, (∀ t, t < n → (P t ↔ R t)) → cP P n = cP R n
  | 0, _ => rfl
  | n + 1, h => by
    have hn := h n (by omega)
    unfold cP
    rw [cP_cn n fun t ht => h t (by omega)]
    by_cases c : P n
    · rw [if_pos c, if_pos (hn.mp c)]
    · rw [if_neg c, if_neg (fun q => c (hn.mpr q))]
theorem Rd_c {ob ob2 : Nat → Int} {S S2 : Nat → Prop} (h : ∀ b, b < 60 → ob b = ob2 b) (hS : ∀ t, t < 36 → (S t ↔ S2 t)) {b : Nat} (hb2 : b < 60) : Rd ob S b ↔ Rd ob2 S2 b := by
  unfold Rd
  rw [h b hb2, NS_c (ob := sw_s ob b 0) (ob2 := sw_s ob2 b 0) (fun c hc => by unfold sw_s; split; rfl; exact h c hc) hS]
/-- how many bonds are red -/
noncomputable def rdv (ob op : Nat → Int) : Int := @ite Int (NS ob (Sd op 1) 2) (Classical.propDecidable _) 0 (cP (Rd ob (Sd op 1)) 60)
section sw_m17
variable {L : Nat} {A : Nat → Nat → Int} {F : Nat → Int} {T : Nat → sw_Ce} {X : Nat × Nat × Nat} {Q : sw_Ot → sw_HS → Prop}
/-- countRedBonds -/
theorem m126 (hop : ∀ i, i < 36 → A 17 i = 0 ∨ A 17 i = 1) (hob : ∀ b, b < 60 → A 18 b = 0 ∨ A 18 b = 1) : ∃ (σ2 : sw_B3) (h2 : Int), sw_M 126 [.ref 16] (sw_h L A F T X) Q = Q (some (some (.int (Int32.ofInt (rdv (A 18) (A 17)))))) (hB L A F T X σ2 h2) := by
  obtain ⟨σ1, g1, g2⟩ := m91 (L := L) (A := A) (F := F) (T := T) (X := X) (Q := sw_K 126 6 none [some (.ref 16), none, none] [] Q) (fr := 1) (to := 2) (by omega) (by omega) (by omega) (by omega) hop hob
  have ln := lst_NS (to := 2) g1
  have lb := lst_b (st := σ1.1) (to := 2) 36 g1.1
  generalize lst σ1.1 2 36 = w at *
  by_cases c : w = -1
  · refine ⟨σ1, σ1.2.2, ?_⟩
    have e : rdv (A 18) (A 17) = 0 := if_pos (ln.mp c)
    rw [e, e126]
    simp (disch := omega) only [r126_0, r126_1, r126_2, r126_3, sw_ldi, sw_ldl, sw_lda, sw_has1, sw_i1, sw_i2, sw_l1, sw_l2, sw_li, sw_r1, sw_ri, sw_rix, sw_rv, sw_pop, sw_set1, sw_set2, List.set_cons_zero, List.set_cons_succ, List.getElem?_cons_zero, List.getElem?_cons_succ, ald_1, ald_2, ast_1, ast_2, aln_1, aln_2, gf_1, gf_2, pf_1, pf_2, nw_1, ck_0, ck_1, ck_2, ck_3, ck_4, rr_1, rc_1, rc_2, K_i, K_l, K_v, I_add, I_sub, I_mul, I_div, I_em, I_eq0, I_lt0, I_0lt, I_le0, I_0le, I_eq, I_lt, I_le, I_a1, I_r1, I_eq1, I32_at, I32_s, Int.toNat_natCast, List.set_cons_zero, reduceCtorEq, not_false_eq_true, not_true_eq_false, false_and, true_and, and_true, and_false, false_or, true_or, or_true, or_false, if_true, if_false, eq_self, ↓reduceIte, Int.reduceEq, Int.reduceLT, Int.reduceLE, Int.reduceAdd, Int.reduceSub, Int.reduceMul, Int.reduceNeg, Int.reduceToNat, Nat.reduceLT, Nat.reduceAdd, Nat.reduceEqDiff, List.length_cons, List.length_nil, h_16]
    rw [g2]
    simp (disch := omega) only [r126_6, r126_7, r126_10, r126_11, sw_ldi, sw_ldl, sw_lda, sw_has1, sw_i1, sw_i2, sw_l1, sw_l2, sw_li, sw_r1, sw_ri, sw_rix, sw_rv, sw_pop, sw_set1, sw_set2, List.set_cons_zero, List.set_cons_succ, List.getElem?_cons_zero, List.getElem?_cons_succ, ald_1, ald_2, ast_1, ast_2, aln_1, aln_2, gf_1, gf_2, pf_1, pf_2, nw_1, ck_0, ck_1, ck_2, ck_3, ck_4, rr_1, rc_1, rc_2, K_i, K_l, K_v, I_add, I_sub, I_mul, I_div, I_em, I_eq0, I_lt0, I_0lt, I_le0, I_0le, I_eq, I_lt, I_le, I_a1, I_r1, I_eq1, I32_at, I32_s, Int.toNat_natCast, List.set_cons_zero, reduceCtorEq, not_false_eq_true, not_true_eq_false, false_and, true_and, and_true, and_false, false_or, true_or, or_true, or_false, if_true, if_false, eq_self, ↓reduceIte, Int.reduceEq, Int.reduceLT, Int.reduceLE, Int.reduceAdd, Int.reduceSub, Int.reduceMul, Int.reduceNeg, Int.reduceToNat, Nat.reduceLT, Nat.reduceAdd, Nat.reduceEqDiff, List.length_cons, List.length_nil, c]
  · obtain ⟨σ2, h2, g⟩ := m126_l (L := L) (A := A) (F := F) (T := T) (X := X) (Q := Q) hop hob 60 0 σ1 σ1.2.2 (by omega)
    refine ⟨σ2, h2, ?_⟩
    have e : rdv (A 18) (A 17) = cP (Rd (A 18) (Sd (A 17) 1)) 60 := if_neg (fun q => c (ln.mpr q))
    rw [e, e126]
    simp (disch := omega) only [r126_0, r126_1, r126_2, r126_3, sw_ldi, sw_ldl, sw_lda, sw_has1, sw_i1, sw_i2, sw_l1, sw_l2, sw_li, sw_r1, sw_ri, sw_rix, sw_rv, sw_pop, sw_set1, sw_set2, List.set_cons_zero, List.set_cons_succ, List.getElem?_cons_zero, List.getElem?_cons_succ, ald_1, ald_2, ast_1, ast_2, aln_1, aln_2, gf_1, gf_2, pf_1, pf_2, nw_1, ck_0, ck_1, ck_2, ck_3, ck_4, rr_1, rc_1, rc_2, K_i, K_l, K_v, I_add, I_sub, I_mul, I_div, I_em, I_eq0, I_lt0, I_0lt, I_le0, I_0le, I_eq, I_lt, I_le, I_a1, I_r1, I_eq1, I32_at, I32_s, Int.toNat_natCast, List.set_cons_zero, reduceCtorEq, not_false_eq_true, not_true_eq_false, false_and, true_and, and_true, and_false, false_or, true_or, or_true, or_false, if_true, if_false, eq_self, ↓reduceIte, Int.reduceEq, Int.reduceLT, Int.reduceLE, Int.reduceAdd, Int.reduceSub, Int.reduceMul, Int.reduceNeg, Int.reduceToNat, Nat.reduceLT, Nat.reduceAdd, Nat.reduceEqDiff, List.length_cons, List.length_nil, h_16]
    rw [g2]
    simp (disch := omega) only [r126_6, r126_7, sw_ldi, sw_ldl, sw_lda, sw_has1, sw_i1, sw_i2, sw_l1, sw_l2, sw_li, sw_r1, sw_ri, sw_rix, sw_rv, sw_pop, sw_set1, sw_set2, List.set_cons_zero, List.set_cons_succ, List.getElem?_cons_zero, List.getElem?_cons_succ, ald_1, ald_2, ast_1, ast_2, aln_1, aln_2, gf_1, gf_2, pf_1, pf_2, nw_1, ck_0, ck_1, ck_2, ck_3, ck_4, rr_1, rc_1, rc_2, K_i, K_l, K_v, I_add, I_sub, I_mul, I_div, I_em, I_eq0, I_lt0, I_0lt, I_le0, I_0le, I_eq, I_lt, I_le, I_a1, I_r1, I_eq1, I32_at, I32_s, Int.toNat_natCast, List.set_cons_zero, reduceCtorEq, not_false_eq_true, not_true_eq_false, false_and, true_and, and_true, and_false, false_or, true_or, or_true, or_false, if_true, if_false, eq_self, ↓reduceIte, Int.reduceEq, Int.reduceLT, Int.reduceLE, Int.reduceAdd, Int.reduceSub, Int.reduceMul, Int.reduceNeg, Int.reduceToNat, Nat.reduceLT, Nat.reduceAdd, Nat.reduceEqDiff, List.length_cons, List.length_nil]
    rw [if_pos c]
    simp (disch := omega) only [r126_12, r126_13, r126_14, r126_15, sw_ldi, sw_ldl, sw_lda, sw_has1, sw_i1, sw_i2, sw_l1, sw_l2, sw_li, sw_r1, sw_ri, sw_rix, sw_rv, sw_pop, sw_set1, sw_set2, List.set_cons_zero, List.set_cons_succ, List.getElem?_cons_zero, List.getElem?_cons_succ, ald_1, ald_2, ast_1, ast_2, aln_1, aln_2, gf_1, gf_2, pf_1, pf_2, nw_1, ck_0, ck_1, ck_2, ck_3, ck_4, rr_1, rc_1, rc_2, K_i, K_l, K_v, I_add, I_sub, I_mul, I_div, I_em, I_eq0, I_lt0, I_0lt, I_le0, I_0le, I_eq, I_lt, I_le, I_a1, I_r1, I_eq1, I32_at, I32_s, Int.toNat_natCast, List.set_cons_zero, reduceCtorEq, not_false_eq_true, not_true_eq_false, false_and, true_and, and_true, and_false, false_or, true_or, or_true, or_false, if_true, if_false, eq_self, ↓reduceIte, Int.reduceEq, Int.reduceLT, Int.reduceLE, Int.reduceAdd, Int.reduceSub, Int.reduceMul, Int.reduceNeg, Int.reduceToNat, Nat.reduceLT, Nat.reduceAdd, Nat.reduceEqDiff, List.length_cons, List.length_nil]
    exact g
/-- red -/
theorem m127 {k p : Int} (hA : Nm A) (k0 : 0 ≤ k) (k1 : k ≤ 2) (p0 : 0 ≤ p) (p1 : p ≤ 1000)
    (hQ : ∀ (B : Nat → Nat → Int) (G : Nat → Int), Fm A B → (∀ j, j < 8 → G j = F j) → (∀ j, 9 < j → G j = F j) → Q (some (some (.int (Int32.ofInt (rdv (ob2 A k p) (os2 A k p)))))) (sw_h L B G T X)) :
    sw_M 127 [.ref 1, .int (Int32.ofInt k), .int (Int32.ofInt p)] (sw_h L A F T X) Q := by
  obtain ⟨σ2, h2, g⟩ := m126 (L := L) (A := hO A k p) (F := F) (T := T) (X := X) (Q := sw_K 127 13 none [some (.ref 1), some (.int (Int32.ofInt k)), some (.int (Int32.ofInt p))] [] Q) hO_op hO_ob
  have hS : ∀ t, t < 36 → (Sd (hO A k p 17) 1 t ↔ Sd (os2 A k p) 1 t) := fun t ht => by unfold Sd; rw [hO_17 ht]
  have e : rdv (hO A k p 18) (hO A k p 17) = rdv (ob2 A k p) (os2 A k p) := by
    have n := NS_c (to := 2) (fun b hb2 => hO_18 (A := A) (k := k) (p := p) hb2) hS
    have r := cP_cn 60 fun b hb2 => Rd_c (fun c hc => hO_18 (A := A) (k := k) (p := p) hc) hS hb2
    unfold rdv
    rw [r]
    by_cases c : NS (hO A k p 18) (Sd (hO A k p 17) 1) 2
    · rw [if_pos c, if_pos (n.mp c)]
    · rw [if_neg c, if_neg (fun q => c (n.mpr q))]
  rw [e] at g
  have hq := hQ (sw_s (sw_s (hO A k p) 19 σ2.1) 21 σ2.2.1) (sw_s (sw_s F 8 h2) 9 σ2.2.2) (Fm_t Fm_O (Fm_2 rfl rfl)) (fun j hj => by unfold sw_s; rw [if_neg (by omega), if_neg (by omega)]) (fun j hj => by unfold sw_s; rw [if_neg (by omega), if_neg (by omega)])
  rw [e127]
  simp (disch := omega) only [r127_0, r127_1, r127_2, r127_3, sw_ldi, sw_ldl, sw_lda, sw_has1, sw_i1, sw_i2, sw_l1, sw_l2, sw_li, sw_r1, sw_ri, sw_rix, sw_rv, sw_pop, sw_set1, sw_set2, List.set_cons_zero, List.set_cons_succ, List.getElem?_cons_zero, List.getElem?_cons_succ, ald_1, ald_2, ast_1, ast_2, aln_1, aln_2, gf_1, gf_2, pf_1, pf_2, nw_1, ck_0, ck_1, ck_2, ck_3, ck_4, rr_1, rc_1, rc_2, K_i, K_l, K_v, I_add, I_sub, I_mul, I_div, I_em, I_eq0, I_lt0, I_0lt, I_le0, I_0le, I_eq, I_lt, I_le, I_a1, I_r1, I_eq1, I32_at, I32_s, Int.toNat_natCast, List.set_cons_zero, reduceCtorEq, not_false_eq_true, not_true_eq_false, false_and, true_and, and_true, and_false, false_or, true_or, or_true, or_false, if_true, if_false, eq_self, ↓reduceIte, Int.reduceEq, Int.reduceLT, Int.reduceLE, Int.reduceAdd, Int.reduceSub, Int.reduceMul, Int.reduceNeg, Int.reduceToNat, Nat.reduceLT, Nat.reduceAdd, Nat.reduceEqDiff, List.length_cons, List.length_nil, h_1]
  rw [m95 hA k0 k1 p0 p1]
  simp (disch := omega) only [r127_6, r127_7, r127_10, sw_ldi, sw_ldl, sw_lda, sw_has1, sw_i1, sw_i2, sw_l1, sw_l2, sw_li, sw_r1, sw_ri, sw_rix, sw_rv, sw_pop, sw_set1, sw_set2, List.set_cons_zero, List.set_cons_succ, List.getElem?_cons_zero, List.getElem?_cons_succ, ald_1, ald_2, ast_1, ast_2, aln_1, aln_2, gf_1, gf_2, pf_1, pf_2, nw_1, ck_0, ck_1, ck_2, ck_3, ck_4, rr_1, rc_1, rc_2, K_i, K_l, K_v, I_add, I_sub, I_mul, I_div, I_em, I_eq0, I_lt0, I_0lt, I_le0, I_0le, I_eq, I_lt, I_le, I_a1, I_r1, I_eq1, I32_at, I32_s, Int.toNat_natCast, List.set_cons_zero, reduceCtorEq, not_false_eq_true, not_true_eq_false, false_and, true_and, and_true, and_false, false_or, true_or, or_true, or_false, if_true, if_false, eq_self, ↓reduceIte, Int.reduceEq, Int.reduceLT, Int.reduceLE, Int.reduceAdd, Int.reduceSub, Int.reduceMul, Int.reduceNeg, Int.reduceToNat, Nat.reduceLT, Nat.reduceAdd, Nat.reduceEqDiff, List.length_cons, List.length_nil, h_1, h_16]
  rw [g]
  simp (disch := omega) only [r127_13, sw_ldi, sw_ldl, sw_lda, sw_has1, sw_i1, sw_i2, sw_l1, sw_l2, sw_li, sw_r1, sw_ri, sw_rix, sw_rv, sw_pop, sw_set1, sw_set2, List.set_cons_zero, List.set_cons_succ, List.getElem?_cons_zero, List.getElem?_cons_succ, ald_1, ald_2, ast_1, ast_2, aln_1, aln_2, gf_1, gf_2, pf_1, pf_2, nw_1, ck_0, ck_1, ck_2, ck_3, ck_4, rr_1, rc_1, rc_2, K_i, K_l, K_v, I_add, I_sub, I_mul, I_div, I_em, I_eq0, I_lt0, I_0lt, I_le0, I_0le, I_eq, I_lt, I_le, I_a1, I_r1, I_eq1, I32_at, I32_s, Int.toNat_natCast, List.set_cons_zero, reduceCtorEq, not_false_eq_true, not_true_eq_false, false_and, true_and, and_true, and_false, false_or, true_or, or_true, or_false, if_true, if_false, eq_self, ↓reduceIte, Int.reduceEq, Int.reduceLT, Int.reduceLE, Int.reduceAdd, Int.reduceSub, Int.reduceMul, Int.reduceNeg, Int.reduceToNat, Nat.reduceLT, Nat.reduceAdd, Nat.reduceEqDiff, List.length_cons, List.length_nil]
  exact hq
end sw_m17
