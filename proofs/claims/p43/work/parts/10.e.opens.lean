def f_op (sh nv k p : Int) : Int := if sh = 0 ∧ (k = 0 ∨ nv < p) then 1 else 0
def f_ob (x y nv k p : Int) : Int := if x = 1 ∧ y = 1 ∧ (k = 1 ∨ nv < p) then 1 else 0
theorem f_op_b (sh nv k p : Int) : f_op sh nv k p = 0 ∨ f_op sh nv k p = 1 := by unfold f_op; split <;> omega
theorem f_ob_b (x y nv k p : Int) : f_ob x y nv k p = 0 ∨ f_ob x y nv k p = 1 := by unfold f_ob; split <;> omega
section sw_m5
variable {L : Nat} {A : Nat → Nat → Int} {F : Nat → Int} {T : Nat → sw_Ce} {X : Nat × Nat × Nat} {Q : sw_Ot → sw_HS → Prop}
def os2 (A : Nat → Nat → Int) (k p : Int) : Nat → Int := fun i => f_op (A 9 i) (A 4 i) k p
def ob2 (A : Nat → Nat → Int) (k p : Int) : Nat → Int := fun b => f_ob (os2 A k p (f_lo b).toNat) (os2 A k p (f_hi b).toNat) (A 3 b) k p
theorem m87_2_a {k p : Int} (hs : ∀ i, i < 36 → A 9 i = 0 ∨ A 9 i = 1) (hn : ∀ i, i < 36 → 0 ≤ A 4 i ∧ A 4 i < 1000) (k0 : 0 ≤ k) (k1 : k ≤ 2) (p0 : 0 ≤ p) (p1 : p ≤ 1000) : ∀ (d i : Nat) (x : Option Value), i + d = 36 → sw_A 87 3 [some (.ref 16), some (.ref 2), some (.ref 9), some (.int (Int32.ofInt k)), some (.int (Int32.ofInt p)), some (.int (Int32.ofInt i)), x] [] (sw_h L (sw_s A 17 (mix i (os2 A k p) (A 17))) F T X) Q = sw_A 87 51 [some (.ref 16), some (.ref 2), some (.ref 9), some (.int (Int32.ofInt k)), some (.int (Int32.ofInt p)), some (.int (Int32.ofInt 36)), x] [] (sw_h L (sw_s A 17 (mix 36 (os2 A k p) (A 17))) F T X) Q
  | 0, i, x, hd => by
    have e : i = 36 := hd
    subst e
    rw [r87_3]
    simp (disch := omega) only [r87_5, r87_7, sw_ldi, sw_ldl, sw_lda, sw_has1, sw_i1, sw_i2, sw_l1, sw_l2, sw_li, sw_r1, sw_ri, sw_rix, sw_rv, sw_pop, sw_set1, sw_set2, List.set_cons_zero, List.set_cons_succ, List.getElem?_cons_zero, List.getElem?_cons_succ, ald_1, ald_2, ast_1, ast_2, aln_1, aln_2, gf_1, gf_2, pf_1, pf_2, nw_1, ck_0, ck_1, ck_2, ck_3, ck_4, rr_1, rc_1, rc_2, K_i, K_l, K_v, I_add, I_sub, I_mul, I_div, I_em, I_eq0, I_lt0, I_0lt, I_le0, I_0le, I_eq, I_lt, I_le, I_a1, I_r1, I_eq1, I32_at, I32_s, Int.toNat_natCast, List.set_cons_zero, reduceCtorEq, not_false_eq_true, not_true_eq_false, false_and, true_and, and_true, and_false, false_or, true_or, or_true, or_false, if_true, if_false, eq_self, ↓reduceIte, Int.reduceEq, Int.reduceLT, Int.reduceLE, Int.reduceAdd, Int.reduceSub, Int.reduceMul, Int.reduceNeg, Int.reduceToNat, Nat.reduceLT, Nat.reduceAdd, Nat.reduceEqDiff, List.length_cons, List.length_nil]
    rfl
  | d + 1, i, x, hd => by
    have h1 := hs i (by omega)
    have h2 := hn i (by omega)
    have ih := m87_2_a hs hn k0 k1 p0 p1 d (i + 1) x (by omega)
    have hu : ∀ v, f_op (A 9 i) (A 4 i) k p = v → sw_s (mix i (os2 A k p) (A 17)) i v = mix (i + 1) (os2 A k p) (A 17) := fun v hv => mix_up hv
    rw [r87_3]
    simp (disch := omega) only [r87_5, r87_7, r87_10, r87_11, r87_14, r87_16, r87_17, r87_19, r87_20, r87_23, r87_24, r87_27, r87_28, r87_31, r87_33, r87_34, r87_36, r87_39, r87_40, r87_43, r87_44, r87_45, r87_48, sw_ldi, sw_ldl, sw_lda, sw_has1, sw_i1, sw_i2, sw_l1, sw_l2, sw_li, sw_r1, sw_ri, sw_rix, sw_rv, sw_pop, sw_set1, sw_set2, List.set_cons_zero, List.set_cons_succ, List.getElem?_cons_zero, List.getElem?_cons_succ, ald_1, ald_2, ast_1, ast_2, aln_1, aln_2, gf_1, gf_2, pf_1, pf_2, nw_1, ck_0, ck_1, ck_2, ck_3, ck_4, rr_1, rc_1, rc_2, K_i, K_l, K_v, I_add, I_sub, I_mul, I_div, I_em, I_eq0, I_lt0, I_0lt, I_le0, I_0le, I_eq, I_lt, I_le, I_a1, I_r1, I_eq1, I32_at, I32_s, Int.toNat_natCast, List.set_cons_zero, reduceCtorEq, not_false_eq_true, not_true_eq_false, false_and, true_and, and_true, and_false, false_or, true_or, or_true, or_false, if_true, if_false, eq_self, ↓reduceIte, Int.reduceEq, Int.reduceLT, Int.reduceLE, Int.reduceAdd, Int.reduceSub, Int.reduceMul, Int.reduceNeg, Int.reduceToNat, Nat.reduceLT, Nat.reduceAdd, Nat.reduceEqDiff, List.length_cons, List.length_nil, sA_at, ss, h_9, h_16, h_2, h_17, h_4, w_17]
    (repeat' split) <;> (first | (exfalso; omega) | (rw [hu 1 (if_pos (by omega))]; exact ih) | (rw [hu 0 (if_neg (by omega))]; exact ih))
theorem m87_2_b {B : Nat → Nat → Int} {k p : Int} (hf : ∀ i, i < 36 → B 17 i = os2 A k p i) (hn : ∀ i, i < 60 → 0 ≤ A 3 i ∧ A 3 i < 1000) (hB : B 3 = A 3) (k0 : 0 ≤ k) (k1 : k ≤ 2) (p0 : 0 ≤ p) (p1 : p ≤ 1000) : ∀ (d i : Nat) (x : Option Value), i + d = 60 → sw_A 87 54 [some (.ref 16), some (.ref 2), some (.ref 9), some (.int (Int32.ofInt k)), some (.int (Int32.ofInt p)), some (.int (Int32.ofInt i)), x] [] (sw_h L (sw_s B 18 (mix i (ob2 A k p) (B 18))) F T X) Q = Q (some none) (sw_h L (sw_s B 18 (mix 60 (ob2 A k p) (B 18))) F T X)
  | 0, i, x, hd => by
    have e : i = 60 := hd
    subst e
    rw [r87_54]
    simp (disch := omega) only [r87_56, r87_58, r87_134, sw_ldi, sw_ldl, sw_lda, sw_has1, sw_i1, sw_i2, sw_l1, sw_l2, sw_li, sw_r1, sw_ri, sw_rix, sw_rv, sw_pop, sw_set1, sw_set2, List.set_cons_zero, List.set_cons_succ, List.getElem?_cons_zero, List.getElem?_cons_succ, ald_1, ald_2, ast_1, ast_2, aln_1, aln_2, gf_1, gf_2, pf_1, pf_2, nw_1, ck_0, ck_1, ck_2, ck_3, ck_4, rr_1, rc_1, rc_2, K_i, K_l, K_v, I_add, I_sub, I_mul, I_div, I_em, I_eq0, I_lt0, I_0lt, I_le0, I_0le, I_eq, I_lt, I_le, I_a1, I_r1, I_eq1, I32_at, I32_s, Int.toNat_natCast, List.set_cons_zero, reduceCtorEq, not_false_eq_true, not_true_eq_false, false_and, true_and, and_true, and_false, false_or, true_or, or_true, or_false, if_true, if_false, eq_self, ↓reduceIte, Int.reduceEq, Int.reduceLT, Int.reduceLE, Int.reduceAdd, Int.reduceSub, Int.reduceMul, Int.reduceNeg, Int.reduceToNat, Nat.reduceLT, Nat.reduceAdd, Nat.reduceEqDiff, List.length_cons, List.length_nil]
    rfl
  | d + 1, i, x, hd => by
    have g1 := f_lo_b (b := i) (by omega) (by omega)
    have g2 := f_hi_b (b := i) (by omega) (by omega)
    have h1 := hf (f_lo i).toNat (by omega)
    have h3 := hf (f_hi i).toNat (by omega)
    have h2 := hn i (by omega)
    have b1 : os2 A k p (f_lo i).toNat = 0 ∨ os2 A k p (f_lo i).toNat = 1 := f_op_b _ _ _ _
    have b2 : os2 A k p (f_hi i).toNat = 0 ∨ os2 A k p (f_hi i).toNat = 1 := f_op_b _ _ _ _
    have hu : ∀ v, f_ob (os2 A k p (f_lo i).toNat) (os2 A k p (f_hi i).toNat) (A 3 i) k p = v → sw_s (mix i (ob2 A k p) (B 18)) i v = mix (i + 1) (ob2 A k p) (B 18) := fun v hv => mix_up hv
    have ih1 := m87_2_b hf hn hB k0 k1 p0 p1 d (i + 1) (some (.int (Int32.ofInt 1))) (by omega)
    have ih0 := m87_2_b hf hn hB k0 k1 p0 p1 d (i + 1) (some (.int (Int32.ofInt 0))) (by omega)
    rw [r87_54]
    simp (disch := omega) only [r87_56, r87_58, r87_61, r87_62, r87_65, r87_67, r87_70, r87_71, r87_74, r87_75, r87_78, r87_80, r87_83, r87_84, r87_87, r87_88, r87_91, r87_92, r87_94, r87_95, r87_98, r87_100, r87_102, r87_105, r87_106, r87_107, r87_110, r87_111, r87_114, r87_116, r87_117, r87_119, r87_122, r87_123, r87_126, r87_127, r87_128, r87_131, sw_ldi, sw_ldl, sw_lda, sw_has1, sw_i1, sw_i2, sw_l1, sw_l2, sw_li, sw_r1, sw_ri, sw_rix, sw_rv, sw_pop, sw_set1, sw_set2, List.set_cons_zero, List.set_cons_succ, List.getElem?_cons_zero, List.getElem?_cons_succ, ald_1, ald_2, ast_1, ast_2, aln_1, aln_2, gf_1, gf_2, pf_1, pf_2, nw_1, ck_0, ck_1, ck_2, ck_3, ck_4, rr_1, rc_1, rc_2, K_i, K_l, K_v, I_add, I_sub, I_mul, I_div, I_em, I_eq0, I_lt0, I_0lt, I_le0, I_0le, I_eq, I_lt, I_le, I_a1, I_r1, I_eq1, I32_at, I32_s, Int.toNat_natCast, List.set_cons_zero, reduceCtorEq, not_false_eq_true, not_true_eq_false, false_and, true_and, and_true, and_false, false_or, true_or, or_true, or_false, if_true, if_false, eq_self, ↓reduceIte, Int.reduceEq, Int.reduceLT, Int.reduceLE, Int.reduceAdd, Int.reduceSub, Int.reduceMul, Int.reduceNeg, Int.reduceToNat, Nat.reduceLT, Nat.reduceAdd, Nat.reduceEqDiff, List.length_cons, List.length_nil, sA_at, ss, lo85, m86, h_16, h_2, h_17, h_18, h_3, w_18, h1, h3, hB]
    (repeat' split) <;> (first | (exfalso; omega) | (rw [hu 1 (if_pos (by omega))]; first | exact ih1 | exact ih0) | (rw [hu 0 (if_neg (by omega))]; first | exact ih1 | exact ih0))
theorem m87_2 {k p : Int} (hs : ∀ i, i < 36 → A 9 i = 0 ∨ A 9 i = 1) (hn : ∀ i, i < 36 → 0 ≤ A 4 i ∧ A 4 i < 1000) (hm : ∀ i, i < 60 → 0 ≤ A 3 i ∧ A 3 i < 1000) (k0 : 0 ≤ k) (k1 : k ≤ 2) (p0 : 0 ≤ p) (p1 : p ≤ 1000) : sw_M 87 [.ref 16, .ref 2, .ref 9, .int (Int32.ofInt k), .int (Int32.ofInt p)] (sw_h L A F T X) Q = Q (some none) (sw_h L (sw_s (sw_s A 17 (mix 36 (os2 A k p) (A 17))) 18 (mix 60 (ob2 A k p) (A 18))) F T X) := by
  rw [e87]
  simp (disch := omega) only [r87_0, r87_1, sw_ldi, sw_ldl, sw_lda, sw_has1, sw_i1, sw_i2, sw_l1, sw_l2, sw_li, sw_r1, sw_ri, sw_rix, sw_rv, sw_pop, sw_set1, sw_set2, List.set_cons_zero, List.set_cons_succ, List.getElem?_cons_zero, List.getElem?_cons_succ, ald_1, ald_2, ast_1, ast_2, aln_1, aln_2, gf_1, gf_2, pf_1, pf_2, nw_1, ck_0, ck_1, ck_2, ck_3, ck_4, rr_1, rc_1, rc_2, K_i, K_l, K_v, I_add, I_sub, I_mul, I_div, I_em, I_eq0, I_lt0, I_0lt, I_le0, I_0le, I_eq, I_lt, I_le, I_a1, I_r1, I_eq1, I32_at, I32_s, Int.toNat_natCast, List.set_cons_zero, reduceCtorEq, not_false_eq_true, not_true_eq_false, false_and, true_and, and_true, and_false, false_or, true_or, or_true, or_false, if_true, if_false, eq_self, ↓reduceIte, Int.reduceEq, Int.reduceLT, Int.reduceLE, Int.reduceAdd, Int.reduceSub, Int.reduceMul, Int.reduceNeg, Int.reduceToNat, Nat.reduceLT, Nat.reduceAdd, Nat.reduceEqDiff, List.length_cons, List.length_nil]
  have q := m87_2_a (L := L) (F := F) (T := T) (X := X) (Q := Q) hs hn k0 k1 p0 p1 36 0 none (by omega)
  rw [mix_0, sA_id] at q
  refine Eq.trans q ?_
  simp (disch := omega) only [r87_51, r87_52, sw_ldi, sw_ldl, sw_lda, sw_has1, sw_i1, sw_i2, sw_l1, sw_l2, sw_li, sw_r1, sw_ri, sw_rix, sw_rv, sw_pop, sw_set1, sw_set2, List.set_cons_zero, List.set_cons_succ, List.getElem?_cons_zero, List.getElem?_cons_succ, ald_1, ald_2, ast_1, ast_2, aln_1, aln_2, gf_1, gf_2, pf_1, pf_2, nw_1, ck_0, ck_1, ck_2, ck_3, ck_4, rr_1, rc_1, rc_2, K_i, K_l, K_v, I_add, I_sub, I_mul, I_div, I_em, I_eq0, I_lt0, I_0lt, I_le0, I_0le, I_eq, I_lt, I_le, I_a1, I_r1, I_eq1, I32_at, I32_s, Int.toNat_natCast, List.set_cons_zero, reduceCtorEq, not_false_eq_true, not_true_eq_false, false_and, true_and, and_true, and_false, false_or, true_or, or_true, or_false, if_true, if_false, eq_self, ↓reduceIte, Int.reduceEq, Int.reduceLT, Int.reduceLE, Int.reduceAdd, Int.reduceSub, Int.reduceMul, Int.reduceNeg, Int.reduceToNat, Nat.reduceLT, Nat.reduceAdd, Nat.reduceEqDiff, List.length_cons, List.length_nil]
  have q2 := m87_2_b (A := A) (B := sw_s A 17 (mix 36 (os2 A k p) (A 17))) (L := L) (F := F) (T := T) (X := X) (Q := Q) (fun i hi => mix_at hi) hm rfl k0 k1 p0 p1 60 0 none (by omega)
  rw [mix_0, sA_id] at q2
  exact q2
def os5 (A : Nat → Nat → Int) (k p : Int) : Nat → Int := fun i => f_op (A 9 i) (A 7 i) k p
def ob5 (A : Nat → Nat → Int) (k p : Int) : Nat → Int := fun b => f_ob (os5 A k p (f_lo b).toNat) (os5 A k p (f_hi b).toNat) (A 6 b) k p
theorem m87_5_a {k p : Int} (hs : ∀ i, i < 36 → A 9 i = 0 ∨ A 9 i = 1) (hn : ∀ i, i < 36 → 0 ≤ A 7 i ∧ A 7 i < 1000) (k0 : 0 ≤ k) (k1 : k ≤ 2) (p0 : 0 ≤ p) (p1 : p ≤ 1000) : ∀ (d i : Nat) (x : Option Value), i + d = 36 → sw_A 87 3 [some (.ref 16), some (.ref 5), some (.ref 9), some (.int (Int32.ofInt k)), some (.int (Int32.ofInt p)), some (.int (Int32.ofInt i)), x] [] (sw_h L (sw_s A 17 (mix i (os5 A k p) (A 17))) F T X) Q = sw_A 87 51 [some (.ref 16), some (.ref 5), some (.ref 9), some (.int (Int32.ofInt k)), some (.int (Int32.ofInt p)), some (.int (Int32.ofInt 36)), x] [] (sw_h L (sw_s A 17 (mix 36 (os5 A k p) (A 17))) F T X) Q
  | 0, i, x, hd => by
    have e : i = 36 := hd
    subst e
    rw [r87_3]
    simp (disch := omega) only [r87_5, r87_7, sw_ldi, sw_ldl, sw_lda, sw_has1, sw_i1, sw_i2, sw_l1, sw_l2, sw_li, sw_r1, sw_ri, sw_rix, sw_rv, sw_pop, sw_set1, sw_set2, List.set_cons_zero, List.set_cons_succ, List.getElem?_cons_zero, List.getElem?_cons_succ, ald_1, ald_2, ast_1, ast_2, aln_1, aln_2, gf_1, gf_2, pf_1, pf_2, nw_1, ck_0, ck_1, ck_2, ck_3, ck_4, rr_1, rc_1, rc_2, K_i, K_l, K_v, I_add, I_sub, I_mul, I_div, I_em, I_eq0, I_lt0, I_0lt, I_le0, I_0le, I_eq, I_lt, I_le, I_a1, I_r1, I_eq1, I32_at, I32_s, Int.toNat_natCast, List.set_cons_zero, reduceCtorEq, not_false_eq_true, not_true_eq_false, false_and, true_and, and_true, and_false, false_or, true_or, or_true, or_false, if_true, if_false, eq_self, ↓reduceIte, Int.reduceEq, Int.reduceLT, Int.reduceLE, Int.reduceAdd, Int.reduceSub, Int.reduceMul, Int.reduceNeg, Int.reduceToNat, Nat.reduceLT, Nat.reduceAdd, Nat.reduceEqDiff, List.length_cons, List.length_nil]
    rfl
  | d + 1, i, x, hd => by
    have h1 := hs i (by omega)
    have h2 := hn i (by omega)
    have ih := m87_5_a hs hn k0 k1 p0 p1 d (i + 1) x (by omega)
    have hu : ∀ v, f_op (A 9 i) (A 7 i) k p = v → sw_s (mix i (os5 A k p) (A 17)) i v = mix (i + 1) (os5 A k p) (A 17) := fun v hv => mix_up hv
    rw [r87_3]
    simp (disch := omega) only [r87_5, r87_7, r87_10, r87_11, r87_14, r87_16, r87_17, r87_19, r87_20, r87_23, r87_24, r87_27, r87_28, r87_31, r87_33, r87_34, r87_36, r87_39, r87_40, r87_43, r87_44, r87_45, r87_48, sw_ldi, sw_ldl, sw_lda, sw_has1, sw_i1, sw_i2, sw_l1, sw_l2, sw_li, sw_r1, sw_ri, sw_rix, sw_rv, sw_pop, sw_set1, sw_set2, List.set_cons_zero, List.set_cons_succ, List.getElem?_cons_zero, List.getElem?_cons_succ, ald_1, ald_2, ast_1, ast_2, aln_1, aln_2, gf_1, gf_2, pf_1, pf_2, nw_1, ck_0, ck_1, ck_2, ck_3, ck_4, rr_1, rc_1, rc_2, K_i, K_l, K_v, I_add, I_sub, I_mul, I_div, I_em, I_eq0, I_lt0, I_0lt, I_le0, I_0le, I_eq, I_lt, I_le, I_a1, I_r1, I_eq1, I32_at, I32_s, Int.toNat_natCast, List.set_cons_zero, reduceCtorEq, not_false_eq_true, not_true_eq_false, false_and, true_and, and_true, and_false, false_or, true_or, or_true, or_false, if_true, if_false, eq_self, ↓reduceIte, Int.reduceEq, Int.reduceLT, Int.reduceLE, Int.reduceAdd, Int.reduceSub, Int.reduceMul, Int.reduceNeg, Int.reduceToNat, Nat.reduceLT, Nat.reduceAdd, Nat.reduceEqDiff, List.length_cons, List.length_nil, sA_at, ss, h_9, h_16, h_5, h_17, h_7, w_17]
    (repeat' split) <;> (first | (exfalso; omega) | (rw [hu 1 (if_pos (by omega))]; exact ih) | (rw [hu 0 (if_neg (by omega))]; exact ih))
theorem m87_5_b {B : Nat → Nat → Int} {k p : Int} (hf : ∀ i, i < 36 → B 17 i = os5 A k p i) (hn : ∀ i, i < 60 → 0 ≤ A 6 i ∧ A 6 i < 1000) (hB : B 6 = A 6) (k0 : 0 ≤ k) (k1 : k ≤ 2) (p0 : 0 ≤ p) (p1 : p ≤ 1000) : ∀ (d i : Nat) (x : Option Value), i + d = 60 → sw_A 87 54 [some (.ref 16), some (.ref 5), some (.ref 9), some (.int (Int32.ofInt k)), some (.int (Int32.ofInt p)), some (.int (Int32.ofInt i)), x] [] (sw_h L (sw_s B 18 (mix i (ob5 A k p) (B 18))) F T X) Q = Q (some none) (sw_h L (sw_s B 18 (mix 60 (ob5 A k p) (B 18))) F T X)
  | 0, i, x, hd => by
    have e : i = 60 := hd
    subst e
    rw [r87_54]
    simp (disch := omega) only [r87_56, r87_58, r87_134, sw_ldi, sw_ldl, sw_lda, sw_has1, sw_i1, sw_i2, sw_l1, sw_l2, sw_li, sw_r1, sw_ri, sw_rix, sw_rv, sw_pop, sw_set1, sw_set2, List.set_cons_zero, List.set_cons_succ, List.getElem?_cons_zero, List.getElem?_cons_succ, ald_1, ald_2, ast_1, ast_2, aln_1, aln_2, gf_1, gf_2, pf_1, pf_2, nw_1, ck_0, ck_1, ck_2, ck_3, ck_4, rr_1, rc_1, rc_2, K_i, K_l, K_v, I_add, I_sub, I_mul, I_div, I_em, I_eq0, I_lt0, I_0lt, I_le0, I_0le, I_eq, I_lt, I_le, I_a1, I_r1, I_eq1, I32_at, I32_s, Int.toNat_natCast, List.set_cons_zero, reduceCtorEq, not_false_eq_true, not_true_eq_false, false_and, true_and, and_true, and_false, false_or, true_or, or_true, or_false, if_true, if_false, eq_self, ↓reduceIte, Int.reduceEq, Int.reduceLT, Int.reduceLE, Int.reduceAdd, Int.reduceSub, Int.reduceMul, Int.reduceNeg, Int.reduceToNat, Nat.reduceLT, Nat.reduceAdd, Nat.reduceEqDiff, List.length_cons, List.length_nil]
    rfl
  | d + 1, i, x, hd => by
    have g1 := f_lo_b (b := i) (by omega) (by omega)
    have g2 := f_hi_b (b := i) (by omega) (by omega)
    have h1 := hf (f_lo i).toNat (by omega)
    have h3 := hf (f_hi i).toNat (by omega)
    have h2 := hn i (by omega)
    have b1 : os5 A k p (f_lo i).toNat = 0 ∨ os5 A k p (f_lo i).toNat = 1 := f_op_b _ _ _ _
    have b2 : os5 A k p (f_hi i).toNat = 0 ∨ os5 A k p (f_hi i).toNat = 1 := f_op_b _ _ _ _
    have hu : ∀ v, f_ob (os5 A k p (f_lo i).toNat) (os5 A k p (f_hi i).toNat) (A 6 i) k p = v → sw_s (mix i (ob5 A k p) (B 18)) i v = mix (i + 1) (ob5 A k p) (B 18) := fun v hv => mix_up hv
    have ih1 := m87_5_b hf hn hB k0 k1 p0 p1 d (i + 1) (some (.int (Int32.ofInt 1))) (by omega)
    have ih0 := m87_5_b hf hn hB k0 k1 p0 p1 d (i + 1) (some (.int (Int32.ofInt 0))) (by omega)
    rw [r87_54]
    simp (disch := omega) only [r87_56, r87_58, r87_61, r87_62, r87_65, r87_67, r87_70, r87_71, r87_74, r87_75, r87_78, r87_80, r87_83, r87_84, r87_87, r87_88, r87_91, r87_92, r87_94, r87_95, r87_98, r87_100, r87_102, r87_105, r87_106, r87_107, r87_110, r87_111, r87_114, r87_116, r87_117, r87_119, r87_122, r87_123, r87_126, r87_127, r87_128, r87_131, sw_ldi, sw_ldl, sw_lda, sw_has1, sw_i1, sw_i2, sw_l1, sw_l2, sw_li, sw_r1, sw_ri, sw_rix, sw_rv, sw_pop, sw_set1, sw_set2, List.set_cons_zero, List.set_cons_succ, List.getElem?_cons_zero, List.getElem?_cons_succ, ald_1, ald_2, ast_1, ast_2, aln_1, aln_2, gf_1, gf_2, pf_1, pf_2, nw_1, ck_0, ck_1, ck_2, ck_3, ck_4, rr_1, rc_1, rc_2, K_i, K_l, K_v, I_add, I_sub, I_mul, I_div, I_em, I_eq0, I_lt0, I_0lt, I_le0, I_0le, I_eq, I_lt, I_le, I_a1, I_r1, I_eq1, I32_at, I32_s, Int.toNat_natCast, List.set_cons_zero, reduceCtorEq, not_false_eq_true, not_true_eq_false, false_and, true_and, and_true, and_false, false_or, true_or, or_true, or_false, if_true, if_false, eq_self, ↓reduceIte, Int.reduceEq, Int.reduceLT, Int.reduceLE, Int.reduceAdd, Int.reduceSub, Int.reduceMul, Int.reduceNeg, Int.reduceToNat, Nat.reduceLT, Nat.reduceAdd, Nat.reduceEqDiff, List.length_cons, List.length_nil, sA_at, ss, lo85, m86, h_16, h_5, h_17, h_18, h_6, w_18, h1, h3, hB]
    (repeat' split) <;> (first | (exfalso; omega) | (rw [hu 1 (if_pos (by omega))]; first | exact ih1 | exact ih0) | (rw [hu 0 (if_neg (by omega))]; first | exact ih1 | exact ih0))
theorem m87_5 {k p : Int} (hs : ∀ i, i < 36 → A 9 i = 0 ∨ A 9 i = 1) (hn : ∀ i, i < 36 → 0 ≤ A 7 i ∧ A 7 i < 1000) (hm : ∀ i, i < 60 → 0 ≤ A 6 i ∧ A 6 i < 1000) (k0 : 0 ≤ k) (k1 : k ≤ 2) (p0 : 0 ≤ p) (p1 : p ≤ 1000) : sw_M 87 [.ref 16, .ref 5, .ref 9, .int (Int32.ofInt k), .int (Int32.ofInt p)] (sw_h L A F T X) Q = Q (some none) (sw_h L (sw_s (sw_s A 17 (mix 36 (os5 A k p) (A 17))) 18 (mix 60 (ob5 A k p) (A 18))) F T X) := by
  rw [e87]
  simp (disch := omega) only [r87_0, r87_1, sw_ldi, sw_ldl, sw_lda, sw_has1, sw_i1, sw_i2, sw_l1, sw_l2, sw_li, sw_r1, sw_ri, sw_rix, sw_rv, sw_pop, sw_set1, sw_set2, List.set_cons_zero, List.set_cons_succ, List.getElem?_cons_zero, List.getElem?_cons_succ, ald_1, ald_2, ast_1, ast_2, aln_1, aln_2, gf_1, gf_2, pf_1, pf_2, nw_1, ck_0, ck_1, ck_2, ck_3, ck_4, rr_1, rc_1, rc_2, K_i, K_l, K_v, I_add, I_sub, I_mul, I_div, I_em, I_eq0, I_lt0, I_0lt, I_le0, I_0le, I_eq, I_lt, I_le, I_a1, I_r1, I_eq1, I32_at, I32_s, Int.toNat_natCast, List.set_cons_zero, reduceCtorEq, not_false_eq_true, not_true_eq_false, false_and, true_and, and_true, and_false, false_or, true_or, or_true, or_false, if_true, if_false, eq_self, ↓reduceIte, Int.reduceEq, Int.reduceLT, Int.reduceLE, Int.reduceAdd, Int.reduceSub, Int.reduceMul, Int.reduceNeg, Int.reduceToNat, Nat.reduceLT, Nat.reduceAdd, Nat.reduceEqDiff, List.length_cons, List.length_nil]
  have q := m87_5_a (L := L) (F := F) (T := T) (X := X) (Q := Q) hs hn k0 k1 p0 p1 36 0 none (by omega)
  rw [mix_0, sA_id] at q
  refine Eq.trans q ?_
  simp (disch := omega) only [r87_51, r87_52, sw_ldi, sw_ldl, sw_lda, sw_has1, sw_i1, sw_i2, sw_l1, sw_l2, sw_li, sw_r1, sw_ri, sw_rix, sw_rv, sw_pop, sw_set1, sw_set2, List.set_cons_zero, List.set_cons_succ, List.getElem?_cons_zero, List.getElem?_cons_succ, ald_1, ald_2, ast_1, ast_2, aln_1, aln_2, gf_1, gf_2, pf_1, pf_2, nw_1, ck_0, ck_1, ck_2, ck_3, ck_4, rr_1, rc_1, rc_2, K_i, K_l, K_v, I_add, I_sub, I_mul, I_div, I_em, I_eq0, I_lt0, I_0lt, I_le0, I_0le, I_eq, I_lt, I_le, I_a1, I_r1, I_eq1, I32_at, I32_s, Int.toNat_natCast, List.set_cons_zero, reduceCtorEq, not_false_eq_true, not_true_eq_false, false_and, true_and, and_true, and_false, false_or, true_or, or_true, or_false, if_true, if_false, eq_self, ↓reduceIte, Int.reduceEq, Int.reduceLT, Int.reduceLE, Int.reduceAdd, Int.reduceSub, Int.reduceMul, Int.reduceNeg, Int.reduceToNat, Nat.reduceLT, Nat.reduceAdd, Nat.reduceEqDiff, List.length_cons, List.length_nil]
  have q2 := m87_5_b (A := A) (B := sw_s A 17 (mix 36 (os5 A k p) (A 17))) (L := L) (F := F) (T := T) (X := X) (Q := Q) (fun i hi => mix_at hi) hm rfl k0 k1 p0 p1 60 0 none (by omega)
  rw [mix_0, sA_id] at q2
  exact q2
end sw_m5
