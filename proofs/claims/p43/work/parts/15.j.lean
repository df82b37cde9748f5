/-! cheapest, to its end -/
section sw_ch2
variable {H : sw_HS} {Q : sw_Ot → sw_HS → Prop} {rb rs a : Nat} {nb ns ob : Nat → Int} {shut : Int64} {k p : Int}
theorem m117_k {far0 far : Nat → Int} {m : Int} {j : Nat} (hj : j < 25) (hob : ∀ b, b < 60 → ob b = 0 ∨ ob b = 1) (h81 : L81 H rb rs a shut k p ob) (h : PV ob far0 far m) (x9 x10 x11 x12 x13 x14 x15 : Option Value) : ∃ y9 y10 y11 y12 y13 y14 y15 : Option Value, sw_A 117 72 [some (.ref rb), some (.ref rs), some (.long shut), none, some (.int (Int32.ofInt k)), some (.int (Int32.ofInt p)), some (.ref a), some (.int (Int32.ofInt m)), some (.int (Int32.ofInt j)), x9, x10, x11, x12, x13, x14, x15] [] (HC H a far) Q = sw_A 117 72 [some (.ref rb), some (.ref rs), some (.long shut), none, some (.int (Int32.ofInt k)), some (.int (Int32.ofInt p)), some (.ref a), some (.int (Int32.ofInt (rx4 ob far m j).2)), some (.int (Int32.ofInt (j + 1))), y9, y10, y11, y12, y13, y14, y15] [] (HC H a (rx4 ob far m j).1) Q := by
  obtain ⟨a1, -⟩ := rx_ok hob hj (fun i => mv_0 hj i) h
  obtain ⟨b1, -⟩ := rx_ok hob hj (fun i => mv_1 hj i) a1
  obtain ⟨c1, -⟩ := rx_ok hob hj (fun i => mv_2 hj i) b1
  obtain ⟨y10, y11, y12, y13, y14, y15, e0⟩ := m117_0 (Q := Q) hj h.2.2.2.1 h.1 hob h81 x10 x11 x12 x13 x14 x15
  obtain ⟨z10, z11, z12, z13, z14, z15, e1⟩ := m117_1 (Q := Q) hj a1.2.2.2.1 a1.1 hob h81 y10 y11 y12 y13 y14 y15
  obtain ⟨v10, v11, v12, v13, v14, v15, e2⟩ := m117_2 (Q := Q) hj b1.2.2.2.1 b1.1 hob h81 z10 z11 z12 z13 z14 z15
  obtain ⟨w10, w11, w12, w13, w14, w15, e3⟩ := m117_3 (Q := Q) hj c1.2.2.2.1 c1.1 hob h81 v10 v11 v12 v13 v14 v15
  refine ⟨some (.int (Int32.ofInt 4)), w10, w11, w12, w13, w14, w15, ?_⟩
  have E := Eq.trans e0 (Eq.trans e1 (Eq.trans e2 e3))
  rw [r117_72]
  simp (disch := omega) only [r117_74, r117_76, r117_79, r117_80, sw_ldi, sw_ldl, sw_lda, sw_has1, sw_i1, sw_i2, sw_l1, sw_l2, sw_li, sw_r1, sw_ri, sw_rix, sw_rv, sw_pop, sw_set1, sw_set2, List.set_cons_zero, List.set_cons_succ, List.getElem?_cons_zero, List.getElem?_cons_succ, ald_1, ald_2, ast_1, ast_2, aln_1, aln_2, gf_1, gf_2, pf_1, pf_2, nw_1, ck_0, ck_1, ck_2, ck_3, ck_4, rr_1, rc_1, rc_2, K_i, K_l, K_v, I_add, I_sub, I_mul, I_div, I_em, I_eq0, I_lt0, I_0lt, I_le0, I_0le, I_eq, I_lt, I_le, I_a1, I_r1, I_eq1, I32_at, I32_s, Int.toNat_natCast, List.set_cons_zero, reduceCtorEq, not_false_eq_true, not_true_eq_false, false_and, true_and, and_true, and_false, false_or, true_or, or_true, or_false, if_true, if_false, eq_self, ↓reduceIte, Int.reduceEq, Int.reduceLT, Int.reduceLE, Int.reduceAdd, Int.reduceSub, Int.reduceMul, Int.reduceNeg, Int.reduceToNat, Nat.reduceLT, Nat.reduceAdd, Nat.reduceEqDiff, List.length_cons, List.length_nil]
  rw [if_neg (by omega)]
  refine Eq.trans E ?_
  rw [r117_82]
  simp (disch := omega) only [r117_84, r117_85, r117_339, r117_342, sw_ldi, sw_ldl, sw_lda, sw_has1, sw_i1, sw_i2, sw_l1, sw_l2, sw_li, sw_r1, sw_ri, sw_rix, sw_rv, sw_pop, sw_set1, sw_set2, List.set_cons_zero, List.set_cons_succ, List.getElem?_cons_zero, List.getElem?_cons_succ, ald_1, ald_2, ast_1, ast_2, aln_1, aln_2, gf_1, gf_2, pf_1, pf_2, nw_1, ck_0, ck_1, ck_2, ck_3, ck_4, rr_1, rc_1, rc_2, K_i, K_l, K_v, I_add, I_sub, I_mul, I_div, I_em, I_eq0, I_lt0, I_0lt, I_le0, I_0le, I_eq, I_lt, I_le, I_a1, I_r1, I_eq1, I32_at, I32_s, Int.toNat_natCast, List.set_cons_zero, reduceCtorEq, not_false_eq_true, not_true_eq_false, false_and, true_and, and_true, and_false, false_or, true_or, or_true, or_false, if_true, if_false, eq_self, ↓reduceIte, Int.reduceEq, Int.reduceLT, Int.reduceLE, Int.reduceAdd, Int.reduceSub, Int.reduceMul, Int.reduceNeg, Int.reduceToNat, Nat.reduceLT, Nat.reduceAdd, Nat.reduceEqDiff, List.length_cons, List.length_nil]
  rfl
theorem m117_p {far0 : Nat → Int} (hob : ∀ b, b < 60 → ob b = 0 ∨ ob b = 1) (h81 : L81 H rb rs a shut k p ob) : ∀ (n j : Nat) (far : Nat → Int) (m : Int) (x9 x10 x11 x12 x13 x14 x15 : Option Value), j + n = 25 → PV ob far0 far m → (m = 0 → ∀ i, i < j → ST ob far i) → ∃ (far2 : Nat → Int) (m2 : Int) (y9 y10 y11 y12 y13 y14 y15 : Option Value), PV ob far0 far2 m2 ∧ (m2 = 0 → ∀ i, i < 25 → ST ob far2 i) ∧ sw_A 117 72 [some (.ref rb), some (.ref rs), some (.long shut), none, some (.int (Int32.ofInt k)), some (.int (Int32.ofInt p)), some (.ref a), some (.int (Int32.ofInt m)), some (.int (Int32.ofInt j)), x9, x10, x11, x12, x13, x14, x15] [] (HC H a far) Q = sw_A 117 61 [some (.ref rb), some (.ref rs), some (.long shut), none, some (.int (Int32.ofInt k)), some (.int (Int32.ofInt p)), some (.ref a), some (.int (Int32.ofInt m2)), some (.int (Int32.ofInt 25)), y9, y10, y11, y12, y13, y14, y15] [] (HC H a far2) Q
  | 0, j, far, m, x9, x10, x11, x12, x13, x14, x15, hn, h, hs => by
    have e : j = 25 := hn
    subst e
    refine ⟨far, m, x9, x10, x11, x12, x13, x14, x15, h, hs, ?_⟩
    rw [r117_72]
    simp (disch := omega) only [r117_74, r117_76, r117_345, sw_ldi, sw_ldl, sw_lda, sw_has1, sw_i1, sw_i2, sw_l1, sw_l2, sw_li, sw_r1, sw_ri, sw_rix, sw_rv, sw_pop, sw_set1, sw_set2, List.set_cons_zero, List.set_cons_succ, List.getElem?_cons_zero, List.getElem?_cons_succ, ald_1, ald_2, ast_1, ast_2, aln_1, aln_2, gf_1, gf_2, pf_1, pf_2, nw_1, ck_0, ck_1, ck_2, ck_3, ck_4, rr_1, rc_1, rc_2, K_i, K_l, K_v, I_add, I_sub, I_mul, I_div, I_em, I_eq0, I_lt0, I_0lt, I_le0, I_0le, I_eq, I_lt, I_le, I_a1, I_r1, I_eq1, I32_at, I32_s, Int.toNat_natCast, List.set_cons_zero, reduceCtorEq, not_false_eq_true, not_true_eq_false, false_and, true_and, and_true, and_false, false_or, true_or, or_true, or_false, if_true, if_false, eq_self, ↓reduceIte, Int.reduceEq, Int.reduceLT, Int.reduceLE, Int.reduceAdd, Int.reduceSub, Int.reduceMul, Int.reduceNeg, Int.reduceToNat, Nat.reduceLT, Nat.reduceAdd, Nat.reduceEqDiff, List.length_cons, List.length_nil, Int.le_refl]
    rfl
  | n + 1, j, far, m, x9, x10, x11, x12, x13, x14, x15, hn, h, hs => by
    have hj : j < 25 := by omega
    obtain ⟨y9, y10, y11, y12, y13, y14, y15, e⟩ := m117_k (Q := Q) hj hob h81 h x9 x10 x11 x12 x13 x14 x15
    obtain ⟨g1, g2⟩ := rx4_ok hob hj h hs
    obtain ⟨far2, m2, z9, z10, z11, z12, z13, z14, z15, k1, k2, k3⟩ := m117_p hob h81 n (j + 1) _ _ y9 y10 y11 y12 y13 y14 y15 (by omega) g1 g2
    exact ⟨far2, m2, z9, z10, z11, z12, z13, z14, z15, k1, k2, Eq.trans e k3⟩
theorem m117_w (hob : ∀ b, b < 60 → ob b = 0 ∨ ob b = 1) (h81 : L81 H rb rs a shut k p ob) : ∀ (n : Nat) (far far0 : Nat → Int) (m : Int) (x8 x9 x10 x11 x12 x13 x14 x15 : Option Value), su far 25 ≤ n → PV ob far0 far m → (m = 0 → ∀ i, i < 25 → ST ob far i) → ∃ (far2 far3 : Nat → Int) (y8 y9 y10 y11 y12 y13 y14 y15 : Option Value), PV ob far3 far2 0 ∧ (∀ i, i < 25 → ST ob far2 i) ∧ sw_A 117 61 [some (.ref rb), some (.ref rs), some (.long shut), none, some (.int (Int32.ofInt k)), some (.int (Int32.ofInt p)), some (.ref a), some (.int (Int32.ofInt m)), x8, x9, x10, x11, x12, x13, x14, x15] [] (HC H a far) Q = sw_A 117 348 [some (.ref rb), some (.ref rs), some (.long shut), none, some (.int (Int32.ofInt k)), some (.int (Int32.ofInt p)), some (.ref a), some (.int (Int32.ofInt 0)), y8, y9, y10, y11, y12, y13, y14, y15] [] (HC H a far2) Q := by
  have ex : ∀ (far far0 : Nat → Int) (x8 x9 x10 x11 x12 x13 x14 x15 : Option Value), sw_A 117 61 [some (.ref rb), some (.ref rs), some (.long shut), none, some (.int (Int32.ofInt k)), some (.int (Int32.ofInt p)), some (.ref a), some (.int (Int32.ofInt 0)), x8, x9, x10, x11, x12, x13, x14, x15] [] (HC H a far) Q = sw_A 117 348 [some (.ref rb), some (.ref rs), some (.long shut), none, some (.int (Int32.ofInt k)), some (.int (Int32.ofInt p)), some (.ref a), some (.int (Int32.ofInt 0)), x8, x9, x10, x11, x12, x13, x14, x15] [] (HC H a far) Q := fun far far0 x8 x9 x10 x11 x12 x13 x14 x15 => by
    rw [r117_61]
    simp (disch := omega) only [r117_63, sw_ldi, sw_ldl, sw_lda, sw_has1, sw_i1, sw_i2, sw_l1, sw_l2, sw_li, sw_r1, sw_ri, sw_rix, sw_rv, sw_pop, sw_set1, sw_set2, List.set_cons_zero, List.set_cons_succ, List.getElem?_cons_zero, List.getElem?_cons_succ, ald_1, ald_2, ast_1, ast_2, aln_1, aln_2, gf_1, gf_2, pf_1, pf_2, nw_1, ck_0, ck_1, ck_2, ck_3, ck_4, rr_1, rc_1, rc_2, K_i, K_l, K_v, I_add, I_sub, I_mul, I_div, I_em, I_eq0, I_lt0, I_0lt, I_le0, I_0le, I_eq, I_lt, I_le, I_a1, I_r1, I_eq1, I32_at, I32_s, Int.toNat_natCast, List.set_cons_zero, reduceCtorEq, not_false_eq_true, not_true_eq_false, false_and, true_and, and_true, and_false, false_or, true_or, or_true, or_false, if_true, if_false, eq_self, ↓reduceIte, Int.reduceEq, Int.reduceLT, Int.reduceLE, Int.reduceAdd, Int.reduceSub, Int.reduceMul, Int.reduceNeg, Int.reduceToNat, Nat.reduceLT, Nat.reduceAdd, Nat.reduceEqDiff, List.length_cons, List.length_nil]
  intro n
  induction n with
  | zero =>
    intro far far0 m x8 x9 x10 x11 x12 x13 x14 x15 hn h hs
    rcases h.2.2.2.1 with rfl | rfl
    · exact ⟨far, far0, x8, x9, x10, x11, x12, x13, x14, x15, h, hs rfl, ex far far0 x8 x9 x10 x11 x12 x13 x14 x15⟩
    · obtain ⟨far2, m2, y9, y10, y11, y12, y13, y14, y15, k1, k2, k3⟩ := m117_p (H := H) (Q := Q) (a := a) (rb := rb) (rs := rs) hob h81 (far0 := far) 25 0 far 0 x9 x10 x11 x12 x13 x14 x15 (by omega) ⟨h.1, h.2.1, h.2.2.1, Or.inl rfl, fun _ => rfl, fun q => absurd q (by decide)⟩ (fun _ i hi => absurd hi (Nat.not_lt_zero _))
      rcases k1.2.2.2.1 with rfl | rfl
      · refine ⟨far2, far, some (.int (Int32.ofInt 25)), y9, y10, y11, y12, y13, y14, y15, k1, k2 rfl, Eq.trans ?_ (ex far2 far _ _ _ _ _ _ _ _)⟩
        refine Eq.trans ?_ k3
        rw [r117_61]
        simp (disch := omega) only [r117_63, r117_66, r117_67, r117_69, r117_70, sw_ldi, sw_ldl, sw_lda, sw_has1, sw_i1, sw_i2, sw_l1, sw_l2, sw_li, sw_r1, sw_ri, sw_rix, sw_rv, sw_pop, sw_set1, sw_set2, List.set_cons_zero, List.set_cons_succ, List.getElem?_cons_zero, List.getElem?_cons_succ, ald_1, ald_2, ast_1, ast_2, aln_1, aln_2, gf_1, gf_2, pf_1, pf_2, nw_1, ck_0, ck_1, ck_2, ck_3, ck_4, rr_1, rc_1, rc_2, K_i, K_l, K_v, I_add, I_sub, I_mul, I_div, I_em, I_eq0, I_lt0, I_0lt, I_le0, I_0le, I_eq, I_lt, I_le, I_a1, I_r1, I_eq1, I32_at, I32_s, Int.toNat_natCast, List.set_cons_zero, reduceCtorEq, not_false_eq_true, not_true_eq_false, false_and, true_and, and_true, and_false, false_or, true_or, or_true, or_false, if_true, if_false, eq_self, ↓reduceIte, Int.reduceEq, Int.reduceLT, Int.reduceLE, Int.reduceAdd, Int.reduceSub, Int.reduceMul, Int.reduceNeg, Int.reduceToNat, Nat.reduceLT, Nat.reduceAdd, Nat.reduceEqDiff, List.length_cons, List.length_nil]
        rfl
      · have := k1.2.2.2.2.2 rfl
        have := (su_z (g := far2) 25 fun i hi => (k1.1 i hi).1).1
        omega
  | succ n ih =>
    intro far far0 m x8 x9 x10 x11 x12 x13 x14 x15 hn h hs
    rcases h.2.2.2.1 with rfl | rfl
    · exact ⟨far, far0, x8, x9, x10, x11, x12, x13, x14, x15, h, hs rfl, ex far far0 x8 x9 x10 x11 x12 x13 x14 x15⟩
    · obtain ⟨far2, m2, y9, y10, y11, y12, y13, y14, y15, k1, k2, k3⟩ := m117_p (H := H) (Q := Q) (a := a) (rb := rb) (rs := rs) hob h81 (far0 := far) 25 0 far 0 x9 x10 x11 x12 x13 x14 x15 (by omega) ⟨h.1, h.2.1, h.2.2.1, Or.inl rfl, fun _ => rfl, fun q => absurd q (by decide)⟩ (fun _ i hi => absurd hi (Nat.not_lt_zero _))
      have st : sw_A 117 61 [some (.ref rb), some (.ref rs), some (.long shut), none, some (.int (Int32.ofInt k)), some (.int (Int32.ofInt p)), some (.ref a), some (.int (Int32.ofInt 1)), x8, x9, x10, x11, x12, x13, x14, x15] [] (HC H a far) Q = sw_A 117 72 [some (.ref rb), some (.ref rs), some (.long shut), none, some (.int (Int32.ofInt k)), some (.int (Int32.ofInt p)), some (.ref a), some (.int (Int32.ofInt 0)), some (.int (Int32.ofInt (0 : Nat))), x9, x10, x11, x12, x13, x14, x15] [] (HC H a far) Q := by
        rw [r117_61]
        simp (disch := omega) only [r117_63, r117_66, r117_67, r117_69, r117_70, sw_ldi, sw_ldl, sw_lda, sw_has1, sw_i1, sw_i2, sw_l1, sw_l2, sw_li, sw_r1, sw_ri, sw_rix, sw_rv, sw_pop, sw_set1, sw_set2, List.set_cons_zero, List.set_cons_succ, List.getElem?_cons_zero, List.getElem?_cons_succ, ald_1, ald_2, ast_1, ast_2, aln_1, aln_2, gf_1, gf_2, pf_1, pf_2, nw_1, ck_0, ck_1, ck_2, ck_3, ck_4, rr_1, rc_1, rc_2, K_i, K_l, K_v, I_add, I_sub, I_mul, I_div, I_em, I_eq0, I_lt0, I_0lt, I_le0, I_0le, I_eq, I_lt, I_le, I_a1, I_r1, I_eq1, I32_at, I32_s, Int.toNat_natCast, List.set_cons_zero, reduceCtorEq, not_false_eq_true, not_true_eq_false, false_and, true_and, and_true, and_false, false_or, true_or, or_true, or_false, if_true, if_false, eq_self, ↓reduceIte, Int.reduceEq, Int.reduceLT, Int.reduceLE, Int.reduceAdd, Int.reduceSub, Int.reduceMul, Int.reduceNeg, Int.reduceToNat, Nat.reduceLT, Nat.reduceAdd, Nat.reduceEqDiff, List.length_cons, List.length_nil]
        rfl
      rcases k1.2.2.2.1 with rfl | rfl
      · exact ⟨far2, far, some (.int (Int32.ofInt 25)), y9, y10, y11, y12, y13, y14, y15, k1, k2 rfl, Eq.trans st (Eq.trans k3 (ex far2 far _ _ _ _ _ _ _ _))⟩
      · have l := k1.2.2.2.2.2 rfl
        obtain ⟨far4, far5, z8, z9, z10, z11, z12, z13, z14, z15, e1, e2, e3⟩ := ih far2 far 1 (some (.int (Int32.ofInt 25))) y9 y10 y11 y12 y13 y14 y15 (by omega) k1 k2
        exact ⟨far4, far5, z8, z9, z10, z11, z12, z13, z14, z15, e1, e2, Eq.trans st (Eq.trans k3 e3)⟩
theorem m117_b {far : Nat → Int} (hfar : ∀ i, i < 25 → 0 ≤ far i ∧ far i ≤ 99) (hob : ∀ b, b < 60 → ob b = 0 ∨ ob b = 1) (h81 : L81 H rb rs a shut k p ob) : ∀ (n c : Nat) (x7 : Int32) (x10 x11 x12 x13 x14 x15 : Option Value), c + n = 5 → sw_A 117 355 [some (.ref rb), some (.ref rs), some (.long shut), none, some (.int (Int32.ofInt k)), some (.int (Int32.ofInt p)), some (.ref a), some (.int x7), some (.int (Int32.ofInt (mnb ob far c))), some (.int (Int32.ofInt c)), x10, x11, x12, x13, x14, x15] [] (HC H a far) Q = Q (some (some (.int (Int32.ofInt (mnb ob far 5))))) (HC H a far)
  | 0, c, x7, x10, x11, x12, x13, x14, x15, hn => by
    have e : c = 5 := hn
    subst e
    rw [r117_355]
    simp (disch := omega) only [r117_357, r117_358, r117_412, r117_414, sw_ldi, sw_ldl, sw_lda, sw_has1, sw_i1, sw_i2, sw_l1, sw_l2, sw_li, sw_r1, sw_ri, sw_rix, sw_rv, sw_pop, sw_set1, sw_set2, List.set_cons_zero, List.set_cons_succ, List.getElem?_cons_zero, List.getElem?_cons_succ, ald_1, ald_2, ast_1, ast_2, aln_1, aln_2, gf_1, gf_2, pf_1, pf_2, nw_1, ck_0, ck_1, ck_2, ck_3, ck_4, rr_1, rc_1, rc_2, K_i, K_l, K_v, I_add, I_sub, I_mul, I_div, I_em, I_eq0, I_lt0, I_0lt, I_le0, I_0le, I_eq, I_lt, I_le, I_a1, I_r1, I_eq1, I32_at, I32_s, Int.toNat_natCast, List.set_cons_zero, reduceCtorEq, not_false_eq_true, not_true_eq_false, false_and, true_and, and_true, and_false, false_or, true_or, or_true, or_false, if_true, if_false, eq_self, ↓reduceIte, Int.reduceEq, Int.reduceLT, Int.reduceLE, Int.reduceAdd, Int.reduceSub, Int.reduceMul, Int.reduceNeg, Int.reduceToNat, Nat.reduceLT, Nat.reduceAdd, Nat.reduceEqDiff, List.length_cons, List.length_nil, Int.le_refl]
    rfl
  | n + 1, c, x7, x10, x11, x12, x13, x14, x15, hn => by
    have f1 := hfar (20 + c) (by omega)
    have o := hob (25 + c) (by omega)
    have h82 := fun Q => h81.2 far (25 + c) Q (by omega)
    have ih := m117_b hfar hob h81 n (c + 1) x7 (some (.int (Int32.ofInt (far (20 + c) + ob (25 + c))))) x11 x12 x13 x14 x15 (by omega)
    have e : mnb ob far (c + 1) = if far (20 + c) + ob (25 + c) < mnb ob far c then far (20 + c) + ob (25 + c) else mnb ob far c := rfl
    have mb := (mnb_b (co := ob) (far := far) (v := 0) (by omega) c (by omega) fun i hi => by
      have := hfar (20 + i) (by omega)
      have := hob (25 + i) (by omega)
      omega)
    rw [e] at ih
    generalize mnb ob far c = v at *
    rw [r117_355]
    simp (disch := omega) only [r117_357, r117_358, sw_ldi, sw_ldl, sw_lda, sw_has1, sw_i1, sw_i2, sw_l1, sw_l2, sw_li, sw_r1, sw_ri, sw_rix, sw_rv, sw_pop, sw_set1, sw_set2, List.set_cons_zero, List.set_cons_succ, List.getElem?_cons_zero, List.getElem?_cons_succ, ald_1, ald_2, ast_1, ast_2, aln_1, aln_2, gf_1, gf_2, pf_1, pf_2, nw_1, ck_0, ck_1, ck_2, ck_3, ck_4, rr_1, rc_1, rc_2, K_i, K_l, K_v, I_add, I_sub, I_mul, I_div, I_em, I_eq0, I_lt0, I_0lt, I_le0, I_0le, I_eq, I_lt, I_le, I_a1, I_r1, I_eq1, I32_at, I32_s, Int.toNat_natCast, List.set_cons_zero, reduceCtorEq, not_false_eq_true, not_true_eq_false, false_and, true_and, and_true, and_false, false_or, true_or, or_true, or_false, if_true, if_false, eq_self, ↓reduceIte, Int.reduceEq, Int.reduceLT, Int.reduceLE, Int.reduceAdd, Int.reduceSub, Int.reduceMul, Int.reduceNeg, Int.reduceToNat, Nat.reduceLT, Nat.reduceAdd, Nat.reduceEqDiff, List.length_cons, List.length_nil]
    rw [if_neg (by omega)]
    simp (disch := omega) only [r117_361, r117_363, r117_365, r117_367, r117_368, r117_369, r117_370, r117_371, r117_372, r117_374, r117_376, r117_378, sw_ldi, sw_ldl, sw_lda, sw_has1, sw_i1, sw_i2, sw_l1, sw_l2, sw_li, sw_r1, sw_ri, sw_rix, sw_rv, sw_pop, sw_set1, sw_set2, List.set_cons_zero, List.set_cons_succ, List.getElem?_cons_zero, List.getElem?_cons_succ, ald_1, ald_2, ast_1, ast_2, aln_1, aln_2, gf_1, gf_2, pf_1, pf_2, nw_1, ck_0, ck_1, ck_2, ck_3, ck_4, rr_1, rc_1, rc_2, K_i, K_l, K_v, I_add, I_sub, I_mul, I_div, I_em, I_eq0, I_lt0, I_0lt, I_le0, I_0le, I_eq, I_lt, I_le, I_a1, I_r1, I_eq1, I32_at, I32_s, Int.toNat_natCast, List.set_cons_zero, reduceCtorEq, not_false_eq_true, not_true_eq_false, false_and, true_and, and_true, and_false, false_or, true_or, or_true, or_false, if_true, if_false, eq_self, ↓reduceIte, Int.reduceEq, Int.reduceLT, Int.reduceLE, Int.reduceAdd, Int.reduceSub, Int.reduceMul, Int.reduceNeg, Int.reduceToNat, Nat.reduceLT, Nat.reduceAdd, Nat.reduceEqDiff, List.length_cons, List.length_nil, HC_a]
    rw [show (20 : Int) + (c : Int) = ((20 + c : Nat) : Int) by omega]
    simp (disch := omega) only [r117_361, r117_363, r117_365, r117_367, r117_368, r117_369, r117_370, r117_371, r117_372, r117_374, r117_376, r117_378, sw_ldi, sw_ldl, sw_lda, sw_has1, sw_i1, sw_i2, sw_l1, sw_l2, sw_li, sw_r1, sw_ri, sw_rix, sw_rv, sw_pop, sw_set1, sw_set2, List.set_cons_zero, List.set_cons_succ, List.getElem?_cons_zero, List.getElem?_cons_succ, ald_1, ald_2, ast_1, ast_2, aln_1, aln_2, gf_1, gf_2, pf_1, pf_2, nw_1, ck_0, ck_1, ck_2, ck_3, ck_4, rr_1, rc_1, rc_2, K_i, K_l, K_v, I_add, I_sub, I_mul, I_div, I_em, I_eq0, I_lt0, I_0lt, I_le0, I_0le, I_eq, I_lt, I_le, I_a1, I_r1, I_eq1, I32_at, I32_s, Int.toNat_natCast, List.set_cons_zero, reduceCtorEq, not_false_eq_true, not_true_eq_false, false_and, true_and, and_true, and_false, false_or, true_or, or_true, or_false, if_true, if_false, eq_self, ↓reduceIte, Int.reduceEq, Int.reduceLT, Int.reduceLE, Int.reduceAdd, Int.reduceSub, Int.reduceMul, Int.reduceNeg, Int.reduceToNat, Nat.reduceLT, Nat.reduceAdd, Nat.reduceEqDiff, List.length_cons, List.length_nil, HC_a]
    rw [r117_380]
    simp (disch := omega) only [sw_ldi, sw_ldl, sw_lda, sw_has1, sw_i1, sw_i2, sw_l1, sw_l2, sw_li, sw_r1, sw_ri, sw_rix, sw_rv, sw_pop, sw_set1, sw_set2, List.set_cons_zero, List.set_cons_succ, List.getElem?_cons_zero, List.getElem?_cons_succ, ald_1, ald_2, ast_1, ast_2, aln_1, aln_2, gf_1, gf_2, pf_1, pf_2, nw_1, ck_0, ck_1, ck_2, ck_3, ck_4, rr_1, rc_1, rc_2, K_i, K_l, K_v, I_add, I_sub, I_mul, I_div, I_em, I_eq0, I_lt0, I_0lt, I_le0, I_0le, I_eq, I_lt, I_le, I_a1, I_r1, I_eq1, I32_at, I32_s, Int.toNat_natCast, List.set_cons_zero, reduceCtorEq, not_false_eq_true, not_true_eq_false, false_and, true_and, and_true, and_false, false_or, true_or, or_true, or_false, if_true, if_false, eq_self, ↓reduceIte, Int.reduceEq, Int.reduceLT, Int.reduceLE, Int.reduceAdd, Int.reduceSub, Int.reduceMul, Int.reduceNeg, Int.reduceToNat, Nat.reduceLT, Nat.reduceAdd, Nat.reduceEqDiff, List.length_cons, List.length_nil]
    rw [show (25 : Int) + (c : Int) = ((25 + c : Nat) : Int) by omega]
    simp (disch := omega) only [r117_381, sw_ldi, sw_ldl, sw_lda, sw_has1, sw_i1, sw_i2, sw_l1, sw_l2, sw_li, sw_r1, sw_ri, sw_rix, sw_rv, sw_pop, sw_set1, sw_set2, List.set_cons_zero, List.set_cons_succ, List.getElem?_cons_zero, List.getElem?_cons_succ, ald_1, ald_2, ast_1, ast_2, aln_1, aln_2, gf_1, gf_2, pf_1, pf_2, nw_1, ck_0, ck_1, ck_2, ck_3, ck_4, rr_1, rc_1, rc_2, K_i, K_l, K_v, I_add, I_sub, I_mul, I_div, I_em, I_eq0, I_lt0, I_0lt, I_le0, I_0le, I_eq, I_lt, I_le, I_a1, I_r1, I_eq1, I32_at, I32_s, Int.toNat_natCast, List.set_cons_zero, reduceCtorEq, not_false_eq_true, not_true_eq_false, false_and, true_and, and_true, and_false, false_or, true_or, or_true, or_false, if_true, if_false, eq_self, ↓reduceIte, Int.reduceEq, Int.reduceLT, Int.reduceLE, Int.reduceAdd, Int.reduceSub, Int.reduceMul, Int.reduceNeg, Int.reduceToNat, Nat.reduceLT, Nat.reduceAdd, Nat.reduceEqDiff, List.length_cons, List.length_nil]
    rw [h82]
    rcases o with o | o
    · rw [o] at ih ⊢
      simp (disch := omega) only [r117_384, r117_387, r117_388, r117_391, r117_392, r117_393, r117_395, r117_397, r117_399, sw_ldi, sw_ldl, sw_lda, sw_has1, sw_i1, sw_i2, sw_l1, sw_l2, sw_li, sw_r1, sw_ri, sw_rix, sw_rv, sw_pop, sw_set1, sw_set2, List.set_cons_zero, List.set_cons_succ, List.getElem?_cons_zero, List.getElem?_cons_succ, ald_1, ald_2, ast_1, ast_2, aln_1, aln_2, gf_1, gf_2, pf_1, pf_2, nw_1, ck_0, ck_1, ck_2, ck_3, ck_4, rr_1, rc_1, rc_2, K_i, K_l, K_v, I_add, I_sub, I_mul, I_div, I_em, I_eq0, I_lt0, I_0lt, I_le0, I_0le, I_eq, I_lt, I_le, I_a1, I_r1, I_eq1, I32_at, I32_s, Int.toNat_natCast, List.set_cons_zero, reduceCtorEq, not_false_eq_true, not_true_eq_false, false_and, true_and, and_true, and_false, false_or, true_or, or_true, or_false, if_true, if_false, eq_self, ↓reduceIte, Int.reduceEq, Int.reduceLT, Int.reduceLE, Int.reduceAdd, Int.reduceSub, Int.reduceMul, Int.reduceNeg, Int.reduceToNat, Nat.reduceLT, Nat.reduceAdd, Nat.reduceEqDiff, List.length_cons, List.length_nil]
      by_cases q : far (20 + c) + 0 < v
      · rw [if_pos q] at ih
        rw [if_neg (by omega)]
        simp (disch := omega) only [r117_402, r117_404, r117_406, r117_409, sw_ldi, sw_ldl, sw_lda, sw_has1, sw_i1, sw_i2, sw_l1, sw_l2, sw_li, sw_r1, sw_ri, sw_rix, sw_rv, sw_pop, sw_set1, sw_set2, List.set_cons_zero, List.set_cons_succ, List.getElem?_cons_zero, List.getElem?_cons_succ, ald_1, ald_2, ast_1, ast_2, aln_1, aln_2, gf_1, gf_2, pf_1, pf_2, nw_1, ck_0, ck_1, ck_2, ck_3, ck_4, rr_1, rc_1, rc_2, K_i, K_l, K_v, I_add, I_sub, I_mul, I_div, I_em, I_eq0, I_lt0, I_0lt, I_le0, I_0le, I_eq, I_lt, I_le, I_a1, I_r1, I_eq1, I32_at, I32_s, Int.toNat_natCast, List.set_cons_zero, reduceCtorEq, not_false_eq_true, not_true_eq_false, false_and, true_and, and_true, and_false, false_or, true_or, or_true, or_false, if_true, if_false, eq_self, ↓reduceIte, Int.reduceEq, Int.reduceLT, Int.reduceLE, Int.reduceAdd, Int.reduceSub, Int.reduceMul, Int.reduceNeg, Int.reduceToNat, Nat.reduceLT, Nat.reduceAdd, Nat.reduceEqDiff, List.length_cons, List.length_nil]
        exact ih
      · rw [if_neg q] at ih
        rw [if_pos (by omega)]
        simp (disch := omega) only [r117_406, r117_409, sw_ldi, sw_ldl, sw_lda, sw_has1, sw_i1, sw_i2, sw_l1, sw_l2, sw_li, sw_r1, sw_ri, sw_rix, sw_rv, sw_pop, sw_set1, sw_set2, List.set_cons_zero, List.set_cons_succ, List.getElem?_cons_zero, List.getElem?_cons_succ, ald_1, ald_2, ast_1, ast_2, aln_1, aln_2, gf_1, gf_2, pf_1, pf_2, nw_1, ck_0, ck_1, ck_2, ck_3, ck_4, rr_1, rc_1, rc_2, K_i, K_l, K_v, I_add, I_sub, I_mul, I_div, I_em, I_eq0, I_lt0, I_0lt, I_le0, I_0le, I_eq, I_lt, I_le, I_a1, I_r1, I_eq1, I32_at, I32_s, Int.toNat_natCast, List.set_cons_zero, reduceCtorEq, not_false_eq_true, not_true_eq_false, false_and, true_and, and_true, and_false, false_or, true_or, or_true, or_false, if_true, if_false, eq_self, ↓reduceIte, Int.reduceEq, Int.reduceLT, Int.reduceLE, Int.reduceAdd, Int.reduceSub, Int.reduceMul, Int.reduceNeg, Int.reduceToNat, Nat.reduceLT, Nat.reduceAdd, Nat.reduceEqDiff, List.length_cons, List.length_nil]
        exact ih
    · rw [o] at ih ⊢
      simp (disch := omega) only [r117_384, r117_387, r117_388, r117_391, r117_392, r117_393, r117_395, r117_397, r117_399, sw_ldi, sw_ldl, sw_lda, sw_has1, sw_i1, sw_i2, sw_l1, sw_l2, sw_li, sw_r1, sw_ri, sw_rix, sw_rv, sw_pop, sw_set1, sw_set2, List.set_cons_zero, List.set_cons_succ, List.getElem?_cons_zero, List.getElem?_cons_succ, ald_1, ald_2, ast_1, ast_2, aln_1, aln_2, gf_1, gf_2, pf_1, pf_2, nw_1, ck_0, ck_1, ck_2, ck_3, ck_4, rr_1, rc_1, rc_2, K_i, K_l, K_v, I_add, I_sub, I_mul, I_div, I_em, I_eq0, I_lt0, I_0lt, I_le0, I_0le, I_eq, I_lt, I_le, I_a1, I_r1, I_eq1, I32_at, I32_s, Int.toNat_natCast, List.set_cons_zero, reduceCtorEq, not_false_eq_true, not_true_eq_false, false_and, true_and, and_true, and_false, false_or, true_or, or_true, or_false, if_true, if_false, eq_self, ↓reduceIte, Int.reduceEq, Int.reduceLT, Int.reduceLE, Int.reduceAdd, Int.reduceSub, Int.reduceMul, Int.reduceNeg, Int.reduceToNat, Nat.reduceLT, Nat.reduceAdd, Nat.reduceEqDiff, List.length_cons, List.length_nil]
      by_cases q : far (20 + c) + 1 < v
      · rw [if_pos q] at ih
        rw [if_neg (by omega)]
        simp (disch := omega) only [r117_402, r117_404, r117_406, r117_409, sw_ldi, sw_ldl, sw_lda, sw_has1, sw_i1, sw_i2, sw_l1, sw_l2, sw_li, sw_r1, sw_ri, sw_rix, sw_rv, sw_pop, sw_set1, sw_set2, List.set_cons_zero, List.set_cons_succ, List.getElem?_cons_zero, List.getElem?_cons_succ, ald_1, ald_2, ast_1, ast_2, aln_1, aln_2, gf_1, gf_2, pf_1, pf_2, nw_1, ck_0, ck_1, ck_2, ck_3, ck_4, rr_1, rc_1, rc_2, K_i, K_l, K_v, I_add, I_sub, I_mul, I_div, I_em, I_eq0, I_lt0, I_0lt, I_le0, I_0le, I_eq, I_lt, I_le, I_a1, I_r1, I_eq1, I32_at, I32_s, Int.toNat_natCast, List.set_cons_zero, reduceCtorEq, not_false_eq_true, not_true_eq_false, false_and, true_and, and_true, and_false, false_or, true_or, or_true, or_false, if_true, if_false, eq_self, ↓reduceIte, Int.reduceEq, Int.reduceLT, Int.reduceLE, Int.reduceAdd, Int.reduceSub, Int.reduceMul, Int.reduceNeg, Int.reduceToNat, Nat.reduceLT, Nat.reduceAdd, Nat.reduceEqDiff, List.length_cons, List.length_nil]
        exact ih
      · rw [if_neg q] at ih
        rw [if_pos (by omega)]
        simp (disch := omega) only [r117_406, r117_409, sw_ldi, sw_ldl, sw_lda, sw_has1, sw_i1, sw_i2, sw_l1, sw_l2, sw_li, sw_r1, sw_ri, sw_rix, sw_rv, sw_pop, sw_set1, sw_set2, List.set_cons_zero, List.set_cons_succ, List.getElem?_cons_zero, List.getElem?_cons_succ, ald_1, ald_2, ast_1, ast_2, aln_1, aln_2, gf_1, gf_2, pf_1, pf_2, nw_1, ck_0, ck_1, ck_2, ck_3, ck_4, rr_1, rc_1, rc_2, K_i, K_l, K_v, I_add, I_sub, I_mul, I_div, I_em, I_eq0, I_lt0, I_0lt, I_le0, I_0le, I_eq, I_lt, I_le, I_a1, I_r1, I_eq1, I32_at, I32_s, Int.toNat_natCast, List.set_cons_zero, reduceCtorEq, not_false_eq_true, not_true_eq_false, false_and, true_and, and_true, and_false, false_or, true_or, or_true, or_false, if_true, if_false, eq_self, ↓reduceIte, Int.reduceEq, Int.reduceLT, Int.reduceLE, Int.reduceAdd, Int.reduceSub, Int.reduceMul, Int.reduceNeg, Int.reduceToNat, Nat.reduceLT, Nat.reduceAdd, Nat.reduceEqDiff, List.length_cons, List.length_nil]
        exact ih
theorem m117_i {f0 : Nat → Int} (hob : ∀ b, b < 60 → ob b = 0 ∨ ob b = 1) (h81 : L81 H rb rs a shut k p ob) : ∀ (n j : Nat), j + n = 25 → sw_A 117 9 [some (.ref rb), some (.ref rs), some (.long shut), none, some (.int (Int32.ofInt k)), some (.int (Int32.ofInt p)), some (.ref a), some (.int (Int32.ofInt j)), none, none, none, none, none, none, none, none] [] (HC H a (mix j (fun k => if k < 5 then ob k else 99) f0)) Q = sw_A 117 61 [some (.ref rb), some (.ref rs), some (.long shut), none, some (.int (Int32.ofInt k)), some (.int (Int32.ofInt p)), some (.ref a), some (.int (Int32.ofInt 1)), none, none, none, none, none, none, none, none] [] (HC H a (mix 25 (fun k => if k < 5 then ob k else 99) f0)) Q
  | 0, j, hn => by
    have e : j = 25 := hn
    subst e
    rw [r117_9]
    simp (disch := omega) only [r117_11, r117_13, r117_58, r117_59, sw_ldi, sw_ldl, sw_lda, sw_has1, sw_i1, sw_i2, sw_l1, sw_l2, sw_li, sw_r1, sw_ri, sw_rix, sw_rv, sw_pop, sw_set1, sw_set2, List.set_cons_zero, List.set_cons_succ, List.getElem?_cons_zero, List.getElem?_cons_succ, ald_1, ald_2, ast_1, ast_2, aln_1, aln_2, gf_1, gf_2, pf_1, pf_2, nw_1, ck_0, ck_1, ck_2, ck_3, ck_4, rr_1, rc_1, rc_2, K_i, K_l, K_v, I_add, I_sub, I_mul, I_div, I_em, I_eq0, I_lt0, I_0lt, I_le0, I_0le, I_eq, I_lt, I_le, I_a1, I_r1, I_eq1, I32_at, I32_s, Int.toNat_natCast, List.set_cons_zero, reduceCtorEq, not_false_eq_true, not_true_eq_false, false_and, true_and, and_true, and_false, false_or, true_or, or_true, or_false, if_true, if_false, eq_self, ↓reduceIte, Int.reduceEq, Int.reduceLT, Int.reduceLE, Int.reduceAdd, Int.reduceSub, Int.reduceMul, Int.reduceNeg, Int.reduceToNat, Nat.reduceLT, Nat.reduceAdd, Nat.reduceEqDiff, List.length_cons, List.length_nil, Int.le_refl]
    rfl
  | n + 1, j, hn => by
    have ih := m117_i (f0 := f0) hob h81 n (j + 1) (by omega)
    have a0 := h81.1
    have up : ∀ v, (if j < 5 then ob j else 99) = v → sw_s (mix j (fun k => if k < 5 then ob k else 99) f0) j v = mix (j + 1) (fun k => if k < 5 then ob k else 99) f0 := fun v h => mix_up (f := fun k => if k < 5 then ob k else 99) h
    rw [r117_9]
    simp (disch := omega) only [r117_11, r117_13, r117_16, r117_18, r117_20, r117_22, r117_23, sw_ldi, sw_ldl, sw_lda, sw_has1, sw_i1, sw_i2, sw_l1, sw_l2, sw_li, sw_r1, sw_ri, sw_rix, sw_rv, sw_pop, sw_set1, sw_set2, List.set_cons_zero, List.set_cons_succ, List.getElem?_cons_zero, List.getElem?_cons_succ, ald_1, ald_2, ast_1, ast_2, aln_1, aln_2, gf_1, gf_2, pf_1, pf_2, nw_1, ck_0, ck_1, ck_2, ck_3, ck_4, rr_1, rc_1, rc_2, K_i, K_l, K_v, I_add, I_sub, I_mul, I_div, I_em, I_eq0, I_lt0, I_0lt, I_le0, I_0le, I_eq, I_lt, I_le, I_a1, I_r1, I_eq1, I32_at, I32_s, Int.toNat_natCast, List.set_cons_zero, reduceCtorEq, not_false_eq_true, not_true_eq_false, false_and, true_and, and_true, and_false, false_or, true_or, or_true, or_false, if_true, if_false, eq_self, ↓reduceIte, Int.reduceEq, Int.reduceLT, Int.reduceLE, Int.reduceAdd, Int.reduceSub, Int.reduceMul, Int.reduceNeg, Int.reduceToNat, Nat.reduceLT, Nat.reduceAdd, Nat.reduceEqDiff, List.length_cons, List.length_nil]
    rw [if_neg (by omega)]
    by_cases c : j < 5
    · have h82 := fun Q => h81.2 (mix j (fun k => if k < 5 then ob k else 99) f0) j Q (by omega)
      have o := hob j (by omega)
      rw [if_neg (by omega)]
      simp (disch := omega) only [r117_26, r117_27, r117_28, r117_29, r117_31, r117_33, r117_35, sw_ldi, sw_ldl, sw_lda, sw_has1, sw_i1, sw_i2, sw_l1, sw_l2, sw_li, sw_r1, sw_ri, sw_rix, sw_rv, sw_pop, sw_set1, sw_set2, List.set_cons_zero, List.set_cons_succ, List.getElem?_cons_zero, List.getElem?_cons_succ, ald_1, ald_2, ast_1, ast_2, aln_1, aln_2, gf_1, gf_2, pf_1, pf_2, nw_1, ck_0, ck_1, ck_2, ck_3, ck_4, rr_1, rc_1, rc_2, K_i, K_l, K_v, I_add, I_sub, I_mul, I_div, I_em, I_eq0, I_lt0, I_0lt, I_le0, I_0le, I_eq, I_lt, I_le, I_a1, I_r1, I_eq1, I32_at, I32_s, Int.toNat_natCast, List.set_cons_zero, reduceCtorEq, not_false_eq_true, not_true_eq_false, false_and, true_and, and_true, and_false, false_or, true_or, or_true, or_false, if_true, if_false, eq_self, ↓reduceIte, Int.reduceEq, Int.reduceLT, Int.reduceLE, Int.reduceAdd, Int.reduceSub, Int.reduceMul, Int.reduceNeg, Int.reduceToNat, Nat.reduceLT, Nat.reduceAdd, Nat.reduceEqDiff, List.length_cons, List.length_nil]
      rw [h82]
      rcases o with o | o
      · rw [o]
        simp (disch := omega) only [r117_38, r117_41, r117_42, r117_45, r117_46, r117_49, r117_51, r117_52, r117_55, sw_ldi, sw_ldl, sw_lda, sw_has1, sw_i1, sw_i2, sw_l1, sw_l2, sw_li, sw_r1, sw_ri, sw_rix, sw_rv, sw_pop, sw_set1, sw_set2, List.set_cons_zero, List.set_cons_succ, List.getElem?_cons_zero, List.getElem?_cons_succ, ald_1, ald_2, ast_1, ast_2, aln_1, aln_2, gf_1, gf_2, pf_1, pf_2, nw_1, ck_0, ck_1, ck_2, ck_3, ck_4, rr_1, rc_1, rc_2, K_i, K_l, K_v, I_add, I_sub, I_mul, I_div, I_em, I_eq0, I_lt0, I_0lt, I_le0, I_0le, I_eq, I_lt, I_le, I_a1, I_r1, I_eq1, I32_at, I32_s, Int.toNat_natCast, List.set_cons_zero, reduceCtorEq, not_false_eq_true, not_true_eq_false, false_and, true_and, and_true, and_false, false_or, true_or, or_true, or_false, if_true, if_false, eq_self, ↓reduceIte, Int.reduceEq, Int.reduceLT, Int.reduceLE, Int.reduceAdd, Int.reduceSub, Int.reduceMul, Int.reduceNeg, Int.reduceToNat, Nat.reduceLT, Nat.reduceAdd, Nat.reduceEqDiff, List.length_cons, List.length_nil, HC_a, HC_w]
        rw [up 0 (by rw [if_pos c, o])]
        exact ih
      · rw [o]
        simp (disch := omega) only [r117_38, r117_41, r117_42, r117_45, r117_46, r117_49, r117_51, r117_52, r117_55, sw_ldi, sw_ldl, sw_lda, sw_has1, sw_i1, sw_i2, sw_l1, sw_l2, sw_li, sw_r1, sw_ri, sw_rix, sw_rv, sw_pop, sw_set1, sw_set2, List.set_cons_zero, List.set_cons_succ, List.getElem?_cons_zero, List.getElem?_cons_succ, ald_1, ald_2, ast_1, ast_2, aln_1, aln_2, gf_1, gf_2, pf_1, pf_2, nw_1, ck_0, ck_1, ck_2, ck_3, ck_4, rr_1, rc_1, rc_2, K_i, K_l, K_v, I_add, I_sub, I_mul, I_div, I_em, I_eq0, I_lt0, I_0lt, I_le0, I_0le, I_eq, I_lt, I_le, I_a1, I_r1, I_eq1, I32_at, I32_s, Int.toNat_natCast, List.set_cons_zero, reduceCtorEq, not_false_eq_true, not_true_eq_false, false_and, true_and, and_true, and_false, false_or, true_or, or_true, or_false, if_true, if_false, eq_self, ↓reduceIte, Int.reduceEq, Int.reduceLT, Int.reduceLE, Int.reduceAdd, Int.reduceSub, Int.reduceMul, Int.reduceNeg, Int.reduceToNat, Nat.reduceLT, Nat.reduceAdd, Nat.reduceEqDiff, List.length_cons, List.length_nil, HC_a, HC_w]
        rw [up 1 (by rw [if_pos c, o])]
        exact ih
    · rw [if_pos (by omega)]
      simp (disch := omega) only [r117_49, r117_51, r117_52, r117_55, sw_ldi, sw_ldl, sw_lda, sw_has1, sw_i1, sw_i2, sw_l1, sw_l2, sw_li, sw_r1, sw_ri, sw_rix, sw_rv, sw_pop, sw_set1, sw_set2, List.set_cons_zero, List.set_cons_succ, List.getElem?_cons_zero, List.getElem?_cons_succ, ald_1, ald_2, ast_1, ast_2, aln_1, aln_2, gf_1, gf_2, pf_1, pf_2, nw_1, ck_0, ck_1, ck_2, ck_3, ck_4, rr_1, rc_1, rc_2, K_i, K_l, K_v, I_add, I_sub, I_mul, I_div, I_em, I_eq0, I_lt0, I_0lt, I_le0, I_0le, I_eq, I_lt, I_le, I_a1, I_r1, I_eq1, I32_at, I32_s, Int.toNat_natCast, List.set_cons_zero, reduceCtorEq, not_false_eq_true, not_true_eq_false, false_and, true_and, and_true, and_false, false_or, true_or, or_true, or_false, if_true, if_false, eq_self, ↓reduceIte, Int.reduceEq, Int.reduceLT, Int.reduceLE, Int.reduceAdd, Int.reduceSub, Int.reduceMul, Int.reduceNeg, Int.reduceToNat, Nat.reduceLT, Nat.reduceAdd, Nat.reduceEqDiff, List.length_cons, List.length_nil, HC_a, HC_w]
      rw [up 99 (by rw [if_neg c])]
      exact ih
/-- cheapest -/
theorem m117 {op : Nat → Int} (hob : ∀ b, b < 60 → ob b = 0 ∨ ob b = 1) (hoe : ∀ b, b < 60 → ob b = 1 → op (lo b) = 1 ∧ op (hi b) = 1) (hco : ∀ b, b < 60 → ld nb ns shut k p (b : Nat) = ob b) (hb0 : H.1 rb = .inr (0, 60, I32 nb)) (hs0 : H.1 rs = .inr (0, 36, I32 ns)) (r1 : rb < H.2.1) (r2 : rs < H.2.1) (nb1 : ∀ i, i < 60 → 0 ≤ nb i ∧ nb i < 1000) (ns1 : ∀ i, i < 36 → 0 ≤ ns i ∧ ns i < 1000) (k0 : 0 ≤ k) (k1 : k ≤ 2) (p0 : -1 ≤ p) (p1 : p ≤ 1000) : ∃ (w : Int) (c : sw_Ce), CH ob op w ∧ 0 ≤ w ∧ w ≤ 99 ∧ sw_M 117 [.ref rb, .ref rs, .long shut, .int (Int32.ofInt k), .int (Int32.ofInt p)] H Q = Q (some (some (.int (Int32.ofInt w)))) (sw_mk H c 25) := by
  have h81 : L81 (sw_mk H (.inr (0, 25, I32 fun _ => 0)) 25) rb rs H.2.1 shut k p ob := ⟨by omega, fun f b Q hb2 => by
    rw [← hco b hb2]
    refine m81 ?_ ?_ nb1 ns1 k0 k1 p0 p1 (by omega) (by omega)
    · rw [← hb0]
      show (if rb = H.2.1 then _ else if rb = H.2.1 then _ else H.1 rb) = _
      rw [if_neg (by omega), if_neg (by omega)]
    · rw [← hs0]
      show (if rs = H.2.1 then _ else if rs = H.2.1 then _ else H.1 rs) = _
      rw [if_neg (by omega), if_neg (by omega)]⟩
  have mk : ∀ f, HC (sw_mk H (.inr (0, 25, I32 fun _ => 0)) 25) H.2.1 f = sw_mk H (.inr (0, 25, I32 f)) 25 := fun f => by
    refine Prod.ext (funext fun j => ?_) rfl
    show (if j = H.2.1 then _ else if j = H.2.1 then _ else H.1 j) = if j = H.2.1 then _ else H.1 j
    split <;> rfl
  have m0 : ∀ f : Nat → Int, mix 0 f (fun _ => 0) = fun _ => 0 := fun f => mix_0 f _
  have s1 := m117_i (Q := Q) (f0 := fun _ => 0) hob h81 25 0 (by omega)
  have n1 : 0 ≤ su (mix 25 (fun k => if k < 5 then ob k else 99) fun _ => 0) 25 := (su_z 25 fun i hi => by
    rw [mix_at hi]
    split
    · have := hob i (by omega); omega
    · decide).1
  obtain ⟨far2, far3, y8, y9, y10, y11, y12, y13, y14, y15, g1, g2, g3⟩ := m117_w (Q := Q) hob h81 (su (mix 25 (fun k => if k < 5 then ob k else 99) fun _ => 0) 25).toNat (mix 25 (fun k => if k < 5 then ob k else 99) fun _ => 0) (fun _ => 100) 1 none none none none none none none none (by omega) (PV_0 hob _ (by
    have : su (fun k => if k < 5 then ob k else 99) 25 ≤ su (fun _ => 99) 25 := su_le 25 fun i hi => by
      split
      · have := hob i (by omega); omega
      · omega
    have e1 : su (fun _ => (99 : Int)) 25 = 2475 := by decide
    have e2 : su (fun _ => (100 : Int)) 25 = 2500 := by decide
    omega) fun i hi => mix_at hi) (fun q => absurd q (by decide))
  obtain ⟨c1, c2, c3⟩ := PV_CH hob hoe g1 g2
  have s2 := m117_b (Q := Q) g1.1 hob h81 5 0 (Int32.ofInt 0) y10 y11 y12 y13 y14 y15 (by omega)
  refine ⟨mnb ob far2 5, .inr (0, 25, I32 far2), c1, c2, c3, ?_⟩
  rw [← mk far2]
  refine Eq.trans ?_ (Eq.trans s1 (Eq.trans g3 (Eq.trans ?_ s2)))
  · rw [e117]
    simp (disch := omega) only [r117_0, r117_2, r117_4, r117_6, r117_7, sw_ldi, sw_ldl, sw_lda, sw_has1, sw_i1, sw_i2, sw_l1, sw_l2, sw_li, sw_r1, sw_ri, sw_rix, sw_rv, sw_pop, sw_set1, sw_set2, List.set_cons_zero, List.set_cons_succ, List.getElem?_cons_zero, List.getElem?_cons_succ, ald_1, ald_2, ast_1, ast_2, aln_1, aln_2, gf_1, gf_2, pf_1, pf_2, nw_1, ck_0, ck_1, ck_2, ck_3, ck_4, rr_1, rc_1, rc_2, K_i, K_l, K_v, I_add, I_sub, I_mul, I_div, I_em, I_eq0, I_lt0, I_0lt, I_le0, I_0le, I_eq, I_lt, I_le, I_a1, I_r1, I_eq1, I32_at, I32_s, Int.toNat_natCast, List.set_cons_zero, reduceCtorEq, not_false_eq_true, not_true_eq_false, false_and, true_and, and_true, and_false, false_or, true_or, or_true, or_false, if_true, if_false, eq_self, ↓reduceIte, Int.reduceEq, Int.reduceLT, Int.reduceLE, Int.reduceAdd, Int.reduceSub, Int.reduceMul, Int.reduceNeg, Int.reduceToNat, Nat.reduceLT, Nat.reduceAdd, Nat.reduceEqDiff, List.length_cons, List.length_nil]
    rw [mk, m0]
    rfl
  · simp (disch := omega) only [r117_348, r117_350, r117_352, r117_353, sw_ldi, sw_ldl, sw_lda, sw_has1, sw_i1, sw_i2, sw_l1, sw_l2, sw_li, sw_r1, sw_ri, sw_rix, sw_rv, sw_pop, sw_set1, sw_set2, List.set_cons_zero, List.set_cons_succ, List.getElem?_cons_zero, List.getElem?_cons_succ, ald_1, ald_2, ast_1, ast_2, aln_1, aln_2, gf_1, gf_2, pf_1, pf_2, nw_1, ck_0, ck_1, ck_2, ck_3, ck_4, rr_1, rc_1, rc_2, K_i, K_l, K_v, I_add, I_sub, I_mul, I_div, I_em, I_eq0, I_lt0, I_0lt, I_le0, I_0le, I_eq, I_lt, I_le, I_a1, I_r1, I_eq1, I32_at, I32_s, Int.toNat_natCast, List.set_cons_zero, reduceCtorEq, not_false_eq_true, not_true_eq_false, false_and, true_and, and_true, and_false, false_or, true_or, or_true, or_false, if_true, if_false, eq_self, ↓reduceIte, Int.reduceEq, Int.reduceLT, Int.reduceLE, Int.reduceAdd, Int.reduceSub, Int.reduceMul, Int.reduceNeg, Int.reduceToNat, Nat.reduceLT, Nat.reduceAdd, Nat.reduceEqDiff, List.length_cons, List.length_nil]
    rfl
end sw_ch2
