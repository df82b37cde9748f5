/-! the search to its end, a way added, most ways, the cut -/
section sw_f2
variable {L : Nat} {A : Nat → Nat → Int} {F : Nat → Int} {T : Nat → sw_Ce} {X : Nat × Nat × Nat} {Q : sw_Ot → sw_HS → Prop}
theorem hF_hF {R C q R2 C2 q2 : Nat → Int} {h z h2 z2 : Int} : hF L (sw_s (sw_s (sw_s A 24 R) 25 C) 27 q) (sw_s (sw_s F 10 h) 11 z) T X R2 C2 q2 h2 z2 = hF L A F T X R2 C2 q2 h2 z2 := by
  unfold hF
  congr 1
  · funext j
    unfold sw_s
    (repeat' split) <;> first | rfl | contradiction
  · funext j
    unfold sw_s
    (repeat' split) <;> first | rfl | contradiction
/-- what a search tells -/
def SA (ob fl op R C q : Nat → Int) (z : Nat) (a : Int) : Prop := (a = -1 ∧ SI ob fl op R C q z z 0) ∨ ∃ (j h : Nat), j < z ∧ a = q j ∧ (q j).toNat % 6 = 5 ∧ SI ob fl op R C q z h 0
theorem os_2 {s : Int} (h0 : 0 ≤ s) (h1 : s < 36) : f_os s 2 = if s.toNat % 6 = 5 then 1 else 0 := by
  have e := (os_lr s.toNat (by omega)).2
  rw [show ((s.toNat : Nat) : Int) = s by omega] at e
  by_cases c : s.toNat % 6 = 5
  · rw [if_pos c]; exact e.mpr c
  · rw [if_neg c]
    rcases f_os_b s 2 with q | q
    · exact q
    · exact absurd (e.mp q) c
theorem m120_l (hob : ∀ b, b < 60 → A 18 b = 0 ∨ A 18 b = 1) (hfl : ∀ b, b < 60 → -1 ≤ A 23 b ∧ A 23 b ≤ 1) : ∀ (n h z : Nat) (R C q : Nat → Int) (x y w : Option Value), h + n = 36 → SI (A 18) (A 23) (A 17) R C q z h 0 → ∃ (R2 C2 q2 : Nat → Int) (h2 z2 : Nat) (a : Int), SA (A 18) (A 23) (A 17) R2 C2 q2 z2 a ∧ sw_A 120 7 [some (.ref 22), some (.ref 16), some (.int (Int32.ofInt h)), x, y, w] [] (hF L A F T X R C q h z) Q = Q (some (some (.int (Int32.ofInt a)))) (hF L A F T X R2 C2 q2 h2 z2)
  | n, h, z, R, C, q, x, y, w, hn, b => by
    have bz := SI_z b
    have hz := b.2.2.2.2.2.1
    have f10 : sw_s (sw_s F 10 (h : Int)) 11 (z : Int) 10 = h := rfl
    have f11 : sw_s (sw_s F 10 (h : Int)) 11 (z : Int) 11 = z := rfl
    have a27 : sw_s (sw_s (sw_s A 24 R) 25 C) 27 q 27 = q := rfl
    by_cases c : h < z
    · match n, hn with
      | 0, hn => omega
      | n + 1, hn =>
        have qh := b.2.1 h c
        have mm := m52_26 (L := L) (A := sw_s (sw_s (sw_s A 24 R) 25 C) 27 q) (F := sw_s (sw_s F 10 (h : Int)) 11 (z : Int)) (T := T) (X := X) (Q := sw_K 120 20 none [some (.ref 22), some (.ref 16), some (.int (Int32.ofInt h)), x, y, w] [] Q) (by rw [f11]; omega) (by rw [f10]; omega) (by rw [f10, f11]; omega)
        rw [f10, a27, Int.toNat_natCast] at mm
        have o2 := os_2 qh.1 qh.2.1
        by_cases c5 : (q h).toNat % 6 = 5
        · refine ⟨R, C, q, h + 1, z, q h, Or.inr ⟨h, h, c, rfl, c5, b⟩, ?_⟩
          rw [if_pos c5] at o2
          unfold hF
          rw [r120_7]
          simp (disch := omega) only [r120_8, r120_10, r120_13, r120_14, r120_17, sw_ldi, sw_ldl, sw_lda, sw_has1, sw_i1, sw_i2, sw_l1, sw_l2, sw_li, sw_r1, sw_ri, sw_rix, sw_rv, sw_pop, sw_set1, sw_set2, List.set_cons_zero, List.set_cons_succ, List.getElem?_cons_zero, List.getElem?_cons_succ, ald_1, ald_2, ast_1, ast_2, aln_1, aln_2, gf_1, gf_2, pf_1, pf_2, nw_1, ck_0, ck_1, ck_2, ck_3, ck_4, rr_1, rc_1, rc_2, K_i, K_l, K_v, I_add, I_sub, I_mul, I_div, I_em, I_eq0, I_lt0, I_0lt, I_le0, I_0le, I_eq, I_lt, I_le, I_a1, I_r1, I_eq1, I32_at, I32_s, Int.toNat_natCast, List.set_cons_zero, reduceCtorEq, not_false_eq_true, not_true_eq_false, false_and, true_and, and_true, and_false, false_or, true_or, or_true, or_false, if_true, if_false, eq_self, ↓reduceIte, Int.reduceEq, Int.reduceLT, Int.reduceLE, Int.reduceAdd, Int.reduceSub, Int.reduceMul, Int.reduceNeg, Int.reduceToNat, Nat.reduceLT, Nat.reduceAdd, Nat.reduceEqDiff, List.length_cons, List.length_nil, h_22, h_26]
          rw [if_neg (by omega), mm]
          simp (disch := omega) only [r120_20, r120_21, r120_22, r120_23, r120_26, r120_27, r120_28, r120_31, r120_34, r120_35, sw_ldi, sw_ldl, sw_lda, sw_has1, sw_i1, sw_i2, sw_l1, sw_l2, sw_li, sw_r1, sw_ri, sw_rix, sw_rv, sw_pop, sw_set1, sw_set2, List.set_cons_zero, List.set_cons_succ, List.getElem?_cons_zero, List.getElem?_cons_succ, ald_1, ald_2, ast_1, ast_2, aln_1, aln_2, gf_1, gf_2, pf_1, pf_2, nw_1, ck_0, ck_1, ck_2, ck_3, ck_4, rr_1, rc_1, rc_2, K_i, K_l, K_v, I_add, I_sub, I_mul, I_div, I_em, I_eq0, I_lt0, I_0lt, I_le0, I_0le, I_eq, I_lt, I_le, I_a1, I_r1, I_eq1, I32_at, I32_s, Int.toNat_natCast, List.set_cons_zero, reduceCtorEq, not_false_eq_true, not_true_eq_false, false_and, true_and, and_true, and_false, false_or, true_or, or_true, or_false, if_true, if_false, eq_self, ↓reduceIte, Int.reduceEq, Int.reduceLT, Int.reduceLE, Int.reduceAdd, Int.reduceSub, Int.reduceMul, Int.reduceNeg, Int.reduceToNat, Nat.reduceLT, Nat.reduceAdd, Nat.reduceEqDiff, List.length_cons, List.length_nil, sA_at, ss, sA_cm, m72, o2]
          rw [if_neg (by omega)]
          rfl
        · obtain ⟨R1, C1, q1, z1, x1, y1, g1, g2, g3, g4⟩ := m120_d (L := L) (F := F) (T := T) (X := X) (Q := Q) hob hfl (s := q h) 4 z 0 R C q w (by omega) (by omega) c rfl b
          obtain ⟨R2, C2, q2, h2, z2, a, k1, k2⟩ := m120_l hob hfl n (h + 1) z1 R1 C1 q1 (some (.int (Int32.ofInt (q h)))) x1 y1 (by omega) (SI_nx g1 g3 (by rw [g2]; exact c5))
          refine ⟨R2, C2, q2, h2, z2, a, k1, Eq.trans ?_ (Eq.trans g4 k2)⟩
          rw [if_neg c5] at o2
          unfold hF
          rw [r120_7]
          simp (disch := omega) only [r120_8, r120_10, r120_13, r120_14, r120_17, sw_ldi, sw_ldl, sw_lda, sw_has1, sw_i1, sw_i2, sw_l1, sw_l2, sw_li, sw_r1, sw_ri, sw_rix, sw_rv, sw_pop, sw_set1, sw_set2, List.set_cons_zero, List.set_cons_succ, List.getElem?_cons_zero, List.getElem?_cons_succ, ald_1, ald_2, ast_1, ast_2, aln_1, aln_2, gf_1, gf_2, pf_1, pf_2, nw_1, ck_0, ck_1, ck_2, ck_3, ck_4, rr_1, rc_1, rc_2, K_i, K_l, K_v, I_add, I_sub, I_mul, I_div, I_em, I_eq0, I_lt0, I_0lt, I_le0, I_0le, I_eq, I_lt, I_le, I_a1, I_r1, I_eq1, I32_at, I32_s, Int.toNat_natCast, List.set_cons_zero, reduceCtorEq, not_false_eq_true, not_true_eq_false, false_and, true_and, and_true, and_false, false_or, true_or, or_true, or_false, if_true, if_false, eq_self, ↓reduceIte, Int.reduceEq, Int.reduceLT, Int.reduceLE, Int.reduceAdd, Int.reduceSub, Int.reduceMul, Int.reduceNeg, Int.reduceToNat, Nat.reduceLT, Nat.reduceAdd, Nat.reduceEqDiff, List.length_cons, List.length_nil, h_22, h_26]
          rw [if_neg (by omega), mm]
          simp (disch := omega) only [r120_20, r120_21, r120_22, r120_23, r120_26, r120_27, r120_28, r120_31, sw_ldi, sw_ldl, sw_lda, sw_has1, sw_i1, sw_i2, sw_l1, sw_l2, sw_li, sw_r1, sw_ri, sw_rix, sw_rv, sw_pop, sw_set1, sw_set2, List.set_cons_zero, List.set_cons_succ, List.getElem?_cons_zero, List.getElem?_cons_succ, ald_1, ald_2, ast_1, ast_2, aln_1, aln_2, gf_1, gf_2, pf_1, pf_2, nw_1, ck_0, ck_1, ck_2, ck_3, ck_4, rr_1, rc_1, rc_2, K_i, K_l, K_v, I_add, I_sub, I_mul, I_div, I_em, I_eq0, I_lt0, I_0lt, I_le0, I_0le, I_eq, I_lt, I_le, I_a1, I_r1, I_eq1, I32_at, I32_s, Int.toNat_natCast, List.set_cons_zero, reduceCtorEq, not_false_eq_true, not_true_eq_false, false_and, true_and, and_true, and_false, false_or, true_or, or_true, or_false, if_true, if_false, eq_self, ↓reduceIte, Int.reduceEq, Int.reduceLT, Int.reduceLE, Int.reduceAdd, Int.reduceSub, Int.reduceMul, Int.reduceNeg, Int.reduceToNat, Nat.reduceLT, Nat.reduceAdd, Nat.reduceEqDiff, List.length_cons, List.length_nil, sA_at, ss, sA_cm, m72, o2]
          rw [if_neg (by omega)]
          simp (disch := omega) only [r120_36, r120_37, sw_ldi, sw_ldl, sw_lda, sw_has1, sw_i1, sw_i2, sw_l1, sw_l2, sw_li, sw_r1, sw_ri, sw_rix, sw_rv, sw_pop, sw_set1, sw_set2, List.set_cons_zero, List.set_cons_succ, List.getElem?_cons_zero, List.getElem?_cons_succ, ald_1, ald_2, ast_1, ast_2, aln_1, aln_2, gf_1, gf_2, pf_1, pf_2, nw_1, ck_0, ck_1, ck_2, ck_3, ck_4, rr_1, rc_1, rc_2, K_i, K_l, K_v, I_add, I_sub, I_mul, I_div, I_em, I_eq0, I_lt0, I_0lt, I_le0, I_0le, I_eq, I_lt, I_le, I_a1, I_r1, I_eq1, I32_at, I32_s, Int.toNat_natCast, List.set_cons_zero, reduceCtorEq, not_false_eq_true, not_true_eq_false, false_and, true_and, and_true, and_false, false_or, true_or, or_true, or_false, if_true, if_false, eq_self, ↓reduceIte, Int.reduceEq, Int.reduceLT, Int.reduceLE, Int.reduceAdd, Int.reduceSub, Int.reduceMul, Int.reduceNeg, Int.reduceToNat, Nat.reduceLT, Nat.reduceAdd, Nat.reduceEqDiff, List.length_cons, List.length_nil]
    · have e : h = z := by omega
      subst e
      have mm := m52_26_e (L := L) (A := sw_s (sw_s (sw_s A 24 R) 25 C) 27 q) (F := sw_s (sw_s F 10 (h : Int)) 11 (h : Int)) (T := T) (X := X) (Q := sw_K 120 20 none [some (.ref 22), some (.ref 16), some (.int (Int32.ofInt h)), x, y, w] [] Q) (by rw [f11]; omega) (by rw [f11]; omega) (by rw [f10]; omega) (by rw [f10, f11]; omega)
      refine ⟨R, C, q, h, h, -1, Or.inl ⟨rfl, b⟩, ?_⟩
      by_cases c36 : h = 36
      · subst c36
        rw [r120_7]
        simp (disch := omega) only [r120_8, r120_10, r120_122, r120_123, sw_ldi, sw_ldl, sw_lda, sw_has1, sw_i1, sw_i2, sw_l1, sw_l2, sw_li, sw_r1, sw_ri, sw_rix, sw_rv, sw_pop, sw_set1, sw_set2, List.set_cons_zero, List.set_cons_succ, List.getElem?_cons_zero, List.getElem?_cons_succ, ald_1, ald_2, ast_1, ast_2, aln_1, aln_2, gf_1, gf_2, pf_1, pf_2, nw_1, ck_0, ck_1, ck_2, ck_3, ck_4, rr_1, rc_1, rc_2, K_i, K_l, K_v, I_add, I_sub, I_mul, I_div, I_em, I_eq0, I_lt0, I_0lt, I_le0, I_0le, I_eq, I_lt, I_le, I_a1, I_r1, I_eq1, I32_at, I32_s, Int.toNat_natCast, List.set_cons_zero, reduceCtorEq, not_false_eq_true, not_true_eq_false, false_and, true_and, and_true, and_false, false_or, true_or, or_true, or_false, if_true, if_false, eq_self, ↓reduceIte, Int.reduceEq, Int.reduceLT, Int.reduceLE, Int.reduceAdd, Int.reduceSub, Int.reduceMul, Int.reduceNeg, Int.reduceToNat, Nat.reduceLT, Nat.reduceAdd, Nat.reduceEqDiff, List.length_cons, List.length_nil, Int.le_refl]
        rfl
      · unfold hF
        rw [r120_7]
        simp (disch := omega) only [r120_8, r120_10, r120_13, r120_14, r120_17, sw_ldi, sw_ldl, sw_lda, sw_has1, sw_i1, sw_i2, sw_l1, sw_l2, sw_li, sw_r1, sw_ri, sw_rix, sw_rv, sw_pop, sw_set1, sw_set2, List.set_cons_zero, List.set_cons_succ, List.getElem?_cons_zero, List.getElem?_cons_succ, ald_1, ald_2, ast_1, ast_2, aln_1, aln_2, gf_1, gf_2, pf_1, pf_2, nw_1, ck_0, ck_1, ck_2, ck_3, ck_4, rr_1, rc_1, rc_2, K_i, K_l, K_v, I_add, I_sub, I_mul, I_div, I_em, I_eq0, I_lt0, I_0lt, I_le0, I_0le, I_eq, I_lt, I_le, I_a1, I_r1, I_eq1, I32_at, I32_s, Int.toNat_natCast, List.set_cons_zero, reduceCtorEq, not_false_eq_true, not_true_eq_false, false_and, true_and, and_true, and_false, false_or, true_or, or_true, or_false, if_true, if_false, eq_self, ↓reduceIte, Int.reduceEq, Int.reduceLT, Int.reduceLE, Int.reduceAdd, Int.reduceSub, Int.reduceMul, Int.reduceNeg, Int.reduceToNat, Nat.reduceLT, Nat.reduceAdd, Nat.reduceEqDiff, List.length_cons, List.length_nil, h_22, h_26]
        rw [if_neg (by omega), mm]
        simp (disch := omega) only [r120_20, r120_21, r120_22, r120_23, r120_34, r120_35, sw_ldi, sw_ldl, sw_lda, sw_has1, sw_i1, sw_i2, sw_l1, sw_l2, sw_li, sw_r1, sw_ri, sw_rix, sw_rv, sw_pop, sw_set1, sw_set2, List.set_cons_zero, List.set_cons_succ, List.getElem?_cons_zero, List.getElem?_cons_succ, ald_1, ald_2, ast_1, ast_2, aln_1, aln_2, gf_1, gf_2, pf_1, pf_2, nw_1, ck_0, ck_1, ck_2, ck_3, ck_4, rr_1, rc_1, rc_2, K_i, K_l, K_v, I_add, I_sub, I_mul, I_div, I_em, I_eq0, I_lt0, I_0lt, I_le0, I_0le, I_eq, I_lt, I_le, I_a1, I_r1, I_eq1, I32_at, I32_s, Int.toNat_natCast, List.set_cons_zero, reduceCtorEq, not_false_eq_true, not_true_eq_false, false_and, true_and, and_true, and_false, false_or, true_or, or_true, or_false, if_true, if_false, eq_self, ↓reduceIte, Int.reduceEq, Int.reduceLT, Int.reduceLE, Int.reduceAdd, Int.reduceSub, Int.reduceMul, Int.reduceNeg, Int.reduceToNat, Nat.reduceLT, Nat.reduceAdd, Nat.reduceEqDiff, List.length_cons, List.length_nil, sA_at, ss, sA_cm]
/-- searchWay -/
theorem m120 (hop : ∀ i, i < 36 → A 17 i = 0 ∨ A 17 i = 1) (hob : ∀ b, b < 60 → A 18 b = 0 ∨ A 18 b = 1) (hfl : ∀ b, b < 60 → -1 ≤ A 23 b ∧ A 23 b ≤ 1) : ∃ (R C q : Nat → Int) (h z : Nat) (a : Int), SA (A 18) (A 23) (A 17) R C q z a ∧ sw_M 120 [.ref 22, .ref 16] (sw_h L A F T X) Q = Q (some (some (.int (Int32.ofInt a)))) (hF L A F T X R C q h z) := by
  obtain ⟨R1, C1, q1, z1, g1, g2⟩ := m118 (L := L) (A := A) (F := F) (T := T) (X := X) (Q := sw_K 120 5 none [some (.ref 22), some (.ref 16), none, none, none, none] [] Q) (ob := A 18) (fl := A 23) hop
  obtain ⟨R, C, q, h, z, a, k1, k2⟩ := m120_l (L := L) (F := F) (T := T) (X := X) (Q := Q) hob hfl 36 0 z1 R1 C1 q1 none none none (by omega) g1
  refine ⟨R, C, q, h, z, a, k1, Eq.trans ?_ k2⟩
  rw [e120]
  simp (disch := omega) only [r120_0, r120_1, r120_2, sw_ldi, sw_ldl, sw_lda, sw_has1, sw_i1, sw_i2, sw_l1, sw_l2, sw_li, sw_r1, sw_ri, sw_rix, sw_rv, sw_pop, sw_set1, sw_set2, List.set_cons_zero, List.set_cons_succ, List.getElem?_cons_zero, List.getElem?_cons_succ, ald_1, ald_2, ast_1, ast_2, aln_1, aln_2, gf_1, gf_2, pf_1, pf_2, nw_1, ck_0, ck_1, ck_2, ck_3, ck_4, rr_1, rc_1, rc_2, K_i, K_l, K_v, I_add, I_sub, I_mul, I_div, I_em, I_eq0, I_lt0, I_0lt, I_le0, I_0le, I_eq, I_lt, I_le, I_a1, I_r1, I_eq1, I32_at, I32_s, Int.toNat_natCast, List.set_cons_zero, reduceCtorEq, not_false_eq_true, not_true_eq_false, false_and, true_and, and_true, and_false, false_or, true_or, or_true, or_false, if_true, if_false, eq_self, ↓reduceIte, Int.reduceEq, Int.reduceLT, Int.reduceLE, Int.reduceAdd, Int.reduceSub, Int.reduceMul, Int.reduceNeg, Int.reduceToNat, Nat.reduceLT, Nat.reduceAdd, Nat.reduceEqDiff, List.length_cons, List.length_nil]
  rw [g2]
  simp (disch := omega) only [r120_5, r120_6, sw_ldi, sw_ldl, sw_lda, sw_has1, sw_i1, sw_i2, sw_l1, sw_l2, sw_li, sw_r1, sw_ri, sw_rix, sw_rv, sw_pop, sw_set1, sw_set2, List.set_cons_zero, List.set_cons_succ, List.getElem?_cons_zero, List.getElem?_cons_succ, ald_1, ald_2, ast_1, ast_2, aln_1, aln_2, gf_1, gf_2, pf_1, pf_2, nw_1, ck_0, ck_1, ck_2, ck_3, ck_4, rr_1, rc_1, rc_2, K_i, K_l, K_v, I_add, I_sub, I_mul, I_div, I_em, I_eq0, I_lt0, I_0lt, I_le0, I_0le, I_eq, I_lt, I_le, I_a1, I_r1, I_eq1, I32_at, I32_s, Int.toNat_natCast, List.set_cons_zero, reduceCtorEq, not_false_eq_true, not_true_eq_false, false_and, true_and, and_true, and_false, false_or, true_or, or_true, or_false, if_true, if_false, eq_self, ↓reduceIte, Int.reduceEq, Int.reduceLT, Int.reduceLE, Int.reduceAdd, Int.reduceSub, Int.reduceMul, Int.reduceNeg, Int.reduceToNat, Nat.reduceLT, Nat.reduceAdd, Nat.reduceEqDiff, List.length_cons, List.length_nil]
  rfl
theorem m121_l {ob fl op R C q : Nat → Int} {z h : Nat} {h9 z9 : Int} {e : Int32} (b : SI ob fl op R C q z h 0) : ∀ (m j : Nat) (i : Nat) (g : Nat → Int) (x : Option Value), j ≤ m → i + j ≤ 35 → j < z → PT ob fl C q g j → ∃ (g2 : Nat → Int) (r : Nat), r % 6 = 0 ∧ (∀ b, b < 60 → -ob b ≤ g2 b ∧ g2 b ≤ ob b) ∧ (∀ s, net g2 s = net g s + (dl s r - dl s (q j).toNat)) ∧ sw_A 121 4 [some (.ref 22), some (.int e), some (.int (Int32.ofInt (q j))), some (.int (Int32.ofInt i)), x] [] (hF L (sw_s A 23 g) F T X R C q h9 z9) Q = Q (some none) (hF L (sw_s A 23 g2) F T X R C q h9 z9)
  | m, j, i, g, x, hm, hi, hj, p => by
    have qj := b.2.1 j hj
    by_cases c : C (q j).toNat = -1
    · have cf := b.2.2.2.2.2.2.2.1 j hj
      have r0 : (q j).toNat % 6 = 0 := by
        rcases cf with ⟨-, c2⟩ | ⟨b, i, d1, d2, d3, -⟩
        · exact c2
        · omega
      refine ⟨g, (q j).toNat, r0, p.1, fun s => by omega, ?_⟩
      unfold hF
      rw [r121_4]
      simp (disch := omega) only [r121_5, r121_7, r121_10, r121_11, r121_14, r121_15, r121_16, r121_17, r121_80, sw_ldi, sw_ldl, sw_lda, sw_has1, sw_i1, sw_i2, sw_l1, sw_l2, sw_li, sw_r1, sw_ri, sw_rix, sw_rv, sw_pop, sw_set1, sw_set2, List.set_cons_zero, List.set_cons_succ, List.getElem?_cons_zero, List.getElem?_cons_succ, ald_1, ald_2, ast_1, ast_2, aln_1, aln_2, gf_1, gf_2, pf_1, pf_2, nw_1, ck_0, ck_1, ck_2, ck_3, ck_4, rr_1, rc_1, rc_2, K_i, K_l, K_v, I_add, I_sub, I_mul, I_div, I_em, I_eq0, I_lt0, I_0lt, I_le0, I_0le, I_eq, I_lt, I_le, I_a1, I_r1, I_eq1, I32_at, I32_s, Int.toNat_natCast, List.set_cons_zero, reduceCtorEq, not_false_eq_true, not_true_eq_false, false_and, true_and, and_true, and_false, false_or, true_or, or_true, or_false, if_true, if_false, eq_self, ↓reduceIte, Int.reduceEq, Int.reduceLT, Int.reduceLE, Int.reduceAdd, Int.reduceSub, Int.reduceMul, Int.reduceNeg, Int.reduceToNat, Nat.reduceLT, Nat.reduceAdd, Nat.reduceEqDiff, List.length_cons, List.length_nil, sA_at, ss, sA_cm, h_22, h_25, c]
      rw [if_neg (by omega)]
    · obtain ⟨c9, i2, d1, d2, d3, g1, g2, d4⟩ := TR_s b hj p c
      have l1 := (lo_lt d1).2
      have l2 := (hi_lt d1).2
      have q2 := b.2.1 i2 (by omega)
      match m, hm with
      | 0, hm => omega
      | m + 1, hm =>
        rcases d4 with ⟨e1, e2, e3, e4⟩ | ⟨e1, e2, e3, e4⟩
        · obtain ⟨g3, r, k1, k2, k3, k4⟩ := m121_l (e := e) b m i2 (i + 1) _ (some (.int (Int32.ofInt c9))) (by omega) (by omega) (by omega) e3
          refine ⟨g3, r, k1, k2, fun s => by rw [k3, e4]; omega, Eq.trans ?_ k4⟩
          rw [e1] at l2
          rw [e2] at l1
          unfold hF
          rw [r121_4]
          simp (disch := omega) only [r121_5, r121_7, r121_10, r121_11, r121_14, r121_15, r121_16, r121_17, sw_ldi, sw_ldl, sw_lda, sw_has1, sw_i1, sw_i2, sw_l1, sw_l2, sw_li, sw_r1, sw_ri, sw_rix, sw_rv, sw_pop, sw_set1, sw_set2, List.set_cons_zero, List.set_cons_succ, List.getElem?_cons_zero, List.getElem?_cons_succ, ald_1, ald_2, ast_1, ast_2, aln_1, aln_2, gf_1, gf_2, pf_1, pf_2, nw_1, ck_0, ck_1, ck_2, ck_3, ck_4, rr_1, rc_1, rc_2, K_i, K_l, K_v, I_add, I_sub, I_mul, I_div, I_em, I_eq0, I_lt0, I_0lt, I_le0, I_0le, I_eq, I_lt, I_le, I_a1, I_r1, I_eq1, I32_at, I32_s, Int.toNat_natCast, List.set_cons_zero, reduceCtorEq, not_false_eq_true, not_true_eq_false, false_and, true_and, and_true, and_false, false_or, true_or, or_true, or_false, if_true, if_false, eq_self, ↓reduceIte, Int.reduceEq, Int.reduceLT, Int.reduceLE, Int.reduceAdd, Int.reduceSub, Int.reduceMul, Int.reduceNeg, Int.reduceToNat, Nat.reduceLT, Nat.reduceAdd, Nat.reduceEqDiff, List.length_cons, List.length_nil, sA_at, ss, sA_cm, h_22, h_25, d3]
          rw [if_neg (by omega)]
          simp (disch := omega) only [r121_20, r121_21, r121_24, r121_25, r121_26, r121_28, r121_30, r121_33, r121_34, r121_37, r121_38, r121_41, r121_43, r121_44, r121_45, r121_46, r121_47, r121_48, r121_50, r121_53, r121_54, r121_57, r121_58, r121_61, r121_63, r121_64, r121_65, r121_66, r121_67, r121_68, r121_70, r121_73, r121_74, r121_77, sw_ldi, sw_ldl, sw_lda, sw_has1, sw_i1, sw_i2, sw_l1, sw_l2, sw_li, sw_r1, sw_ri, sw_rix, sw_rv, sw_pop, sw_set1, sw_set2, List.set_cons_zero, List.set_cons_succ, List.getElem?_cons_zero, List.getElem?_cons_succ, ald_1, ald_2, ast_1, ast_2, aln_1, aln_2, gf_1, gf_2, pf_1, pf_2, nw_1, ck_0, ck_1, ck_2, ck_3, ck_4, rr_1, rc_1, rc_2, K_i, K_l, K_v, I_add, I_sub, I_mul, I_div, I_em, I_eq0, I_lt0, I_0lt, I_le0, I_0le, I_eq, I_lt, I_le, I_a1, I_r1, I_eq1, I32_at, I32_s, Int.toNat_natCast, List.set_cons_zero, reduceCtorEq, not_false_eq_true, not_true_eq_false, false_and, true_and, and_true, and_false, false_or, true_or, or_true, or_false, if_true, if_false, eq_self, ↓reduceIte, Int.reduceEq, Int.reduceLT, Int.reduceLE, Int.reduceAdd, Int.reduceSub, Int.reduceMul, Int.reduceNeg, Int.reduceToNat, Nat.reduceLT, Nat.reduceAdd, Nat.reduceEqDiff, List.length_cons, List.length_nil, sA_at, ss, sA_cm, h_22, h_25, h_23, w_23, d3, lo85, m86, l1, l2]
          rfl
        · obtain ⟨g3, r, k1, k2, k3, k4⟩ := m121_l (e := e) b m i2 (i + 1) _ (some (.int (Int32.ofInt c9))) (by omega) (by omega) (by omega) e3
          refine ⟨g3, r, k1, k2, fun s => by rw [k3, e4]; omega, Eq.trans ?_ k4⟩
          have l3 : ¬ f_hi c9 = q j := by omega
          rw [e2] at l2
          unfold hF
          rw [r121_4]
          simp (disch := omega) only [r121_5, r121_7, r121_10, r121_11, r121_14, r121_15, r121_16, r121_17, sw_ldi, sw_ldl, sw_lda, sw_has1, sw_i1, sw_i2, sw_l1, sw_l2, sw_li, sw_r1, sw_ri, sw_rix, sw_rv, sw_pop, sw_set1, sw_set2, List.set_cons_zero, List.set_cons_succ, List.getElem?_cons_zero, List.getElem?_cons_succ, ald_1, ald_2, ast_1, ast_2, aln_1, aln_2, gf_1, gf_2, pf_1, pf_2, nw_1, ck_0, ck_1, ck_2, ck_3, ck_4, rr_1, rc_1, rc_2, K_i, K_l, K_v, I_add, I_sub, I_mul, I_div, I_em, I_eq0, I_lt0, I_0lt, I_le0, I_0le, I_eq, I_lt, I_le, I_a1, I_r1, I_eq1, I32_at, I32_s, Int.toNat_natCast, List.set_cons_zero, reduceCtorEq, not_false_eq_true, not_true_eq_false, false_and, true_and, and_true, and_false, false_or, true_or, or_true, or_false, if_true, if_false, eq_self, ↓reduceIte, Int.reduceEq, Int.reduceLT, Int.reduceLE, Int.reduceAdd, Int.reduceSub, Int.reduceMul, Int.reduceNeg, Int.reduceToNat, Nat.reduceLT, Nat.reduceAdd, Nat.reduceEqDiff, List.length_cons, List.length_nil, sA_at, ss, sA_cm, h_22, h_25, d3]
          rw [if_neg (by omega)]
          simp (disch := omega) only [r121_20, r121_21, r121_24, r121_25, r121_26, r121_28, r121_30, r121_33, r121_34, sw_ldi, sw_ldl, sw_lda, sw_has1, sw_i1, sw_i2, sw_l1, sw_l2, sw_li, sw_r1, sw_ri, sw_rix, sw_rv, sw_pop, sw_set1, sw_set2, List.set_cons_zero, List.set_cons_succ, List.getElem?_cons_zero, List.getElem?_cons_succ, ald_1, ald_2, ast_1, ast_2, aln_1, aln_2, gf_1, gf_2, pf_1, pf_2, nw_1, ck_0, ck_1, ck_2, ck_3, ck_4, rr_1, rc_1, rc_2, K_i, K_l, K_v, I_add, I_sub, I_mul, I_div, I_em, I_eq0, I_lt0, I_0lt, I_le0, I_0le, I_eq, I_lt, I_le, I_a1, I_r1, I_eq1, I32_at, I32_s, Int.toNat_natCast, List.set_cons_zero, reduceCtorEq, not_false_eq_true, not_true_eq_false, false_and, true_and, and_true, and_false, false_or, true_or, or_true, or_false, if_true, if_false, eq_self, ↓reduceIte, Int.reduceEq, Int.reduceLT, Int.reduceLE, Int.reduceAdd, Int.reduceSub, Int.reduceMul, Int.reduceNeg, Int.reduceToNat, Nat.reduceLT, Nat.reduceAdd, Nat.reduceEqDiff, List.length_cons, List.length_nil, sA_at, ss, sA_cm, h_22, h_25, d3, m86]
          rw [if_pos l3]
          simp (disch := omega) only [r121_57, r121_58, r121_61, r121_63, r121_64, r121_65, r121_66, r121_67, r121_68, r121_70, r121_73, r121_74, r121_77, sw_ldi, sw_ldl, sw_lda, sw_has1, sw_i1, sw_i2, sw_l1, sw_l2, sw_li, sw_r1, sw_ri, sw_rix, sw_rv, sw_pop, sw_set1, sw_set2, List.set_cons_zero, List.set_cons_succ, List.getElem?_cons_zero, List.getElem?_cons_succ, ald_1, ald_2, ast_1, ast_2, aln_1, aln_2, gf_1, gf_2, pf_1, pf_2, nw_1, ck_0, ck_1, ck_2, ck_3, ck_4, rr_1, rc_1, rc_2, K_i, K_l, K_v, I_add, I_sub, I_mul, I_div, I_em, I_eq0, I_lt0, I_0lt, I_le0, I_0le, I_eq, I_lt, I_le, I_a1, I_r1, I_eq1, I32_at, I32_s, Int.toNat_natCast, List.set_cons_zero, reduceCtorEq, not_false_eq_true, not_true_eq_false, false_and, true_and, and_true, and_false, false_or, true_or, or_true, or_false, if_true, if_false, eq_self, ↓reduceIte, Int.reduceEq, Int.reduceLT, Int.reduceLE, Int.reduceAdd, Int.reduceSub, Int.reduceMul, Int.reduceNeg, Int.reduceToNat, Nat.reduceLT, Nat.reduceAdd, Nat.reduceEqDiff, List.length_cons, List.length_nil, sA_at, ss, sA_cm, h_22, h_23, w_23, m86, l2]
          rfl
/-- addWayTo -/
theorem m121 {ob fl op R C q : Nat → Int} {z h j : Nat} {h9 z9 : Int} (b : SI ob fl op R C q z h 0) (hj : j < z) (hf : Flw ob fl) : ∃ (g2 : Nat → Int) (r : Nat), r % 6 = 0 ∧ (∀ b, b < 60 → -ob b ≤ g2 b ∧ g2 b ≤ ob b) ∧ (∀ s, net g2 s = net fl s + (dl s r - dl s (q j).toNat)) ∧ sw_M 121 [.ref 22, .int (Int32.ofInt (q j))] (hF L (sw_s A 23 fl) F T X R C q h9 z9) Q = Q (some none) (hF L (sw_s A 23 g2) F T X R C q h9 z9) := by
  have bz := SI_z b
  obtain ⟨g2, r, k1, k2, k3, k4⟩ := m121_l (L := L) (A := A) (F := F) (T := T) (X := X) (Q := Q) (h9 := h9) (z9 := z9) (e := Int32.ofInt (q j)) b j j 0 fl none (Nat.le_refl _) (by omega) hj ⟨hf.1, fun _ _ _ _ => rfl⟩
  refine ⟨g2, r, k1, k2, k3, Eq.trans ?_ k4⟩
  rw [e121]
  simp (disch := omega) only [r121_0, r121_1, r121_2, r121_3, sw_ldi, sw_ldl, sw_lda, sw_has1, sw_i1, sw_i2, sw_l1, sw_l2, sw_li, sw_r1, sw_ri, sw_rix, sw_rv, sw_pop, sw_set1, sw_set2, List.set_cons_zero, List.set_cons_succ, List.getElem?_cons_zero, List.getElem?_cons_succ, ald_1, ald_2, ast_1, ast_2, aln_1, aln_2, gf_1, gf_2, pf_1, pf_2, nw_1, ck_0, ck_1, ck_2, ck_3, ck_4, rr_1, rc_1, rc_2, K_i, K_l, K_v, I_add, I_sub, I_mul, I_div, I_em, I_eq0, I_lt0, I_0lt, I_le0, I_0le, I_eq, I_lt, I_le, I_a1, I_r1, I_eq1, I32_at, I32_s, Int.toNat_natCast, List.set_cons_zero, reduceCtorEq, not_false_eq_true, not_true_eq_false, false_and, true_and, and_true, and_false, false_or, true_or, or_true, or_false, if_true, if_false, eq_self, ↓reduceIte, Int.reduceEq, Int.reduceLT, Int.reduceLE, Int.reduceAdd, Int.reduceSub, Int.reduceMul, Int.reduceNeg, Int.reduceToNat, Nat.reduceLT, Nat.reduceAdd, Nat.reduceEqDiff, List.length_cons, List.length_nil]
  rfl
theorem m122_l (hop : ∀ i, i < 36 → A 17 i = 0 ∨ A 17 i = 1) (hob : ∀ b, b < 60 → A 18 b = 0 ∨ A 18 b = 1) (hoe : ∀ b, b < 60 → A 18 b = 1 → A 17 (lo b) = 1 ∧ A 17 (hi b) = 1) : ∀ (n w : Nat) (g R C q : Nat → Int) (h9 z9 : Int) (x : Option Value), w + n = 7 → Flw (A 18) g → vr g = w → ∃ (g2 R2 C2 q2 : Nat → Int) (h2 z2 : Int) (w2 : Nat), Flw (A 18) g2 ∧ vr g2 = w2 ∧ Spr (A 17) R2 ∧ ctN (A 18) R2 = w2 ∧ sw_A 122 10 [some (.ref 22), some (.ref 16), some (.int (Int32.ofInt w)), x] [] (hF L (sw_s A 23 g) F T X R C q h9 z9) Q = Q (some (some (.int (Int32.ofInt w2)))) (hF L (sw_s A 23 g2) F T X R2 C2 q2 h2 z2)
  | 0, w, g, R, C, q, h9, z9, x, hn, hf, hv => by
    have := Flw_6 hob hf
    omega
  | n + 1, w, g, R, C, q, h9, z9, x, hn, hf, hv => by
    have a18 : sw_s (sw_s (sw_s (sw_s A 23 g) 24 R) 25 C) 27 q 18 = A 18 := rfl
    have a17 : sw_s (sw_s (sw_s (sw_s A 23 g) 24 R) 25 C) 27 q 17 = A 17 := rfl
    have a23 : sw_s (sw_s (sw_s (sw_s A 23 g) 24 R) 25 C) 27 q 23 = g := rfl
    obtain ⟨R1, C1, q1, h1, z1, a, k1, k2⟩ := m120 (L := L) (A := sw_s (sw_s (sw_s (sw_s A 23 g) 24 R) 25 C) 27 q) (F := sw_s (sw_s F 10 h9) 11 z9) (T := T) (X := X) (Q := sw_K 122 21 none [some (.ref 22), some (.ref 16), some (.int (Int32.ofInt w)), x] [] Q) hop hob (fun b hb2 => by
      rw [a23]
      have := hf.1 b hb2
      have := hob b hb2
      omega)
    rw [a17, a18, a23] at k1
    rw [hF_hF] at k2
    rcases k1 with ⟨rfl, k3⟩ | ⟨j, h, k3, rfl, k5, k6⟩
    · obtain ⟨s1, s2⟩ := SI_end hob hoe k3 hf
      refine ⟨g, R1, C1, q1, h1, z1, w, hf, hv, s1, by omega, ?_⟩
      rw [show hF L (sw_s A 23 g) F T X R C q h9 z9 = sw_h L (sw_s (sw_s (sw_s (sw_s A 23 g) 24 R) 25 C) 27 q) (sw_s (sw_s F 10 h9) 11 z9) T X from rfl, r122_10]
      simp (disch := omega) only [r122_11, r122_13, r122_16, r122_17, r122_18, sw_ldi, sw_ldl, sw_lda, sw_has1, sw_i1, sw_i2, sw_l1, sw_l2, sw_li, sw_r1, sw_ri, sw_rix, sw_rv, sw_pop, sw_set1, sw_set2, List.set_cons_zero, List.set_cons_succ, List.getElem?_cons_zero, List.getElem?_cons_succ, ald_1, ald_2, ast_1, ast_2, aln_1, aln_2, gf_1, gf_2, pf_1, pf_2, nw_1, ck_0, ck_1, ck_2, ck_3, ck_4, rr_1, rc_1, rc_2, K_i, K_l, K_v, I_add, I_sub, I_mul, I_div, I_em, I_eq0, I_lt0, I_0lt, I_le0, I_0le, I_eq, I_lt, I_le, I_a1, I_r1, I_eq1, I32_at, I32_s, Int.toNat_natCast, List.set_cons_zero, reduceCtorEq, not_false_eq_true, not_true_eq_false, false_and, true_and, and_true, and_false, false_or, true_or, or_true, or_false, if_true, if_false, eq_self, ↓reduceIte, Int.reduceEq, Int.reduceLT, Int.reduceLE, Int.reduceAdd, Int.reduceSub, Int.reduceMul, Int.reduceNeg, Int.reduceToNat, Nat.reduceLT, Nat.reduceAdd, Nat.reduceEqDiff, List.length_cons, List.length_nil, h_22]
      rw [if_neg (by omega), k2]
      simp (disch := omega) only [r122_21, r122_22, r122_23, r122_24, r122_27, r122_41, r122_42, sw_ldi, sw_ldl, sw_lda, sw_has1, sw_i1, sw_i2, sw_l1, sw_l2, sw_li, sw_r1, sw_ri, sw_rix, sw_rv, sw_pop, sw_set1, sw_set2, List.set_cons_zero, List.set_cons_succ, List.getElem?_cons_zero, List.getElem?_cons_succ, ald_1, ald_2, ast_1, ast_2, aln_1, aln_2, gf_1, gf_2, pf_1, pf_2, nw_1, ck_0, ck_1, ck_2, ck_3, ck_4, rr_1, rc_1, rc_2, K_i, K_l, K_v, I_add, I_sub, I_mul, I_div, I_em, I_eq0, I_lt0, I_0lt, I_le0, I_0le, I_eq, I_lt, I_le, I_a1, I_r1, I_eq1, I32_at, I32_s, Int.toNat_natCast, List.set_cons_zero, reduceCtorEq, not_false_eq_true, not_true_eq_false, false_and, true_and, and_true, and_false, false_or, true_or, or_true, or_false, if_true, if_false, eq_self, ↓reduceIte, Int.reduceEq, Int.reduceLT, Int.reduceLE, Int.reduceAdd, Int.reduceSub, Int.reduceMul, Int.reduceNeg, Int.reduceToNat, Nat.reduceLT, Nat.reduceAdd, Nat.reduceEqDiff, List.length_cons, List.length_nil]
    · have qj := k6.2.1 j k3
      obtain ⟨g2, r, r1, r2, r3, r4⟩ := m121 (L := L) (A := A) (F := F) (T := T) (X := X) (Q := sw_K 122 35 none [some (.ref 22), some (.ref 16), some (.int (Int32.ofInt w)), some (.int (Int32.ofInt (q1 j)))] [] Q) (h9 := h1) (z9 := z1) k6 k3 hf
      obtain ⟨f1, f2⟩ := Flw_up hf r1 (by omega) k5 r2 r3
      obtain ⟨g3, R2, C2, q2, h2, z2, w2, e1, e2, e3, e4, e5⟩ := m122_l hop hob hoe n (w + 1) g2 R1 C1 q1 h1 z1 (some (.int (Int32.ofInt (q1 j)))) (by omega) f1 (by omega)
      refine ⟨g3, R2, C2, q2, h2, z2, w2, e1, e2, e3, e4, Eq.trans ?_ e5⟩
      rw [show hF L (sw_s A 23 g) F T X R C q h9 z9 = sw_h L (sw_s (sw_s (sw_s (sw_s A 23 g) 24 R) 25 C) 27 q) (sw_s (sw_s F 10 h9) 11 z9) T X from rfl, r122_10]
      simp (disch := omega) only [r122_11, r122_13, r122_16, r122_17, r122_18, sw_ldi, sw_ldl, sw_lda, sw_has1, sw_i1, sw_i2, sw_l1, sw_l2, sw_li, sw_r1, sw_ri, sw_rix, sw_rv, sw_pop, sw_set1, sw_set2, List.set_cons_zero, List.set_cons_succ, List.getElem?_cons_zero, List.getElem?_cons_succ, ald_1, ald_2, ast_1, ast_2, aln_1, aln_2, gf_1, gf_2, pf_1, pf_2, nw_1, ck_0, ck_1, ck_2, ck_3, ck_4, rr_1, rc_1, rc_2, K_i, K_l, K_v, I_add, I_sub, I_mul, I_div, I_em, I_eq0, I_lt0, I_0lt, I_le0, I_0le, I_eq, I_lt, I_le, I_a1, I_r1, I_eq1, I32_at, I32_s, Int.toNat_natCast, List.set_cons_zero, reduceCtorEq, not_false_eq_true, not_true_eq_false, false_and, true_and, and_true, and_false, false_or, true_or, or_true, or_false, if_true, if_false, eq_self, ↓reduceIte, Int.reduceEq, Int.reduceLT, Int.reduceLE, Int.reduceAdd, Int.reduceSub, Int.reduceMul, Int.reduceNeg, Int.reduceToNat, Nat.reduceLT, Nat.reduceAdd, Nat.reduceEqDiff, List.length_cons, List.length_nil, h_22]
      rw [if_neg (by omega), k2]
      simp (disch := omega) only [r122_21, r122_22, r122_23, r122_24, sw_ldi, sw_ldl, sw_lda, sw_has1, sw_i1, sw_i2, sw_l1, sw_l2, sw_li, sw_r1, sw_ri, sw_rix, sw_rv, sw_pop, sw_set1, sw_set2, List.set_cons_zero, List.set_cons_succ, List.getElem?_cons_zero, List.getElem?_cons_succ, ald_1, ald_2, ast_1, ast_2, aln_1, aln_2, gf_1, gf_2, pf_1, pf_2, nw_1, ck_0, ck_1, ck_2, ck_3, ck_4, rr_1, rc_1, rc_2, K_i, K_l, K_v, I_add, I_sub, I_mul, I_div, I_em, I_eq0, I_lt0, I_0lt, I_le0, I_0le, I_eq, I_lt, I_le, I_a1, I_r1, I_eq1, I32_at, I32_s, Int.toNat_natCast, List.set_cons_zero, reduceCtorEq, not_false_eq_true, not_true_eq_false, false_and, true_and, and_true, and_false, false_or, true_or, or_true, or_false, if_true, if_false, eq_self, ↓reduceIte, Int.reduceEq, Int.reduceLT, Int.reduceLE, Int.reduceAdd, Int.reduceSub, Int.reduceMul, Int.reduceNeg, Int.reduceToNat, Nat.reduceLT, Nat.reduceAdd, Nat.reduceEqDiff, List.length_cons, List.length_nil]
      rw [if_pos (by omega)]
      simp (disch := omega) only [r122_30, r122_31, r122_32, sw_ldi, sw_ldl, sw_lda, sw_has1, sw_i1, sw_i2, sw_l1, sw_l2, sw_li, sw_r1, sw_ri, sw_rix, sw_rv, sw_pop, sw_set1, sw_set2, List.set_cons_zero, List.set_cons_succ, List.getElem?_cons_zero, List.getElem?_cons_succ, ald_1, ald_2, ast_1, ast_2, aln_1, aln_2, gf_1, gf_2, pf_1, pf_2, nw_1, ck_0, ck_1, ck_2, ck_3, ck_4, rr_1, rc_1, rc_2, K_i, K_l, K_v, I_add, I_sub, I_mul, I_div, I_em, I_eq0, I_lt0, I_0lt, I_le0, I_0le, I_eq, I_lt, I_le, I_a1, I_r1, I_eq1, I32_at, I32_s, Int.toNat_natCast, List.set_cons_zero, reduceCtorEq, not_false_eq_true, not_true_eq_false, false_and, true_and, and_true, and_false, false_or, true_or, or_true, or_false, if_true, if_false, eq_self, ↓reduceIte, Int.reduceEq, Int.reduceLT, Int.reduceLE, Int.reduceAdd, Int.reduceSub, Int.reduceMul, Int.reduceNeg, Int.reduceToNat, Nat.reduceLT, Nat.reduceAdd, Nat.reduceEqDiff, List.length_cons, List.length_nil]
      rw [r4]
      simp (disch := omega) only [r122_35, r122_38, sw_ldi, sw_ldl, sw_lda, sw_has1, sw_i1, sw_i2, sw_l1, sw_l2, sw_li, sw_r1, sw_ri, sw_rix, sw_rv, sw_pop, sw_set1, sw_set2, List.set_cons_zero, List.set_cons_succ, List.getElem?_cons_zero, List.getElem?_cons_succ, ald_1, ald_2, ast_1, ast_2, aln_1, aln_2, gf_1, gf_2, pf_1, pf_2, nw_1, ck_0, ck_1, ck_2, ck_3, ck_4, rr_1, rc_1, rc_2, K_i, K_l, K_v, I_add, I_sub, I_mul, I_div, I_em, I_eq0, I_lt0, I_0lt, I_le0, I_0le, I_eq, I_lt, I_le, I_a1, I_r1, I_eq1, I32_at, I32_s, Int.toNat_natCast, List.set_cons_zero, reduceCtorEq, not_false_eq_true, not_true_eq_false, false_and, true_and, and_true, and_false, false_or, true_or, or_true, or_false, if_true, if_false, eq_self, ↓reduceIte, Int.reduceEq, Int.reduceLT, Int.reduceLE, Int.reduceAdd, Int.reduceSub, Int.reduceMul, Int.reduceNeg, Int.reduceToNat, Nat.reduceLT, Nat.reduceAdd, Nat.reduceEqDiff, List.length_cons, List.length_nil]
      rfl
/-- mostWays -/
theorem m122 (hop : ∀ i, i < 36 → A 17 i = 0 ∨ A 17 i = 1) (hob : ∀ b, b < 60 → A 18 b = 0 ∨ A 18 b = 1) (hoe : ∀ b, b < 60 → A 18 b = 1 → A 17 (lo b) = 1 ∧ A 17 (hi b) = 1) : ∃ (g2 R2 C2 q2 : Nat → Int) (h2 z2 : Int) (w2 : Nat), Flw (A 18) g2 ∧ vr g2 = w2 ∧ Spr (A 17) R2 ∧ ctN (A 18) R2 = w2 ∧ sw_M 122 [.ref 22, .ref 16] (sw_h L A F T X) Q = Q (some (some (.int (Int32.ofInt w2)))) (hF L (sw_s A 23 g2) F T X R2 C2 q2 h2 z2) := by
  obtain ⟨f1, f2⟩ := Flw_0 hob (g := fil 60 0 (A 23)) fun b hb2 => fil_at hb2
  obtain ⟨g2, R2, C2, q2, h2, z2, w2, e1, e2, e3, e4, e5⟩ := m122_l (L := L) (F := F) (T := T) (X := X) (Q := Q) hop hob hoe 7 0 (fil 60 0 (A 23)) (A 24) (A 25) (A 27) (F 10) (F 11) none (by omega) f1 f2
  refine ⟨g2, R2, C2, q2, h2, z2, w2, e1, e2, e3, e4, Eq.trans ?_ e5⟩
  have mm := m9 (H := sw_h L A F T X) (a := 23) (n := 60) (g := A 23) (v := 0) (Q := sw_K 122 8 none [some (.ref 22), some (.ref 16), none, none] [] Q) h_23 (by decide) (by decide)
  rw [w_23] at mm
  have i1 : sw_s (sw_s F 10 (F 10)) 11 (F 11) = F := by
    funext j
    unfold sw_s
    (repeat' split) <;> first | rfl | (rename_i e; rw [e]) | (rename_i e _; rw [e])
  have i2 : hF L (sw_s A 23 (fil 60 0 (A 23))) F T X (A 24) (A 25) (A 27) (F 10) (F 11) = sw_h L (sw_s A 23 (fil 60 0 (A 23))) F T X := by
    unfold hF
    rw [i1]
    rw [show A 24 = sw_s A 23 (fil 60 0 (A 23)) 24 from rfl, show A 25 = sw_s A 23 (fil 60 0 (A 23)) 25 from rfl, show A 27 = sw_s A 23 (fil 60 0 (A 23)) 27 from rfl, sA_id, sA_id, sA_id]
  rw [e122, i2]
  simp (disch := omega) only [r122_0, r122_1, r122_4, r122_5, sw_ldi, sw_ldl, sw_lda, sw_has1, sw_i1, sw_i2, sw_l1, sw_l2, sw_li, sw_r1, sw_ri, sw_rix, sw_rv, sw_pop, sw_set1, sw_set2, List.set_cons_zero, List.set_cons_succ, List.getElem?_cons_zero, List.getElem?_cons_succ, ald_1, ald_2, ast_1, ast_2, aln_1, aln_2, gf_1, gf_2, pf_1, pf_2, nw_1, ck_0, ck_1, ck_2, ck_3, ck_4, rr_1, rc_1, rc_2, K_i, K_l, K_v, I_add, I_sub, I_mul, I_div, I_em, I_eq0, I_lt0, I_0lt, I_le0, I_0le, I_eq, I_lt, I_le, I_a1, I_r1, I_eq1, I32_at, I32_s, Int.toNat_natCast, List.set_cons_zero, reduceCtorEq, not_false_eq_true, not_true_eq_false, false_and, true_and, and_true, and_false, false_or, true_or, or_true, or_false, if_true, if_false, eq_self, ↓reduceIte, Int.reduceEq, Int.reduceLT, Int.reduceLE, Int.reduceAdd, Int.reduceSub, Int.reduceMul, Int.reduceNeg, Int.reduceToNat, Nat.reduceLT, Nat.reduceAdd, Nat.reduceEqDiff, List.length_cons, List.length_nil, h_22]
  rw [mm]
  simp (disch := omega) only [r122_8, r122_9, sw_ldi, sw_ldl, sw_lda, sw_has1, sw_i1, sw_i2, sw_l1, sw_l2, sw_li, sw_r1, sw_ri, sw_rix, sw_rv, sw_pop, sw_set1, sw_set2, List.set_cons_zero, List.set_cons_succ, List.getElem?_cons_zero, List.getElem?_cons_succ, ald_1, ald_2, ast_1, ast_2, aln_1, aln_2, gf_1, gf_2, pf_1, pf_2, nw_1, ck_0, ck_1, ck_2, ck_3, ck_4, rr_1, rc_1, rc_2, K_i, K_l, K_v, I_add, I_sub, I_mul, I_div, I_em, I_eq0, I_lt0, I_0lt, I_le0, I_0le, I_eq, I_lt, I_le, I_a1, I_r1, I_eq1, I32_at, I32_s, Int.toNat_natCast, List.set_cons_zero, reduceCtorEq, not_false_eq_true, not_true_eq_false, false_and, true_and, and_true, and_false, false_or, true_or, or_true, or_false, if_true, if_false, eq_self, ↓reduceIte, Int.reduceEq, Int.reduceLT, Int.reduceLE, Int.reduceAdd, Int.reduceSub, Int.reduceMul, Int.reduceNeg, Int.reduceToNat, Nat.reduceLT, Nat.reduceAdd, Nat.reduceEqDiff, List.length_cons, List.length_nil]
  rfl
theorem m123_l {R : Nat → Int} (hR : ∀ t, t < 36 → R t = 0 ∨ R t = 1) (hA : A 24 = R) (hob : ∀ b, b < 60 → A 18 b = 0 ∨ A 18 b = 1) : ∀ (n i : Nat), i + n = 60 → sw_A 123 4 [some (.ref 22), some (.ref 16), some (.int (Int32.ofInt (su (fun b => if ¬ A 18 b = 0 ∧ ¬ R (lo b) = R (hi b) then 1 else 0) i))), some (.int (Int32.ofInt i))] [] (sw_h L A F T X) Q = Q (some (some (.int (Int32.ofInt (ctN (A 18) R))))) (sw_h L A F T X)
  | 0, i, hn => by
    have e : i = 60 := hn
    subst e
    rw [r123_4]
    simp (disch := omega) only [r123_5, r123_7, r123_49, r123_50, sw_ldi, sw_ldl, sw_lda, sw_has1, sw_i1, sw_i2, sw_l1, sw_l2, sw_li, sw_r1, sw_ri, sw_rix, sw_rv, sw_pop, sw_set1, sw_set2, List.set_cons_zero, List.set_cons_succ, List.getElem?_cons_zero, List.getElem?_cons_succ, ald_1, ald_2, ast_1, ast_2, aln_1, aln_2, gf_1, gf_2, pf_1, pf_2, nw_1, ck_0, ck_1, ck_2, ck_3, ck_4, rr_1, rc_1, rc_2, K_i, K_l, K_v, I_add, I_sub, I_mul, I_div, I_em, I_eq0, I_lt0, I_0lt, I_le0, I_0le, I_eq, I_lt, I_le, I_a1, I_r1, I_eq1, I32_at, I32_s, Int.toNat_natCast, List.set_cons_zero, reduceCtorEq, not_false_eq_true, not_true_eq_false, false_and, true_and, and_true, and_false, false_or, true_or, or_true, or_false, if_true, if_false, eq_self, ↓reduceIte, Int.reduceEq, Int.reduceLT, Int.reduceLE, Int.reduceAdd, Int.reduceSub, Int.reduceMul, Int.reduceNeg, Int.reduceToNat, Nat.reduceLT, Nat.reduceAdd, Nat.reduceEqDiff, List.length_cons, List.length_nil, Int.le_refl]
    rfl
  | n + 1, i, hn => by
    have hi2 : i < 60 := by omega
    have ih := m123_l hR hA hob n (i + 1) (by omega)
    have e : su (fun b => if ¬ A 18 b = 0 ∧ ¬ R (lo b) = R (hi b) then 1 else 0) (i + 1) = su (fun b => if ¬ A 18 b = 0 ∧ ¬ R (lo b) = R (hi b) then 1 else 0) i + if ¬ A 18 i = 0 ∧ ¬ R (lo i) = R (hi i) then 1 else 0 := rfl
    rw [e] at ih
    generalize su (fun b => if ¬ A 18 b = 0 ∧ ¬ R (lo b) = R (hi b) then 1 else 0) i = v at *
    have o := hob i hi2
    have l1 := lo_lt hi2
    have l2 := hi_lt hi2
    have r1 := hR (lo i) l1.1
    have r2 := hR (hi i) l2.1
    rw [r123_4]
    simp (disch := omega) only [r123_5, r123_7, r123_10, r123_11, r123_14, r123_15, r123_16, sw_ldi, sw_ldl, sw_lda, sw_has1, sw_i1, sw_i2, sw_l1, sw_l2, sw_li, sw_r1, sw_ri, sw_rix, sw_rv, sw_pop, sw_set1, sw_set2, List.set_cons_zero, List.set_cons_succ, List.getElem?_cons_zero, List.getElem?_cons_succ, ald_1, ald_2, ast_1, ast_2, aln_1, aln_2, gf_1, gf_2, pf_1, pf_2, nw_1, ck_0, ck_1, ck_2, ck_3, ck_4, rr_1, rc_1, rc_2, K_i, K_l, K_v, I_add, I_sub, I_mul, I_div, I_em, I_eq0, I_lt0, I_0lt, I_le0, I_0le, I_eq, I_lt, I_le, I_a1, I_r1, I_eq1, I32_at, I32_s, Int.toNat_natCast, List.set_cons_zero, reduceCtorEq, not_false_eq_true, not_true_eq_false, false_and, true_and, and_true, and_false, false_or, true_or, or_true, or_false, if_true, if_false, eq_self, ↓reduceIte, Int.reduceEq, Int.reduceLT, Int.reduceLE, Int.reduceAdd, Int.reduceSub, Int.reduceMul, Int.reduceNeg, Int.reduceToNat, Nat.reduceLT, Nat.reduceAdd, Nat.reduceEqDiff, List.length_cons, List.length_nil, h_16, h_18]
    rw [if_neg (by omega)]
    by_cases c : A 18 i = 0
    · rw [if_neg (fun q => q.1 c), Int.add_zero] at ih
      rw [if_pos c]
      simp (disch := omega) only [r123_43, r123_46, sw_ldi, sw_ldl, sw_lda, sw_has1, sw_i1, sw_i2, sw_l1, sw_l2, sw_li, sw_r1, sw_ri, sw_rix, sw_rv, sw_pop, sw_set1, sw_set2, List.set_cons_zero, List.set_cons_succ, List.getElem?_cons_zero, List.getElem?_cons_succ, ald_1, ald_2, ast_1, ast_2, aln_1, aln_2, gf_1, gf_2, pf_1, pf_2, nw_1, ck_0, ck_1, ck_2, ck_3, ck_4, rr_1, rc_1, rc_2, K_i, K_l, K_v, I_add, I_sub, I_mul, I_div, I_em, I_eq0, I_lt0, I_0lt, I_le0, I_0le, I_eq, I_lt, I_le, I_a1, I_r1, I_eq1, I32_at, I32_s, Int.toNat_natCast, List.set_cons_zero, reduceCtorEq, not_false_eq_true, not_true_eq_false, false_and, true_and, and_true, and_false, false_or, true_or, or_true, or_false, if_true, if_false, eq_self, ↓reduceIte, Int.reduceEq, Int.reduceLT, Int.reduceLE, Int.reduceAdd, Int.reduceSub, Int.reduceMul, Int.reduceNeg, Int.reduceToNat, Nat.reduceLT, Nat.reduceAdd, Nat.reduceEqDiff, List.length_cons, List.length_nil]
      exact ih
    · rw [if_neg c]
      simp (disch := omega) only [r123_19, r123_20, r123_23, r123_24, r123_27, r123_28, r123_29, r123_32, r123_33, r123_36, r123_37, sw_ldi, sw_ldl, sw_lda, sw_has1, sw_i1, sw_i2, sw_l1, sw_l2, sw_li, sw_r1, sw_ri, sw_rix, sw_rv, sw_pop, sw_set1, sw_set2, List.set_cons_zero, List.set_cons_succ, List.getElem?_cons_zero, List.getElem?_cons_succ, ald_1, ald_2, ast_1, ast_2, aln_1, aln_2, gf_1, gf_2, pf_1, pf_2, nw_1, ck_0, ck_1, ck_2, ck_3, ck_4, rr_1, rc_1, rc_2, K_i, K_l, K_v, I_add, I_sub, I_mul, I_div, I_em, I_eq0, I_lt0, I_0lt, I_le0, I_0le, I_eq, I_lt, I_le, I_a1, I_r1, I_eq1, I32_at, I32_s, Int.toNat_natCast, List.set_cons_zero, reduceCtorEq, not_false_eq_true, not_true_eq_false, false_and, true_and, and_true, and_false, false_or, true_or, or_true, or_false, if_true, if_false, eq_self, ↓reduceIte, Int.reduceEq, Int.reduceLT, Int.reduceLE, Int.reduceAdd, Int.reduceSub, Int.reduceMul, Int.reduceNeg, Int.reduceToNat, Nat.reduceLT, Nat.reduceAdd, Nat.reduceEqDiff, List.length_cons, List.length_nil, h_22, h_24, hA, lo85, m86, l1.2, l2.2]
      by_cases c2 : R (lo i) = R (hi i)
      · rw [if_neg (fun q => q.2 c2), Int.add_zero] at ih
        rw [if_pos c2]
        simp (disch := omega) only [r123_43, r123_46, sw_ldi, sw_ldl, sw_lda, sw_has1, sw_i1, sw_i2, sw_l1, sw_l2, sw_li, sw_r1, sw_ri, sw_rix, sw_rv, sw_pop, sw_set1, sw_set2, List.set_cons_zero, List.set_cons_succ, List.getElem?_cons_zero, List.getElem?_cons_succ, ald_1, ald_2, ast_1, ast_2, aln_1, aln_2, gf_1, gf_2, pf_1, pf_2, nw_1, ck_0, ck_1, ck_2, ck_3, ck_4, rr_1, rc_1, rc_2, K_i, K_l, K_v, I_add, I_sub, I_mul, I_div, I_em, I_eq0, I_lt0, I_0lt, I_le0, I_0le, I_eq, I_lt, I_le, I_a1, I_r1, I_eq1, I32_at, I32_s, Int.toNat_natCast, List.set_cons_zero, reduceCtorEq, not_false_eq_true, not_true_eq_false, false_and, true_and, and_true, and_false, false_or, true_or, or_true, or_false, if_true, if_false, eq_self, ↓reduceIte, Int.reduceEq, Int.reduceLT, Int.reduceLE, Int.reduceAdd, Int.reduceSub, Int.reduceMul, Int.reduceNeg, Int.reduceToNat, Nat.reduceLT, Nat.reduceAdd, Nat.reduceEqDiff, List.length_cons, List.length_nil]
        exact ih
      · rw [if_pos ⟨c, c2⟩] at ih
        rw [if_neg c2]
        simp (disch := omega) only [r123_40, r123_43, r123_46, sw_ldi, sw_ldl, sw_lda, sw_has1, sw_i1, sw_i2, sw_l1, sw_l2, sw_li, sw_r1, sw_ri, sw_rix, sw_rv, sw_pop, sw_set1, sw_set2, List.set_cons_zero, List.set_cons_succ, List.getElem?_cons_zero, List.getElem?_cons_succ, ald_1, ald_2, ast_1, ast_2, aln_1, aln_2, gf_1, gf_2, pf_1, pf_2, nw_1, ck_0, ck_1, ck_2, ck_3, ck_4, rr_1, rc_1, rc_2, K_i, K_l, K_v, I_add, I_sub, I_mul, I_div, I_em, I_eq0, I_lt0, I_0lt, I_le0, I_0le, I_eq, I_lt, I_le, I_a1, I_r1, I_eq1, I32_at, I32_s, Int.toNat_natCast, List.set_cons_zero, reduceCtorEq, not_false_eq_true, not_true_eq_false, false_and, true_and, and_true, and_false, false_or, true_or, or_true, or_false, if_true, if_false, eq_self, ↓reduceIte, Int.reduceEq, Int.reduceLT, Int.reduceLE, Int.reduceAdd, Int.reduceSub, Int.reduceMul, Int.reduceNeg, Int.reduceToNat, Nat.reduceLT, Nat.reduceAdd, Nat.reduceEqDiff, List.length_cons, List.length_nil]
        exact ih
/-- countCut -/
theorem m123 {R : Nat → Int} (hR : ∀ t, t < 36 → R t = 0 ∨ R t = 1) (hA : A 24 = R) (hob : ∀ b, b < 60 → A 18 b = 0 ∨ A 18 b = 1) : sw_M 123 [.ref 22, .ref 16] (sw_h L A F T X) Q = Q (some (some (.int (Int32.ofInt (ctN (A 18) R))))) (sw_h L A F T X) := by
  rw [e123]
  simp (disch := omega) only [r123_0, r123_1, r123_2, r123_3, sw_ldi, sw_ldl, sw_lda, sw_has1, sw_i1, sw_i2, sw_l1, sw_l2, sw_li, sw_r1, sw_ri, sw_rix, sw_rv, sw_pop, sw_set1, sw_set2, List.set_cons_zero, List.set_cons_succ, List.getElem?_cons_zero, List.getElem?_cons_succ, ald_1, ald_2, ast_1, ast_2, aln_1, aln_2, gf_1, gf_2, pf_1, pf_2, nw_1, ck_0, ck_1, ck_2, ck_3, ck_4, rr_1, rc_1, rc_2, K_i, K_l, K_v, I_add, I_sub, I_mul, I_div, I_em, I_eq0, I_lt0, I_0lt, I_le0, I_0le, I_eq, I_lt, I_le, I_a1, I_r1, I_eq1, I32_at, I32_s, Int.toNat_natCast, List.set_cons_zero, reduceCtorEq, not_false_eq_true, not_true_eq_false, false_and, true_and, and_true, and_false, false_or, true_or, or_true, or_false, if_true, if_false, eq_self, ↓reduceIte, Int.reduceEq, Int.reduceLT, Int.reduceLE, Int.reduceAdd, Int.reduceSub, Int.reduceMul, Int.reduceNeg, Int.reduceToNat, Nat.reduceLT, Nat.reduceAdd, Nat.reduceEqDiff, List.length_cons, List.length_nil]
  exact m123_l hR hA hob 60 0 (by omega)
/-- ways -/
theorem m125 {k p : Int} (hA : Nm A) (k0 : 0 ≤ k) (k1 : k ≤ 2) (p0 : 0 ≤ p) (p1 : p ≤ 1000)
    (hQ : ∀ (w : Int) (B : Nat → Nat → Int) (G : Nat → Int), FC (ob2 A k p) (os2 A k p) w → Fm A B → G 0 = F 0 → Q (some (some (.int (Int32.ofInt w)))) (sw_h L B G T X)) :
    sw_M 125 [.ref 1, .int (Int32.ofInt k), .int (Int32.ofInt p)] (sw_h L A F T X) Q := by
  have hoe : ∀ b, b < 60 → hO A k p 18 b = 1 → hO A k p 17 (lo b) = 1 ∧ hO A k p 17 (hi b) = 1 := fun b hb2 h => by
    rw [hO_18 hb2] at h
    rw [hO_17 (lo_lt hb2).1, hO_17 (hi_lt hb2).1]
    exact ob2_op b hb2 h
  obtain ⟨g2, R2, C2, q2, h2, z2, w2, e1, e2, e3, e4, e5⟩ := m122 (L := L) (A := hO A k p) (F := F) (T := T) (X := X) (Q := sw_K 125 17 none [some (.ref 1), some (.int (Int32.ofInt k)), some (.int (Int32.ofInt p))] [] Q) hO_op hO_ob hoe
  have hq := hQ w2 (sw_s (sw_s (sw_s (sw_s (hO A k p) 23 g2) 24 R2) 25 C2) 27 q2) (sw_s (sw_s F 10 h2) 11 z2) (FC_c (fun b hb2 => hO_18 hb2) (fun i hi2 => hO_17 hi2) ⟨⟨g2, e1, e2⟩, R2, e3, e4⟩) (Fm_t Fm_O (Fm_t (Fm_2 rfl rfl) (Fm_2 rfl rfl))) rfl
  rw [e125]
  simp (disch := omega) only [r125_0, r125_1, r125_2, r125_3, sw_ldi, sw_ldl, sw_lda, sw_has1, sw_i1, sw_i2, sw_l1, sw_l2, sw_li, sw_r1, sw_ri, sw_rix, sw_rv, sw_pop, sw_set1, sw_set2, List.set_cons_zero, List.set_cons_succ, List.getElem?_cons_zero, List.getElem?_cons_succ, ald_1, ald_2, ast_1, ast_2, aln_1, aln_2, gf_1, gf_2, pf_1, pf_2, nw_1, ck_0, ck_1, ck_2, ck_3, ck_4, rr_1, rc_1, rc_2, K_i, K_l, K_v, I_add, I_sub, I_mul, I_div, I_em, I_eq0, I_lt0, I_0lt, I_le0, I_0le, I_eq, I_lt, I_le, I_a1, I_r1, I_eq1, I32_at, I32_s, Int.toNat_natCast, List.set_cons_zero, reduceCtorEq, not_false_eq_true, not_true_eq_false, false_and, true_and, and_true, and_false, false_or, true_or, or_true, or_false, if_true, if_false, eq_self, ↓reduceIte, Int.reduceEq, Int.reduceLT, Int.reduceLE, Int.reduceAdd, Int.reduceSub, Int.reduceMul, Int.reduceNeg, Int.reduceToNat, Nat.reduceLT, Nat.reduceAdd, Nat.reduceEqDiff, List.length_cons, List.length_nil, h_1]
  rw [m95 hA k0 k1 p0 p1]
  simp (disch := omega) only [r125_6, r125_7, r125_10, r125_11, r125_14, sw_ldi, sw_ldl, sw_lda, sw_has1, sw_i1, sw_i2, sw_l1, sw_l2, sw_li, sw_r1, sw_ri, sw_rix, sw_rv, sw_pop, sw_set1, sw_set2, List.set_cons_zero, List.set_cons_succ, List.getElem?_cons_zero, List.getElem?_cons_succ, ald_1, ald_2, ast_1, ast_2, aln_1, aln_2, gf_1, gf_2, pf_1, pf_2, nw_1, ck_0, ck_1, ck_2, ck_3, ck_4, rr_1, rc_1, rc_2, K_i, K_l, K_v, I_add, I_sub, I_mul, I_div, I_em, I_eq0, I_lt0, I_0lt, I_le0, I_0le, I_eq, I_lt, I_le, I_a1, I_r1, I_eq1, I32_at, I32_s, Int.toNat_natCast, List.set_cons_zero, reduceCtorEq, not_false_eq_true, not_true_eq_false, false_and, true_and, and_true, and_false, false_or, true_or, or_true, or_false, if_true, if_false, eq_self, ↓reduceIte, Int.reduceEq, Int.reduceLT, Int.reduceLE, Int.reduceAdd, Int.reduceSub, Int.reduceMul, Int.reduceNeg, Int.reduceToNat, Nat.reduceLT, Nat.reduceAdd, Nat.reduceEqDiff, List.length_cons, List.length_nil, h_1]
  rw [e5]
  simp (disch := omega) only [r125_17, sw_ldi, sw_ldl, sw_lda, sw_has1, sw_i1, sw_i2, sw_l1, sw_l2, sw_li, sw_r1, sw_ri, sw_rix, sw_rv, sw_pop, sw_set1, sw_set2, List.set_cons_zero, List.set_cons_succ, List.getElem?_cons_zero, List.getElem?_cons_succ, ald_1, ald_2, ast_1, ast_2, aln_1, aln_2, gf_1, gf_2, pf_1, pf_2, nw_1, ck_0, ck_1, ck_2, ck_3, ck_4, rr_1, rc_1, rc_2, K_i, K_l, K_v, I_add, I_sub, I_mul, I_div, I_em, I_eq0, I_lt0, I_0lt, I_le0, I_0le, I_eq, I_lt, I_le, I_a1, I_r1, I_eq1, I32_at, I32_s, Int.toNat_natCast, List.set_cons_zero, reduceCtorEq, not_false_eq_true, not_true_eq_false, false_and, true_and, and_true, and_false, false_or, true_or, or_true, or_false, if_true, if_false, eq_self, ↓reduceIte, Int.reduceEq, Int.reduceLT, Int.reduceLE, Int.reduceAdd, Int.reduceSub, Int.reduceMul, Int.reduceNeg, Int.reduceToNat, Nat.reduceLT, Nat.reduceAdd, Nat.reduceEqDiff, List.length_cons, List.length_nil]
  exact hq
/-- cut -/
theorem m124 {k p : Int} (hA : Nm A) (k0 : 0 ≤ k) (k1 : k ≤ 2) (p0 : 0 ≤ p) (p1 : p ≤ 1000)
    (hQ : ∀ (w : Int) (B : Nat → Nat → Int) (G : Nat → Int), FC (ob2 A k p) (os2 A k p) w → Fm A B → G 0 = F 0 → Q (some (some (.int (Int32.ofInt w)))) (sw_h L B G T X)) :
    sw_M 124 [.ref 1, .int (Int32.ofInt k), .int (Int32.ofInt p)] (sw_h L A F T X) Q := by
  have hoe : ∀ b, b < 60 → hO A k p 18 b = 1 → hO A k p 17 (lo b) = 1 ∧ hO A k p 17 (hi b) = 1 := fun b hb2 h => by
    rw [hO_18 hb2] at h
    rw [hO_17 (lo_lt hb2).1, hO_17 (hi_lt hb2).1]
    exact ob2_op b hb2 h
  obtain ⟨g2, R2, C2, q2, h2, z2, w2, e1, e2, e3, e4, e5⟩ := m122 (L := L) (A := hO A k p) (F := F) (T := T) (X := X) (Q := sw_K 124 17 none [some (.ref 1), some (.int (Int32.ofInt k)), some (.int (Int32.ofInt p))] [] Q) hO_op hO_ob hoe
  have hq := hQ w2 (sw_s (sw_s (sw_s (sw_s (hO A k p) 23 g2) 24 R2) 25 C2) 27 q2) (sw_s (sw_s F 10 h2) 11 z2) (FC_c (fun b hb2 => hO_18 hb2) (fun i hi2 => hO_17 hi2) ⟨⟨g2, e1, e2⟩, R2, e3, e4⟩) (Fm_t Fm_O (Fm_t (Fm_2 rfl rfl) (Fm_2 rfl rfl))) rfl
  have mc := m123 (L := L) (A := sw_s (sw_s (sw_s (sw_s (hO A k p) 23 g2) 24 R2) 25 C2) 27 q2) (F := sw_s (sw_s F 10 h2) 11 z2) (T := T) (X := X) (Q := sw_K 124 29 none [some (.ref 1), some (.int (Int32.ofInt k)), some (.int (Int32.ofInt p))] [] Q) (R := R2) e3.1 rfl hO_ob
  have mc2 : ctN (sw_s (sw_s (sw_s (sw_s (hO A k p) 23 g2) 24 R2) 25 C2) 27 q2 18) R2 = w2 := e4
  rw [mc2] at mc
  rw [e124]
  simp (disch := omega) only [r124_0, r124_1, r124_2, r124_3, sw_ldi, sw_ldl, sw_lda, sw_has1, sw_i1, sw_i2, sw_l1, sw_l2, sw_li, sw_r1, sw_ri, sw_rix, sw_rv, sw_pop, sw_set1, sw_set2, List.set_cons_zero, List.set_cons_succ, List.getElem?_cons_zero, List.getElem?_cons_succ, ald_1, ald_2, ast_1, ast_2, aln_1, aln_2, gf_1, gf_2, pf_1, pf_2, nw_1, ck_0, ck_1, ck_2, ck_3, ck_4, rr_1, rc_1, rc_2, K_i, K_l, K_v, I_add, I_sub, I_mul, I_div, I_em, I_eq0, I_lt0, I_0lt, I_le0, I_0le, I_eq, I_lt, I_le, I_a1, I_r1, I_eq1, I32_at, I32_s, Int.toNat_natCast, List.set_cons_zero, reduceCtorEq, not_false_eq_true, not_true_eq_false, false_and, true_and, and_true, and_false, false_or, true_or, or_true, or_false, if_true, if_false, eq_self, ↓reduceIte, Int.reduceEq, Int.reduceLT, Int.reduceLE, Int.reduceAdd, Int.reduceSub, Int.reduceMul, Int.reduceNeg, Int.reduceToNat, Nat.reduceLT, Nat.reduceAdd, Nat.reduceEqDiff, List.length_cons, List.length_nil, h_1]
  rw [m95 hA k0 k1 p0 p1]
  simp (disch := omega) only [r124_6, r124_7, r124_10, r124_11, r124_14, sw_ldi, sw_ldl, sw_lda, sw_has1, sw_i1, sw_i2, sw_l1, sw_l2, sw_li, sw_r1, sw_ri, sw_rix, sw_rv, sw_pop, sw_set1, sw_set2, List.set_cons_zero, List.set_cons_succ, List.getElem?_cons_zero, List.getElem?_cons_succ, ald_1, ald_2, ast_1, ast_2, aln_1, aln_2, gf_1, gf_2, pf_1, pf_2, nw_1, ck_0, ck_1, ck_2, ck_3, ck_4, rr_1, rc_1, rc_2, K_i, K_l, K_v, I_add, I_sub, I_mul, I_div, I_em, I_eq0, I_lt0, I_0lt, I_le0, I_0le, I_eq, I_lt, I_le, I_a1, I_r1, I_eq1, I32_at, I32_s, Int.toNat_natCast, List.set_cons_zero, reduceCtorEq, not_false_eq_true, not_true_eq_false, false_and, true_and, and_true, and_false, false_or, true_or, or_true, or_false, if_true, if_false, eq_self, ↓reduceIte, Int.reduceEq, Int.reduceLT, Int.reduceLE, Int.reduceAdd, Int.reduceSub, Int.reduceMul, Int.reduceNeg, Int.reduceToNat, Nat.reduceLT, Nat.reduceAdd, Nat.reduceEqDiff, List.length_cons, List.length_nil, h_1]
  rw [e5]
  unfold hF
  simp (disch := omega) only [r124_17, r124_18, r124_19, r124_22, r124_23, r124_26, sw_ldi, sw_ldl, sw_lda, sw_has1, sw_i1, sw_i2, sw_l1, sw_l2, sw_li, sw_r1, sw_ri, sw_rix, sw_rv, sw_pop, sw_set1, sw_set2, List.set_cons_zero, List.set_cons_succ, List.getElem?_cons_zero, List.getElem?_cons_succ, ald_1, ald_2, ast_1, ast_2, aln_1, aln_2, gf_1, gf_2, pf_1, pf_2, nw_1, ck_0, ck_1, ck_2, ck_3, ck_4, rr_1, rc_1, rc_2, K_i, K_l, K_v, I_add, I_sub, I_mul, I_div, I_em, I_eq0, I_lt0, I_0lt, I_le0, I_0le, I_eq, I_lt, I_le, I_a1, I_r1, I_eq1, I32_at, I32_s, Int.toNat_natCast, List.set_cons_zero, reduceCtorEq, not_false_eq_true, not_true_eq_false, false_and, true_and, and_true, and_false, false_or, true_or, or_true, or_false, if_true, if_false, eq_self, ↓reduceIte, Int.reduceEq, Int.reduceLT, Int.reduceLE, Int.reduceAdd, Int.reduceSub, Int.reduceMul, Int.reduceNeg, Int.reduceToNat, Nat.reduceLT, Nat.reduceAdd, Nat.reduceEqDiff, List.length_cons, List.length_nil, h_1]
  rw [mc]
  simp (disch := omega) only [r124_29, sw_ldi, sw_ldl, sw_lda, sw_has1, sw_i1, sw_i2, sw_l1, sw_l2, sw_li, sw_r1, sw_ri, sw_rix, sw_rv, sw_pop, sw_set1, sw_set2, List.set_cons_zero, List.set_cons_succ, List.getElem?_cons_zero, List.getElem?_cons_succ, ald_1, ald_2, ast_1, ast_2, aln_1, aln_2, gf_1, gf_2, pf_1, pf_2, nw_1, ck_0, ck_1, ck_2, ck_3, ck_4, rr_1, rc_1, rc_2, K_i, K_l, K_v, I_add, I_sub, I_mul, I_div, I_em, I_eq0, I_lt0, I_0lt, I_le0, I_0le, I_eq, I_lt, I_le, I_a1, I_r1, I_eq1, I32_at, I32_s, Int.toNat_natCast, List.set_cons_zero, reduceCtorEq, not_false_eq_true, not_true_eq_false, false_and, true_and, and_true, and_false, false_or, true_or, or_true, or_false, if_true, if_false, eq_self, ↓reduceIte, Int.reduceEq, Int.reduceLT, Int.reduceLE, Int.reduceAdd, Int.reduceSub, Int.reduceMul, Int.reduceNeg, Int.reduceToNat, Nat.reduceLT, Nat.reduceAdd, Nat.reduceEqDiff, List.length_cons, List.length_nil]
  exact hq
end sw_f2
