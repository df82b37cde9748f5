/-! ways and cut in the class -/
theorem sE {f : Nat → Int} {k : Nat} {v : Int} : sw_s f k v k = v := if_pos rfl
def SS (op R C q : Nat → Int) (z i : Nat) : Prop := (∀ t, t < i → (R t = 0 ∧ ¬ Sd op 1 t) ∨ (R t = 1 ∧ Sd op 1 t)) ∧ (∀ t, t < i → C t = -1) ∧ (∀ j, j < z → 0 ≤ q j ∧ q j < i ∧ R (q j).toNat = 1) ∧ (∀ t, t < i → R t = 1 → ∃ j, j < z ∧ q j = (t : Int)) ∧ (∀ i j, i < j → j < z → ¬ q i = q j) ∧ sm R i = z
theorem SS_z {op R C q : Nat → Int} {z i : Nat} (b : SS op R C q z i) : z ≤ i := by
  have := sm_b i fun t ht => (b.1 t ht).elim (fun q => Or.inl q.1) (fun q => Or.inr q.1)
  have := b.2.2.2.2.2
  omega
theorem SS_no {op R C q : Nat → Int} {z i : Nat} (h : ¬ Sd op 1 i) (b : SS op R C q z i) : SS op (sw_s R i 0) (sw_s C i (-1)) q z (i + 1) := by
  obtain ⟨b1, b2, b3, b4, b5, b6⟩ := b
  have rt : ∀ t, t < i → sw_s R i 0 t = R t := fun t ht => if_neg (by omega)
  refine ⟨fun t ht => ?_, fun t ht => ?_, fun j hj => ?_, fun t ht h1 => ?_, b5, ?_⟩
  · by_cases e : t = i
    · subst e; exact Or.inl ⟨sE, h⟩
    · rw [rt t (by omega)]; exact b1 t (by omega)
  · by_cases e : t = i
    · subst e; exact sE
    · show (if _ then _ else _) = _
      rw [if_neg e]; exact b2 t (by omega)
  · have := b3 j hj
    rw [rt _ (by omega)]
    exact ⟨this.1, by omega, this.2.2⟩
  · by_cases e : t = i
    · subst e; rw [sE] at h1; cases h1
    · rw [rt t (by omega)] at h1; exact b4 t (by omega) h1
  · show sm _ i + _ = _
    rw [sE, sm_c i rt, b6]; omega
theorem SS_up {op R C q : Nat → Int} {z i : Nat} (h : Sd op 1 i) (b : SS op R C q z i) : SS op (sw_s R i 1) (sw_s C i (-1)) (sw_s q z (i : Int)) (z + 1) (i + 1) := by
  obtain ⟨b1, b2, b3, b4, b5, b6⟩ := b
  have rt : ∀ t, t < i → sw_s R i 1 t = R t := fun t ht => if_neg (by omega)
  have qj : ∀ j, j < z → sw_s q z (i : Int) j = q j := fun j hj => if_neg (by omega)
  refine ⟨fun t ht => ?_, fun t ht => ?_, fun j hj => ?_, fun t ht h1 => ?_, fun a c hac hc => ?_, ?_⟩
  · by_cases e : t = i
    · subst e; exact Or.inr ⟨sE, h⟩
    · rw [rt t (by omega)]; exact b1 t (by omega)
  · by_cases e : t = i
    · subst e; exact sE
    · show (if _ then _ else _) = _
      rw [if_neg e]; exact b2 t (by omega)
  · by_cases e : j = z
    · subst e; rw [sE]; exact ⟨by omega, by omega, sE⟩
    · have := b3 j (by omega)
      rw [qj j (by omega), rt _ (by omega)]
      exact ⟨this.1, by omega, this.2.2⟩
  · by_cases e : t = i
    · exact ⟨z, by omega, by rw [sE, e]⟩
    · rw [rt t (by omega)] at h1
      obtain ⟨j, j1, j2⟩ := b4 t (by omega) h1
      exact ⟨j, by omega, by rw [qj j j1]; exact j2⟩
  · rw [qj a (by omega)]
    by_cases e : c = z
    · subst e; rw [sE]; have := b3 a hac; omega
    · rw [qj c (by omega)]; exact b5 a c hac (by omega)
  · show sm _ i + _ = _
    rw [sE, sm_c i rt, b6]; rfl
theorem SS_I {ob fl op R C q : Nat → Int} {z : Nat} (b : SS op R C q z 36) : SI ob fl op R C q z 0 0 := by
  obtain ⟨b1, b2, b3, b4, b5, b6⟩ := b
  refine ⟨fun t ht => (b1 t ht).elim (fun q => Or.inl q.1) (fun q => Or.inr q.1), b3, b4, b5, b6, Nat.zero_le _, fun t ht t0 o => ?_, fun j hj => ?_, fun j hj => absurd hj (Nat.not_lt_zero _), fun j d hj d0 d1 hd => by omega⟩
  · rcases b1 t ht with h | h
    · exact absurd ⟨by omega, (os_lr t ht).1.mpr t0⟩ h.2
    · exact h.1
  · have h := b3 j hj
    refine Or.inl ⟨b2 _ (by omega), ?_⟩
    rcases b1 (q j).toNat (by omega) with g | g
    · omega
    · exact (os_lr _ (by omega)).1.mp g.2.2
section sw_f1
variable {L : Nat} {A : Nat → Nat → Int} {F : Nat → Int} {T : Nat → sw_Ce} {X : Nat × Nat × Nat} {Q : sw_Ot → sw_HS → Prop}
def hF (L : Nat) (A : Nat → Nat → Int) (F : Nat → Int) (T : Nat → sw_Ce) (X : Nat × Nat × Nat) (R C q : Nat → Int) (h z : Int) : sw_HS := sw_h L (sw_s (sw_s (sw_s A 24 R) 25 C) 27 q) (sw_s (sw_s F 10 h) 11 z) T X
theorem m118_l (hop : ∀ i, i < 36 → A 17 i = 0 ∨ A 17 i = 1) : ∀ (n i z : Nat) (R C q : Nat → Int), i + n = 36 → SS (A 17) R C q z i → ∃ (R2 C2 q2 : Nat → Int) (z2 : Nat), SS (A 17) R2 C2 q2 z2 36 ∧ sw_A 118 9 [some (.ref 22), some (.ref 16), some (.int (Int32.ofInt i))] [] (hF L A F T X R C q 0 z) Q = Q (some none) (hF L A F T X R2 C2 q2 0 z2)
  | 0, i, z, R, C, q, hn, b => by
    have e : i = 36 := hn
    subst e
    refine ⟨R, C, q, z, b, ?_⟩
    rw [r118_9]
    simp (disch := omega) only [r118_10, r118_12, r118_73, sw_ldi, sw_ldl, sw_lda, sw_has1, sw_i1, sw_i2, sw_l1, sw_l2, sw_li, sw_r1, sw_ri, sw_rix, sw_rv, sw_pop, sw_set1, sw_set2, List.set_cons_zero, List.set_cons_succ, List.getElem?_cons_zero, List.getElem?_cons_succ, ald_1, ald_2, ast_1, ast_2, aln_1, aln_2, gf_1, gf_2, pf_1, pf_2, nw_1, ck_0, ck_1, ck_2, ck_3, ck_4, rr_1, rc_1, rc_2, K_i, K_l, K_v, I_add, I_sub, I_mul, I_div, I_em, I_eq0, I_lt0, I_0lt, I_le0, I_0le, I_eq, I_lt, I_le, I_a1, I_r1, I_eq1, I32_at, I32_s, Int.toNat_natCast, List.set_cons_zero, reduceCtorEq, not_false_eq_true, not_true_eq_false, false_and, true_and, and_true, and_false, false_or, true_or, or_true, or_false, if_true, if_false, eq_self, ↓reduceIte, Int.reduceEq, Int.reduceLT, Int.reduceLE, Int.reduceAdd, Int.reduceSub, Int.reduceMul, Int.reduceNeg, Int.reduceToNat, Nat.reduceLT, Nat.reduceAdd, Nat.reduceEqDiff, List.length_cons, List.length_nil, Int.le_refl]
    rfl
  | n + 1, i, z, R, C, q, hn, b => by
    have hi : i < 36 := by omega
    have o := hop i hi
    have fo := f_os_b i 1
    have bz := SS_z b
    by_cases hS : Sd (A 17) 1 i
    · obtain ⟨R2, C2, q2, z2, g1, g2⟩ := m118_l hop n (i + 1) (z + 1) _ _ _ (by omega) (SS_up hS b)
      refine ⟨R2, C2, q2, z2, g1, Eq.trans ?_ g2⟩
      have f11 : sw_s (sw_s F 10 0) 11 (z : Int) 11 = z := rfl
      unfold hF
      rw [r118_9]
      simp (disch := omega) only [r118_10, r118_12, r118_15, r118_16, r118_19, r118_20, r118_21, r118_24, r118_25, r118_26, sw_ldi, sw_ldl, sw_lda, sw_has1, sw_i1, sw_i2, sw_l1, sw_l2, sw_li, sw_r1, sw_ri, sw_rix, sw_rv, sw_pop, sw_set1, sw_set2, List.set_cons_zero, List.set_cons_succ, List.getElem?_cons_zero, List.getElem?_cons_succ, ald_1, ald_2, ast_1, ast_2, aln_1, aln_2, gf_1, gf_2, pf_1, pf_2, nw_1, ck_0, ck_1, ck_2, ck_3, ck_4, rr_1, rc_1, rc_2, K_i, K_l, K_v, I_add, I_sub, I_mul, I_div, I_em, I_eq0, I_lt0, I_0lt, I_le0, I_0le, I_eq, I_lt, I_le, I_a1, I_r1, I_eq1, I32_at, I32_s, Int.toNat_natCast, List.set_cons_zero, reduceCtorEq, not_false_eq_true, not_true_eq_false, false_and, true_and, and_true, and_false, false_or, true_or, or_true, or_false, if_true, if_false, eq_self, ↓reduceIte, Int.reduceEq, Int.reduceLT, Int.reduceLE, Int.reduceAdd, Int.reduceSub, Int.reduceMul, Int.reduceNeg, Int.reduceToNat, Nat.reduceLT, Nat.reduceAdd, Nat.reduceEqDiff, List.length_cons, List.length_nil, sA_at, ss, sA_cm, h_16, h_17, h_22]
      rw [if_neg (by omega), if_neg hS.1]
      simp (disch := omega) only [r118_29, r118_30, r118_31, r118_34, sw_ldi, sw_ldl, sw_lda, sw_has1, sw_i1, sw_i2, sw_l1, sw_l2, sw_li, sw_r1, sw_ri, sw_rix, sw_rv, sw_pop, sw_set1, sw_set2, List.set_cons_zero, List.set_cons_succ, List.getElem?_cons_zero, List.getElem?_cons_succ, ald_1, ald_2, ast_1, ast_2, aln_1, aln_2, gf_1, gf_2, pf_1, pf_2, nw_1, ck_0, ck_1, ck_2, ck_3, ck_4, rr_1, rc_1, rc_2, K_i, K_l, K_v, I_add, I_sub, I_mul, I_div, I_em, I_eq0, I_lt0, I_0lt, I_le0, I_0le, I_eq, I_lt, I_le, I_a1, I_r1, I_eq1, I32_at, I32_s, Int.toNat_natCast, List.set_cons_zero, reduceCtorEq, not_false_eq_true, not_true_eq_false, false_and, true_and, and_true, and_false, false_or, true_or, or_true, or_false, if_true, if_false, eq_self, ↓reduceIte, Int.reduceEq, Int.reduceLT, Int.reduceLE, Int.reduceAdd, Int.reduceSub, Int.reduceMul, Int.reduceNeg, Int.reduceToNat, Nat.reduceLT, Nat.reduceAdd, Nat.reduceEqDiff, List.length_cons, List.length_nil, m72]
      rw [if_neg (by rw [hS.2]; decide)]
      simp (disch := first | omega | (rw [f11]; omega)) only [r118_37, r118_38, r118_41, r118_42, r118_43, r118_44, r118_47, r118_48, r118_49, r118_50, r118_51, r118_54, r118_55, r118_56, r118_59, r118_60, r118_63, r118_64, sw_ldi, sw_ldl, sw_lda, sw_has1, sw_i1, sw_i2, sw_l1, sw_l2, sw_li, sw_r1, sw_ri, sw_rix, sw_rv, sw_pop, sw_set1, sw_set2, List.set_cons_zero, List.set_cons_succ, List.getElem?_cons_zero, List.getElem?_cons_succ, ald_1, ald_2, ast_1, ast_2, aln_1, aln_2, gf_1, gf_2, pf_1, pf_2, nw_1, ck_0, ck_1, ck_2, ck_3, ck_4, rr_1, rc_1, rc_2, K_i, K_l, K_v, I_add, I_sub, I_mul, I_div, I_em, I_eq0, I_lt0, I_0lt, I_le0, I_0le, I_eq, I_lt, I_le, I_a1, I_r1, I_eq1, I32_at, I32_s, Int.toNat_natCast, List.set_cons_zero, reduceCtorEq, not_false_eq_true, not_true_eq_false, false_and, true_and, and_true, and_false, false_or, true_or, or_true, or_false, if_true, if_false, eq_self, ↓reduceIte, Int.reduceEq, Int.reduceLT, Int.reduceLE, Int.reduceAdd, Int.reduceSub, Int.reduceMul, Int.reduceNeg, Int.reduceToNat, Nat.reduceLT, Nat.reduceAdd, Nat.reduceEqDiff, List.length_cons, List.length_nil, sA_at, ss, sA_cm, sE, h_22, h_24, h_25, w_24, w_25, h_26, m50_26]
      simp (disch := omega) only [r118_67, r118_70, sw_ldi, sw_ldl, sw_lda, sw_has1, sw_i1, sw_i2, sw_l1, sw_l2, sw_li, sw_r1, sw_ri, sw_rix, sw_rv, sw_pop, sw_set1, sw_set2, List.set_cons_zero, List.set_cons_succ, List.getElem?_cons_zero, List.getElem?_cons_succ, ald_1, ald_2, ast_1, ast_2, aln_1, aln_2, gf_1, gf_2, pf_1, pf_2, nw_1, ck_0, ck_1, ck_2, ck_3, ck_4, rr_1, rc_1, rc_2, K_i, K_l, K_v, I_add, I_sub, I_mul, I_div, I_em, I_eq0, I_lt0, I_0lt, I_le0, I_0le, I_eq, I_lt, I_le, I_a1, I_r1, I_eq1, I32_at, I32_s, Int.toNat_natCast, List.set_cons_zero, reduceCtorEq, not_false_eq_true, not_true_eq_false, false_and, true_and, and_true, and_false, false_or, true_or, or_true, or_false, if_true, if_false, eq_self, ↓reduceIte, Int.reduceEq, Int.reduceLT, Int.reduceLE, Int.reduceAdd, Int.reduceSub, Int.reduceMul, Int.reduceNeg, Int.reduceToNat, Nat.reduceLT, Nat.reduceAdd, Nat.reduceEqDiff, List.length_cons, List.length_nil, sA_at, ss, sA_cm, f11]
      rfl
    · obtain ⟨R2, C2, q2, z2, g1, g2⟩ := m118_l hop n (i + 1) z _ _ _ (by omega) (SS_no hS b)
      refine ⟨R2, C2, q2, z2, g1, Eq.trans ?_ g2⟩
      unfold hF
      rw [r118_9]
      simp (disch := omega) only [r118_10, r118_12, r118_15, r118_16, r118_19, r118_20, r118_21, r118_24, r118_25, r118_26, sw_ldi, sw_ldl, sw_lda, sw_has1, sw_i1, sw_i2, sw_l1, sw_l2, sw_li, sw_r1, sw_ri, sw_rix, sw_rv, sw_pop, sw_set1, sw_set2, List.set_cons_zero, List.set_cons_succ, List.getElem?_cons_zero, List.getElem?_cons_succ, ald_1, ald_2, ast_1, ast_2, aln_1, aln_2, gf_1, gf_2, pf_1, pf_2, nw_1, ck_0, ck_1, ck_2, ck_3, ck_4, rr_1, rc_1, rc_2, K_i, K_l, K_v, I_add, I_sub, I_mul, I_div, I_em, I_eq0, I_lt0, I_0lt, I_le0, I_0le, I_eq, I_lt, I_le, I_a1, I_r1, I_eq1, I32_at, I32_s, Int.toNat_natCast, List.set_cons_zero, reduceCtorEq, not_false_eq_true, not_true_eq_false, false_and, true_and, and_true, and_false, false_or, true_or, or_true, or_false, if_true, if_false, eq_self, ↓reduceIte, Int.reduceEq, Int.reduceLT, Int.reduceLE, Int.reduceAdd, Int.reduceSub, Int.reduceMul, Int.reduceNeg, Int.reduceToNat, Nat.reduceLT, Nat.reduceAdd, Nat.reduceEqDiff, List.length_cons, List.length_nil, sA_at, ss, sA_cm, h_16, h_17, h_22]
      rw [if_neg (by omega)]
      by_cases c : A 17 i = 0
      · rw [if_pos c]
        simp (disch := omega) only [r118_41, r118_42, r118_43, r118_44, r118_47, r118_48, r118_49, r118_50, r118_51, r118_54, r118_55, r118_56, r118_59, r118_60, r118_63, r118_64, r118_67, r118_70, sw_ldi, sw_ldl, sw_lda, sw_has1, sw_i1, sw_i2, sw_l1, sw_l2, sw_li, sw_r1, sw_ri, sw_rix, sw_rv, sw_pop, sw_set1, sw_set2, List.set_cons_zero, List.set_cons_succ, List.getElem?_cons_zero, List.getElem?_cons_succ, ald_1, ald_2, ast_1, ast_2, aln_1, aln_2, gf_1, gf_2, pf_1, pf_2, nw_1, ck_0, ck_1, ck_2, ck_3, ck_4, rr_1, rc_1, rc_2, K_i, K_l, K_v, I_add, I_sub, I_mul, I_div, I_em, I_eq0, I_lt0, I_0lt, I_le0, I_0le, I_eq, I_lt, I_le, I_a1, I_r1, I_eq1, I32_at, I32_s, Int.toNat_natCast, List.set_cons_zero, reduceCtorEq, not_false_eq_true, not_true_eq_false, false_and, true_and, and_true, and_false, false_or, true_or, or_true, or_false, if_true, if_false, eq_self, ↓reduceIte, Int.reduceEq, Int.reduceLT, Int.reduceLE, Int.reduceAdd, Int.reduceSub, Int.reduceMul, Int.reduceNeg, Int.reduceToNat, Nat.reduceLT, Nat.reduceAdd, Nat.reduceEqDiff, List.length_cons, List.length_nil, sA_at, ss, sA_cm, sE, h_22, h_24, h_25, w_24, w_25]
        rfl
      · rw [if_neg c]
        simp (disch := omega) only [r118_29, r118_30, r118_31, r118_34, sw_ldi, sw_ldl, sw_lda, sw_has1, sw_i1, sw_i2, sw_l1, sw_l2, sw_li, sw_r1, sw_ri, sw_rix, sw_rv, sw_pop, sw_set1, sw_set2, List.set_cons_zero, List.set_cons_succ, List.getElem?_cons_zero, List.getElem?_cons_succ, ald_1, ald_2, ast_1, ast_2, aln_1, aln_2, gf_1, gf_2, pf_1, pf_2, nw_1, ck_0, ck_1, ck_2, ck_3, ck_4, rr_1, rc_1, rc_2, K_i, K_l, K_v, I_add, I_sub, I_mul, I_div, I_em, I_eq0, I_lt0, I_0lt, I_le0, I_0le, I_eq, I_lt, I_le, I_a1, I_r1, I_eq1, I32_at, I32_s, Int.toNat_natCast, List.set_cons_zero, reduceCtorEq, not_false_eq_true, not_true_eq_false, false_and, true_and, and_true, and_false, false_or, true_or, or_true, or_false, if_true, if_false, eq_self, ↓reduceIte, Int.reduceEq, Int.reduceLT, Int.reduceLE, Int.reduceAdd, Int.reduceSub, Int.reduceMul, Int.reduceNeg, Int.reduceToNat, Nat.reduceLT, Nat.reduceAdd, Nat.reduceEqDiff, List.length_cons, List.length_nil, m72]
        rw [if_pos (by rcases fo with q | q; exact q; exact absurd ⟨c, q⟩ hS)]
        simp (disch := omega) only [r118_41, r118_42, r118_43, r118_44, r118_47, r118_48, r118_49, r118_50, r118_51, r118_54, r118_55, r118_56, r118_59, r118_60, r118_63, r118_64, r118_67, r118_70, sw_ldi, sw_ldl, sw_lda, sw_has1, sw_i1, sw_i2, sw_l1, sw_l2, sw_li, sw_r1, sw_ri, sw_rix, sw_rv, sw_pop, sw_set1, sw_set2, List.set_cons_zero, List.set_cons_succ, List.getElem?_cons_zero, List.getElem?_cons_succ, ald_1, ald_2, ast_1, ast_2, aln_1, aln_2, gf_1, gf_2, pf_1, pf_2, nw_1, ck_0, ck_1, ck_2, ck_3, ck_4, rr_1, rc_1, rc_2, K_i, K_l, K_v, I_add, I_sub, I_mul, I_div, I_em, I_eq0, I_lt0, I_0lt, I_le0, I_0le, I_eq, I_lt, I_le, I_a1, I_r1, I_eq1, I32_at, I32_s, Int.toNat_natCast, List.set_cons_zero, reduceCtorEq, not_false_eq_true, not_true_eq_false, false_and, true_and, and_true, and_false, false_or, true_or, or_true, or_false, if_true, if_false, eq_self, ↓reduceIte, Int.reduceEq, Int.reduceLT, Int.reduceLE, Int.reduceAdd, Int.reduceSub, Int.reduceMul, Int.reduceNeg, Int.reduceToNat, Nat.reduceLT, Nat.reduceAdd, Nat.reduceEqDiff, List.length_cons, List.length_nil, sA_at, ss, sA_cm, sE, h_22, h_24, h_25, w_24, w_25]
        rfl
/-- startAtLeft -/
theorem m118 {ob fl : Nat → Int} (hop : ∀ i, i < 36 → A 17 i = 0 ∨ A 17 i = 1) : ∃ (R C q : Nat → Int) (z : Nat), SI ob fl (A 17) R C q z 0 0 ∧ sw_M 118 [.ref 22, .ref 16] (sw_h L A F T X) Q = Q (some none) (hF L A F T X R C q 0 z) := by
  obtain ⟨R, C, q, z, g1, g2⟩ := m118_l (L := L) (F := F) (T := T) (X := X) (Q := Q) hop 36 0 0 (A 24) (A 25) (A 27) (by omega) ⟨fun t ht => absurd ht (Nat.not_lt_zero _), fun t ht => absurd ht (Nat.not_lt_zero _), fun t ht => absurd ht (Nat.not_lt_zero _), fun t ht => absurd ht (Nat.not_lt_zero _), fun i j _ hj => absurd hj (Nat.not_lt_zero _), rfl⟩
  refine ⟨R, C, q, z, SS_I g1, Eq.trans ?_ g2⟩
  rw [e118]
  simp (disch := omega) only [r118_0, r118_1, r118_4, r118_7, r118_8, sw_ldi, sw_ldl, sw_lda, sw_has1, sw_i1, sw_i2, sw_l1, sw_l2, sw_li, sw_r1, sw_ri, sw_rix, sw_rv, sw_pop, sw_set1, sw_set2, List.set_cons_zero, List.set_cons_succ, List.getElem?_cons_zero, List.getElem?_cons_succ, ald_1, ald_2, ast_1, ast_2, aln_1, aln_2, gf_1, gf_2, pf_1, pf_2, nw_1, ck_0, ck_1, ck_2, ck_3, ck_4, rr_1, rc_1, rc_2, K_i, K_l, K_v, I_add, I_sub, I_mul, I_div, I_em, I_eq0, I_lt0, I_0lt, I_le0, I_0le, I_eq, I_lt, I_le, I_a1, I_r1, I_eq1, I32_at, I32_s, Int.toNat_natCast, List.set_cons_zero, reduceCtorEq, not_false_eq_true, not_true_eq_false, false_and, true_and, and_true, and_false, false_or, true_or, or_true, or_false, if_true, if_false, eq_self, ↓reduceIte, Int.reduceEq, Int.reduceLT, Int.reduceLE, Int.reduceAdd, Int.reduceSub, Int.reduceMul, Int.reduceNeg, Int.reduceToNat, Nat.reduceLT, Nat.reduceAdd, Nat.reduceEqDiff, List.length_cons, List.length_nil, h_22, h_26, m49_26]
  unfold hF
  rw [sA_id A 24, sA_id A 25, sA_id A 27]
  rfl
/-- isFree -/
theorem m119 {s n : Int} (s0 : 0 ≤ s) (s1 : s < 36) (n0 : 0 ≤ n) (n1 : n < 36) (hb : 0 ≤ f_bb s n ∧ f_bb s n < 60) (hob : ∀ b, b < 60 → A 18 b = 0 ∨ A 18 b = 1) (hfl : ∀ b, b < 60 → -1 ≤ A 23 b ∧ A 23 b ≤ 1) : sw_M 119 [.ref 22, .ref 16, .int (Int32.ofInt s), .int (Int32.ofInt n)] (sw_h L A F T X) Q = Q (some (some (.int (Int32.ofInt (fr1 (A 18) (A 23) s n))))) (sw_h L A F T X) := by
  have o := hob (f_bb s n).toNat (by omega)
  have f := hfl (f_bb s n).toNat (by omega)
  rw [e119]
  simp (disch := omega) only [r119_0, r119_1, r119_2, r119_5, r119_7, r119_8, r119_9, sw_ldi, sw_ldl, sw_lda, sw_has1, sw_i1, sw_i2, sw_l1, sw_l2, sw_li, sw_r1, sw_ri, sw_rix, sw_rv, sw_pop, sw_set1, sw_set2, List.set_cons_zero, List.set_cons_succ, List.getElem?_cons_zero, List.getElem?_cons_succ, ald_1, ald_2, ast_1, ast_2, aln_1, aln_2, gf_1, gf_2, pf_1, pf_2, nw_1, ck_0, ck_1, ck_2, ck_3, ck_4, rr_1, rc_1, rc_2, K_i, K_l, K_v, I_add, I_sub, I_mul, I_div, I_em, I_eq0, I_lt0, I_0lt, I_le0, I_0le, I_eq, I_lt, I_le, I_a1, I_r1, I_eq1, I32_at, I32_s, Int.toNat_natCast, List.set_cons_zero, reduceCtorEq, not_false_eq_true, not_true_eq_false, false_and, true_and, and_true, and_false, false_or, true_or, or_true, or_false, if_true, if_false, eq_self, ↓reduceIte, Int.reduceEq, Int.reduceLT, Int.reduceLE, Int.reduceAdd, Int.reduceSub, Int.reduceMul, Int.reduceNeg, Int.reduceToNat, Nat.reduceLT, Nat.reduceAdd, Nat.reduceEqDiff, List.length_cons, List.length_nil, m89]
  unfold fr1
  by_cases c : s < n
  · rw [if_neg (by omega), if_pos c]
    simp (disch := omega) only [r119_12, r119_13, r119_16, r119_18, r119_19, r119_22, r119_23, r119_26, r119_27, r119_30, r119_31, r119_34, r119_36, r119_37, r119_40, r119_41, r119_44, r119_45, r119_47, r119_48, r119_51, r119_53, r119_54, r119_57, r119_59, r119_62, r119_63, r119_66, r119_67, sw_ldi, sw_ldl, sw_lda, sw_has1, sw_i1, sw_i2, sw_l1, sw_l2, sw_li, sw_r1, sw_ri, sw_rix, sw_rv, sw_pop, sw_set1, sw_set2, List.set_cons_zero, List.set_cons_succ, List.getElem?_cons_zero, List.getElem?_cons_succ, ald_1, ald_2, ast_1, ast_2, aln_1, aln_2, gf_1, gf_2, pf_1, pf_2, nw_1, ck_0, ck_1, ck_2, ck_3, ck_4, rr_1, rc_1, rc_2, K_i, K_l, K_v, I_add, I_sub, I_mul, I_div, I_em, I_eq0, I_lt0, I_0lt, I_le0, I_0le, I_eq, I_lt, I_le, I_a1, I_r1, I_eq1, I32_at, I32_s, Int.toNat_natCast, List.set_cons_zero, reduceCtorEq, not_false_eq_true, not_true_eq_false, false_and, true_and, and_true, and_false, false_or, true_or, or_true, or_false, if_true, if_false, eq_self, ↓reduceIte, Int.reduceEq, Int.reduceLT, Int.reduceLE, Int.reduceAdd, Int.reduceSub, Int.reduceMul, Int.reduceNeg, Int.reduceToNat, Nat.reduceLT, Nat.reduceAdd, Nat.reduceEqDiff, List.length_cons, List.length_nil, h_16, h_18, h_22, h_23]
    (repeat' split) <;> first | rfl | (exfalso; omega)
  · rw [if_pos (by omega), if_neg c]
    simp (disch := omega) only [r119_30, r119_31, r119_34, r119_36, r119_37, r119_40, r119_41, r119_44, r119_45, r119_47, r119_48, r119_51, r119_53, r119_54, r119_57, r119_59, r119_62, r119_63, r119_66, r119_67, sw_ldi, sw_ldl, sw_lda, sw_has1, sw_i1, sw_i2, sw_l1, sw_l2, sw_li, sw_r1, sw_ri, sw_rix, sw_rv, sw_pop, sw_set1, sw_set2, List.set_cons_zero, List.set_cons_succ, List.getElem?_cons_zero, List.getElem?_cons_succ, ald_1, ald_2, ast_1, ast_2, aln_1, aln_2, gf_1, gf_2, pf_1, pf_2, nw_1, ck_0, ck_1, ck_2, ck_3, ck_4, rr_1, rc_1, rc_2, K_i, K_l, K_v, I_add, I_sub, I_mul, I_div, I_em, I_eq0, I_lt0, I_0lt, I_le0, I_0le, I_eq, I_lt, I_le, I_a1, I_r1, I_eq1, I32_at, I32_s, Int.toNat_natCast, List.set_cons_zero, reduceCtorEq, not_false_eq_true, not_true_eq_false, false_and, true_and, and_true, and_false, false_or, true_or, or_true, or_false, if_true, if_false, eq_self, ↓reduceIte, Int.reduceEq, Int.reduceLT, Int.reduceLE, Int.reduceAdd, Int.reduceSub, Int.reduceMul, Int.reduceNeg, Int.reduceToNat, Nat.reduceLT, Nat.reduceAdd, Nat.reduceEqDiff, List.length_cons, List.length_nil, h_16, h_18, h_22, h_23]
    (repeat' split) <;> first | rfl | (exfalso; omega)
theorem m120_d (hob : ∀ b, b < 60 → A 18 b = 0 ∨ A 18 b = 1) (hfl : ∀ b, b < 60 → -1 ≤ A 23 b ∧ A 23 b ≤ 1) {h : Nat} {s : Int} : ∀ (n z : Nat) (d : Int) (R C q : Nat → Int) (x : Option Value), d + n = 4 → 0 ≤ d → h < z → q h = s → SI (A 18) (A 23) (A 17) R C q z h d → ∃ (R2 C2 q2 : Nat → Int) (z2 : Nat) (x2 y2 : Option Value), h < z2 ∧ q2 h = s ∧ SI (A 18) (A 23) (A 17) R2 C2 q2 z2 h 4 ∧ sw_A 120 39 [some (.ref 22), some (.ref 16), some (.int (Int32.ofInt h)), some (.int (Int32.ofInt s)), some (.int (Int32.ofInt d)), x] [] (hF L A F T X R C q (h + 1) z) Q = sw_A 120 7 [some (.ref 22), some (.ref 16), some (.int (Int32.ofInt (h + 1))), some (.int (Int32.ofInt s)), x2, y2] [] (hF L A F T X R2 C2 q2 (h + 1) z2) Q
  | 0, z, d, R, C, q, x, hn, d0, hz, hs, b => by
    have e : d = 4 := by omega
    subst e
    have bz := SI_z b
    refine ⟨R, C, q, z, some (.int (Int32.ofInt 4)), x, hz, hs, b, ?_⟩
    rw [r120_39]
    simp (disch := omega) only [r120_41, r120_42, r120_116, r120_119, sw_ldi, sw_ldl, sw_lda, sw_has1, sw_i1, sw_i2, sw_l1, sw_l2, sw_li, sw_r1, sw_ri, sw_rix, sw_rv, sw_pop, sw_set1, sw_set2, List.set_cons_zero, List.set_cons_succ, List.getElem?_cons_zero, List.getElem?_cons_succ, ald_1, ald_2, ast_1, ast_2, aln_1, aln_2, gf_1, gf_2, pf_1, pf_2, nw_1, ck_0, ck_1, ck_2, ck_3, ck_4, rr_1, rc_1, rc_2, K_i, K_l, K_v, I_add, I_sub, I_mul, I_div, I_em, I_eq0, I_lt0, I_0lt, I_le0, I_0le, I_eq, I_lt, I_le, I_a1, I_r1, I_eq1, I32_at, I32_s, Int.toNat_natCast, List.set_cons_zero, reduceCtorEq, not_false_eq_true, not_true_eq_false, false_and, true_and, and_true, and_false, false_or, true_or, or_true, or_false, if_true, if_false, eq_self, ↓reduceIte, Int.reduceEq, Int.reduceLT, Int.reduceLE, Int.reduceAdd, Int.reduceSub, Int.reduceMul, Int.reduceNeg, Int.reduceToNat, Nat.reduceLT, Nat.reduceAdd, Nat.reduceEqDiff, List.length_cons, List.length_nil, Int.le_refl]
  | n + 1, z, d, R, C, q, x, hn, d0, hz, hs, b => by
    have bz := SI_z b
    have qh := b.2.1 h hz
    rw [hs] at qh
    have sb := f_sb_b qh.1 qh.2.1 d0 (show d < 4 by omega)
    by_cases c1 : f_sb s d = -1
    · obtain ⟨R2, C2, q2, z2, x2, y2, g1, g2, g3, g4⟩ := m120_d hob hfl n z (d + 1) R C q (some (.int (Int32.ofInt (-1)))) (by omega) (by omega) hz hs (SI_no b fun _ => by rw [hs]; exact Or.inl c1)
      refine ⟨R2, C2, q2, z2, x2, y2, g1, g2, g3, Eq.trans ?_ g4⟩
      rw [r120_39]
      simp (disch := omega) only [r120_41, r120_42, r120_45, r120_46, r120_48, r120_51, r120_53, r120_55, r120_56, sw_ldi, sw_ldl, sw_lda, sw_has1, sw_i1, sw_i2, sw_l1, sw_l2, sw_li, sw_r1, sw_ri, sw_rix, sw_rv, sw_pop, sw_set1, sw_set2, List.set_cons_zero, List.set_cons_succ, List.getElem?_cons_zero, List.getElem?_cons_succ, ald_1, ald_2, ast_1, ast_2, aln_1, aln_2, gf_1, gf_2, pf_1, pf_2, nw_1, ck_0, ck_1, ck_2, ck_3, ck_4, rr_1, rc_1, rc_2, K_i, K_l, K_v, I_add, I_sub, I_mul, I_div, I_em, I_eq0, I_lt0, I_0lt, I_le0, I_0le, I_eq, I_lt, I_le, I_a1, I_r1, I_eq1, I32_at, I32_s, Int.toNat_natCast, List.set_cons_zero, reduceCtorEq, not_false_eq_true, not_true_eq_false, false_and, true_and, and_true, and_false, false_or, true_or, or_true, or_false, if_true, if_false, eq_self, ↓reduceIte, Int.reduceEq, Int.reduceLT, Int.reduceLE, Int.reduceAdd, Int.reduceSub, Int.reduceMul, Int.reduceNeg, Int.reduceToNat, Nat.reduceLT, Nat.reduceAdd, Nat.reduceEqDiff, List.length_cons, List.length_nil, m32, c1]
      rw [if_neg (by omega)]
      simp (disch := omega) only [r120_110, r120_113, sw_ldi, sw_ldl, sw_lda, sw_has1, sw_i1, sw_i2, sw_l1, sw_l2, sw_li, sw_r1, sw_ri, sw_rix, sw_rv, sw_pop, sw_set1, sw_set2, List.set_cons_zero, List.set_cons_succ, List.getElem?_cons_zero, List.getElem?_cons_succ, ald_1, ald_2, ast_1, ast_2, aln_1, aln_2, gf_1, gf_2, pf_1, pf_2, nw_1, ck_0, ck_1, ck_2, ck_3, ck_4, rr_1, rc_1, rc_2, K_i, K_l, K_v, I_add, I_sub, I_mul, I_div, I_em, I_eq0, I_lt0, I_0lt, I_le0, I_0le, I_eq, I_lt, I_le, I_a1, I_r1, I_eq1, I32_at, I32_s, Int.toNat_natCast, List.set_cons_zero, reduceCtorEq, not_false_eq_true, not_true_eq_false, false_and, true_and, and_true, and_false, false_or, true_or, or_true, or_false, if_true, if_false, eq_self, ↓reduceIte, Int.reduceEq, Int.reduceLT, Int.reduceLE, Int.reduceAdd, Int.reduceSub, Int.reduceMul, Int.reduceNeg, Int.reduceToNat, Nat.reduceLT, Nat.reduceAdd, Nat.reduceEqDiff, List.length_cons, List.length_nil]
    · have bb := f_bb_b qh.1 qh.2.1 d0 (show d < 4 by omega) c1
      have r1 := b.1 (f_sb s d).toNat (by omega)
      by_cases c2 : R (f_sb s d).toNat = 1
      · obtain ⟨R2, C2, q2, z2, x2, y2, g1, g2, g3, g4⟩ := m120_d hob hfl n z (d + 1) R C q (some (.int (Int32.ofInt (f_sb s d)))) (by omega) (by omega) hz hs (SI_no b fun _ => by rw [hs]; exact Or.inr (Or.inl c2))
        refine ⟨R2, C2, q2, z2, x2, y2, g1, g2, g3, Eq.trans ?_ g4⟩
        unfold hF
        rw [r120_39]
        simp (disch := omega) only [r120_41, r120_42, r120_45, r120_46, r120_48, r120_51, r120_53, sw_ldi, sw_ldl, sw_lda, sw_has1, sw_i1, sw_i2, sw_l1, sw_l2, sw_li, sw_r1, sw_ri, sw_rix, sw_rv, sw_pop, sw_set1, sw_set2, List.set_cons_zero, List.set_cons_succ, List.getElem?_cons_zero, List.getElem?_cons_succ, ald_1, ald_2, ast_1, ast_2, aln_1, aln_2, gf_1, gf_2, pf_1, pf_2, nw_1, ck_0, ck_1, ck_2, ck_3, ck_4, rr_1, rc_1, rc_2, K_i, K_l, K_v, I_add, I_sub, I_mul, I_div, I_em, I_eq0, I_lt0, I_0lt, I_le0, I_0le, I_eq, I_lt, I_le, I_a1, I_r1, I_eq1, I32_at, I32_s, Int.toNat_natCast, List.set_cons_zero, reduceCtorEq, not_false_eq_true, not_true_eq_false, false_and, true_and, and_true, and_false, false_or, true_or, or_true, or_false, if_true, if_false, eq_self, ↓reduceIte, Int.reduceEq, Int.reduceLT, Int.reduceLE, Int.reduceAdd, Int.reduceSub, Int.reduceMul, Int.reduceNeg, Int.reduceToNat, Nat.reduceLT, Nat.reduceAdd, Nat.reduceEqDiff, List.length_cons, List.length_nil, m32]
        rw [if_neg (by omega)]
        simp (disch := omega) only [r120_55, r120_56, r120_59, r120_60, r120_63, r120_65, r120_66, sw_ldi, sw_ldl, sw_lda, sw_has1, sw_i1, sw_i2, sw_l1, sw_l2, sw_li, sw_r1, sw_ri, sw_rix, sw_rv, sw_pop, sw_set1, sw_set2, List.set_cons_zero, List.set_cons_succ, List.getElem?_cons_zero, List.getElem?_cons_succ, ald_1, ald_2, ast_1, ast_2, aln_1, aln_2, gf_1, gf_2, pf_1, pf_2, nw_1, ck_0, ck_1, ck_2, ck_3, ck_4, rr_1, rc_1, rc_2, K_i, K_l, K_v, I_add, I_sub, I_mul, I_div, I_em, I_eq0, I_lt0, I_0lt, I_le0, I_0le, I_eq, I_lt, I_le, I_a1, I_r1, I_eq1, I32_at, I32_s, Int.toNat_natCast, List.set_cons_zero, reduceCtorEq, not_false_eq_true, not_true_eq_false, false_and, true_and, and_true, and_false, false_or, true_or, or_true, or_false, if_true, if_false, eq_self, ↓reduceIte, Int.reduceEq, Int.reduceLT, Int.reduceLE, Int.reduceAdd, Int.reduceSub, Int.reduceMul, Int.reduceNeg, Int.reduceToNat, Nat.reduceLT, Nat.reduceAdd, Nat.reduceEqDiff, List.length_cons, List.length_nil, sA_at, ss, sA_cm, h_22, h_24, c2]
        rw [if_neg c1]
        simp (disch := omega) only [r120_110, r120_113, sw_ldi, sw_ldl, sw_lda, sw_has1, sw_i1, sw_i2, sw_l1, sw_l2, sw_li, sw_r1, sw_ri, sw_rix, sw_rv, sw_pop, sw_set1, sw_set2, List.set_cons_zero, List.set_cons_succ, List.getElem?_cons_zero, List.getElem?_cons_succ, ald_1, ald_2, ast_1, ast_2, aln_1, aln_2, gf_1, gf_2, pf_1, pf_2, nw_1, ck_0, ck_1, ck_2, ck_3, ck_4, rr_1, rc_1, rc_2, K_i, K_l, K_v, I_add, I_sub, I_mul, I_div, I_em, I_eq0, I_lt0, I_0lt, I_le0, I_0le, I_eq, I_lt, I_le, I_a1, I_r1, I_eq1, I32_at, I32_s, Int.toNat_natCast, List.set_cons_zero, reduceCtorEq, not_false_eq_true, not_true_eq_false, false_and, true_and, and_true, and_false, false_or, true_or, or_true, or_false, if_true, if_false, eq_self, ↓reduceIte, Int.reduceEq, Int.reduceLT, Int.reduceLE, Int.reduceAdd, Int.reduceSub, Int.reduceMul, Int.reduceNeg, Int.reduceToNat, Nat.reduceLT, Nat.reduceAdd, Nat.reduceEqDiff, List.length_cons, List.length_nil]
      · have c2' : R (f_sb s d).toNat = 0 := by omega
        have mf := m119 (L := L) (A := sw_s (sw_s (sw_s A 24 R) 25 C) 27 q) (F := sw_s (sw_s F 10 (h + 1)) 11 z) (T := T) (X := X) (Q := sw_K 120 77 none [some (.ref 22), some (.ref 16), some (.int (Int32.ofInt h)), some (.int (Int32.ofInt s)), some (.int (Int32.ofInt d)), some (.int (Int32.ofInt (f_sb s d)))] [] Q) qh.1 qh.2.1 (show 0 ≤ f_sb s d by omega) sb.2 bb hob hfl
        have f18 : sw_s (sw_s (sw_s A 24 R) 25 C) 27 q 18 = A 18 := rfl
        have f23 : sw_s (sw_s (sw_s A 24 R) 25 C) 27 q 23 = A 23 := rfl
        rw [f18, f23] at mf
        have fb := fr1_b (A 18) (A 23) s (f_sb s d)
        by_cases c3 : fr1 (A 18) (A 23) s (f_sb s d) = 0
        · obtain ⟨R2, C2, q2, z2, x2, y2, g1, g2, g3, g4⟩ := m120_d hob hfl n z (d + 1) R C q (some (.int (Int32.ofInt (f_sb s d)))) (by omega) (by omega) hz hs (SI_no b fun _ => by rw [hs]; exact Or.inr (Or.inr c3))
          refine ⟨R2, C2, q2, z2, x2, y2, g1, g2, g3, Eq.trans ?_ g4⟩
          rw [c3] at mf
          unfold hF
          rw [r120_39]
          simp (disch := omega) only [r120_41, r120_42, r120_45, r120_46, r120_48, r120_51, r120_53, sw_ldi, sw_ldl, sw_lda, sw_has1, sw_i1, sw_i2, sw_l1, sw_l2, sw_li, sw_r1, sw_ri, sw_rix, sw_rv, sw_pop, sw_set1, sw_set2, List.set_cons_zero, List.set_cons_succ, List.getElem?_cons_zero, List.getElem?_cons_succ, ald_1, ald_2, ast_1, ast_2, aln_1, aln_2, gf_1, gf_2, pf_1, pf_2, nw_1, ck_0, ck_1, ck_2, ck_3, ck_4, rr_1, rc_1, rc_2, K_i, K_l, K_v, I_add, I_sub, I_mul, I_div, I_em, I_eq0, I_lt0, I_0lt, I_le0, I_0le, I_eq, I_lt, I_le, I_a1, I_r1, I_eq1, I32_at, I32_s, Int.toNat_natCast, List.set_cons_zero, reduceCtorEq, not_false_eq_true, not_true_eq_false, false_and, true_and, and_true, and_false, false_or, true_or, or_true, or_false, if_true, if_false, eq_self, ↓reduceIte, Int.reduceEq, Int.reduceLT, Int.reduceLE, Int.reduceAdd, Int.reduceSub, Int.reduceMul, Int.reduceNeg, Int.reduceToNat, Nat.reduceLT, Nat.reduceAdd, Nat.reduceEqDiff, List.length_cons, List.length_nil, m32]
          rw [if_neg (by omega)]
          simp (disch := omega) only [r120_55, r120_56, sw_ldi, sw_ldl, sw_lda, sw_has1, sw_i1, sw_i2, sw_l1, sw_l2, sw_li, sw_r1, sw_ri, sw_rix, sw_rv, sw_pop, sw_set1, sw_set2, List.set_cons_zero, List.set_cons_succ, List.getElem?_cons_zero, List.getElem?_cons_succ, ald_1, ald_2, ast_1, ast_2, aln_1, aln_2, gf_1, gf_2, pf_1, pf_2, nw_1, ck_0, ck_1, ck_2, ck_3, ck_4, rr_1, rc_1, rc_2, K_i, K_l, K_v, I_add, I_sub, I_mul, I_div, I_em, I_eq0, I_lt0, I_0lt, I_le0, I_0le, I_eq, I_lt, I_le, I_a1, I_r1, I_eq1, I32_at, I32_s, Int.toNat_natCast, List.set_cons_zero, reduceCtorEq, not_false_eq_true, not_true_eq_false, false_and, true_and, and_true, and_false, false_or, true_or, or_true, or_false, if_true, if_false, eq_self, ↓reduceIte, Int.reduceEq, Int.reduceLT, Int.reduceLE, Int.reduceAdd, Int.reduceSub, Int.reduceMul, Int.reduceNeg, Int.reduceToNat, Nat.reduceLT, Nat.reduceAdd, Nat.reduceEqDiff, List.length_cons, List.length_nil]
          rw [if_neg c1]
          simp (disch := omega) only [r120_59, r120_60, r120_63, r120_65, r120_66, r120_69, r120_70, r120_71, r120_72, r120_74, sw_ldi, sw_ldl, sw_lda, sw_has1, sw_i1, sw_i2, sw_l1, sw_l2, sw_li, sw_r1, sw_ri, sw_rix, sw_rv, sw_pop, sw_set1, sw_set2, List.set_cons_zero, List.set_cons_succ, List.getElem?_cons_zero, List.getElem?_cons_succ, ald_1, ald_2, ast_1, ast_2, aln_1, aln_2, gf_1, gf_2, pf_1, pf_2, nw_1, ck_0, ck_1, ck_2, ck_3, ck_4, rr_1, rc_1, rc_2, K_i, K_l, K_v, I_add, I_sub, I_mul, I_div, I_em, I_eq0, I_lt0, I_0lt, I_le0, I_0le, I_eq, I_lt, I_le, I_a1, I_r1, I_eq1, I32_at, I32_s, Int.toNat_natCast, List.set_cons_zero, reduceCtorEq, not_false_eq_true, not_true_eq_false, false_and, true_and, and_true, and_false, false_or, true_or, or_true, or_false, if_true, if_false, eq_self, ↓reduceIte, Int.reduceEq, Int.reduceLT, Int.reduceLE, Int.reduceAdd, Int.reduceSub, Int.reduceMul, Int.reduceNeg, Int.reduceToNat, Nat.reduceLT, Nat.reduceAdd, Nat.reduceEqDiff, List.length_cons, List.length_nil, sA_at, ss, sA_cm, h_22, h_24, c2']
          rw [mf]
          simp (disch := omega) only [r120_77, r120_110, r120_113, sw_ldi, sw_ldl, sw_lda, sw_has1, sw_i1, sw_i2, sw_l1, sw_l2, sw_li, sw_r1, sw_ri, sw_rix, sw_rv, sw_pop, sw_set1, sw_set2, List.set_cons_zero, List.set_cons_succ, List.getElem?_cons_zero, List.getElem?_cons_succ, ald_1, ald_2, ast_1, ast_2, aln_1, aln_2, gf_1, gf_2, pf_1, pf_2, nw_1, ck_0, ck_1, ck_2, ck_3, ck_4, rr_1, rc_1, rc_2, K_i, K_l, K_v, I_add, I_sub, I_mul, I_div, I_em, I_eq0, I_lt0, I_0lt, I_le0, I_0le, I_eq, I_lt, I_le, I_a1, I_r1, I_eq1, I32_at, I32_s, Int.toNat_natCast, List.set_cons_zero, reduceCtorEq, not_false_eq_true, not_true_eq_false, false_and, true_and, and_true, and_false, false_or, true_or, or_true, or_false, if_true, if_false, eq_self, ↓reduceIte, Int.reduceEq, Int.reduceLT, Int.reduceLE, Int.reduceAdd, Int.reduceSub, Int.reduceMul, Int.reduceNeg, Int.reduceToNat, Nat.reduceLT, Nat.reduceAdd, Nat.reduceEqDiff, List.length_cons, List.length_nil]
        · have c3' : fr1 (A 18) (A 23) s (f_sb s d) = 1 := by omega
          have up := SI_up hob hz d0 (show d < 4 by omega) b (by rw [hs]; exact c1) (by rw [hs]; exact c2) (by rw [hs]; exact c3)
          rw [hs] at up
          obtain ⟨z36, up⟩ := up
          obtain ⟨R2, C2, q2, z2, x2, y2, g1, g2, g3, g4⟩ := m120_d hob hfl (s := s) n (z + 1) (d + 1) _ _ _ (some (.int (Int32.ofInt (f_sb s d)))) (by omega) (by omega) (by omega) (by unfold sw_s; rw [if_neg (by omega)]; exact hs) up
          refine ⟨R2, C2, q2, z2, x2, y2, g1, g2, g3, Eq.trans ?_ g4⟩
          rw [c3'] at mf
          have f11 : sw_s (sw_s F 10 ((h : Int) + 1)) 11 (z : Int) 11 = z := rfl
          unfold hF
          rw [r120_39]
          simp (disch := omega) only [r120_41, r120_42, r120_45, r120_46, r120_48, r120_51, r120_53, sw_ldi, sw_ldl, sw_lda, sw_has1, sw_i1, sw_i2, sw_l1, sw_l2, sw_li, sw_r1, sw_ri, sw_rix, sw_rv, sw_pop, sw_set1, sw_set2, List.set_cons_zero, List.set_cons_succ, List.getElem?_cons_zero, List.getElem?_cons_succ, ald_1, ald_2, ast_1, ast_2, aln_1, aln_2, gf_1, gf_2, pf_1, pf_2, nw_1, ck_0, ck_1, ck_2, ck_3, ck_4, rr_1, rc_1, rc_2, K_i, K_l, K_v, I_add, I_sub, I_mul, I_div, I_em, I_eq0, I_lt0, I_0lt, I_le0, I_0le, I_eq, I_lt, I_le, I_a1, I_r1, I_eq1, I32_at, I32_s, Int.toNat_natCast, List.set_cons_zero, reduceCtorEq, not_false_eq_true, not_true_eq_false, false_and, true_and, and_true, and_false, false_or, true_or, or_true, or_false, if_true, if_false, eq_self, ↓reduceIte, Int.reduceEq, Int.reduceLT, Int.reduceLE, Int.reduceAdd, Int.reduceSub, Int.reduceMul, Int.reduceNeg, Int.reduceToNat, Nat.reduceLT, Nat.reduceAdd, Nat.reduceEqDiff, List.length_cons, List.length_nil, m32]
          rw [if_neg (by omega)]
          simp (disch := omega) only [r120_55, r120_56, sw_ldi, sw_ldl, sw_lda, sw_has1, sw_i1, sw_i2, sw_l1, sw_l2, sw_li, sw_r1, sw_ri, sw_rix, sw_rv, sw_pop, sw_set1, sw_set2, List.set_cons_zero, List.set_cons_succ, List.getElem?_cons_zero, List.getElem?_cons_succ, ald_1, ald_2, ast_1, ast_2, aln_1, aln_2, gf_1, gf_2, pf_1, pf_2, nw_1, ck_0, ck_1, ck_2, ck_3, ck_4, rr_1, rc_1, rc_2, K_i, K_l, K_v, I_add, I_sub, I_mul, I_div, I_em, I_eq0, I_lt0, I_0lt, I_le0, I_0le, I_eq, I_lt, I_le, I_a1, I_r1, I_eq1, I32_at, I32_s, Int.toNat_natCast, List.set_cons_zero, reduceCtorEq, not_false_eq_true, not_true_eq_false, false_and, true_and, and_true, and_false, false_or, true_or, or_true, or_false, if_true, if_false, eq_self, ↓reduceIte, Int.reduceEq, Int.reduceLT, Int.reduceLE, Int.reduceAdd, Int.reduceSub, Int.reduceMul, Int.reduceNeg, Int.reduceToNat, Nat.reduceLT, Nat.reduceAdd, Nat.reduceEqDiff, List.length_cons, List.length_nil]
          rw [if_neg c1]
          simp (disch := omega) only [r120_59, r120_60, r120_63, r120_65, r120_66, r120_69, r120_70, r120_71, r120_72, r120_74, sw_ldi, sw_ldl, sw_lda, sw_has1, sw_i1, sw_i2, sw_l1, sw_l2, sw_li, sw_r1, sw_ri, sw_rix, sw_rv, sw_pop, sw_set1, sw_set2, List.set_cons_zero, List.set_cons_succ, List.getElem?_cons_zero, List.getElem?_cons_succ, ald_1, ald_2, ast_1, ast_2, aln_1, aln_2, gf_1, gf_2, pf_1, pf_2, nw_1, ck_0, ck_1, ck_2, ck_3, ck_4, rr_1, rc_1, rc_2, K_i, K_l, K_v, I_add, I_sub, I_mul, I_div, I_em, I_eq0, I_lt0, I_0lt, I_le0, I_0le, I_eq, I_lt, I_le, I_a1, I_r1, I_eq1, I32_at, I32_s, Int.toNat_natCast, List.set_cons_zero, reduceCtorEq, not_false_eq_true, not_true_eq_false, false_and, true_and, and_true, and_false, false_or, true_or, or_true, or_false, if_true, if_false, eq_self, ↓reduceIte, Int.reduceEq, Int.reduceLT, Int.reduceLE, Int.reduceAdd, Int.reduceSub, Int.reduceMul, Int.reduceNeg, Int.reduceToNat, Nat.reduceLT, Nat.reduceAdd, Nat.reduceEqDiff, List.length_cons, List.length_nil, sA_at, ss, sA_cm, h_22, h_24, c2']
          rw [mf]
          simp (disch := first | omega | (rw [f11]; omega)) only [r120_77, r120_80, r120_81, r120_84, r120_86, r120_87, r120_88, r120_89, r120_92, r120_94, r120_95, r120_97, r120_100, r120_101, r120_102, r120_105, r120_107, sw_ldi, sw_ldl, sw_lda, sw_has1, sw_i1, sw_i2, sw_l1, sw_l2, sw_li, sw_r1, sw_ri, sw_rix, sw_rv, sw_pop, sw_set1, sw_set2, List.set_cons_zero, List.set_cons_succ, List.getElem?_cons_zero, List.getElem?_cons_succ, ald_1, ald_2, ast_1, ast_2, aln_1, aln_2, gf_1, gf_2, pf_1, pf_2, nw_1, ck_0, ck_1, ck_2, ck_3, ck_4, rr_1, rc_1, rc_2, K_i, K_l, K_v, I_add, I_sub, I_mul, I_div, I_em, I_eq0, I_lt0, I_0lt, I_le0, I_0le, I_eq, I_lt, I_le, I_a1, I_r1, I_eq1, I32_at, I32_s, Int.toNat_natCast, List.set_cons_zero, reduceCtorEq, not_false_eq_true, not_true_eq_false, false_and, true_and, and_true, and_false, false_or, true_or, or_true, or_false, if_true, if_false, eq_self, ↓reduceIte, Int.reduceEq, Int.reduceLT, Int.reduceLE, Int.reduceAdd, Int.reduceSub, Int.reduceMul, Int.reduceNeg, Int.reduceToNat, Nat.reduceLT, Nat.reduceAdd, Nat.reduceEqDiff, List.length_cons, List.length_nil, sA_at, ss, sA_cm, m89, h_22, h_24, h_25, w_24, w_25, h_26, m50_26]
          simp (disch := omega) only [r120_110, r120_113, sw_ldi, sw_ldl, sw_lda, sw_has1, sw_i1, sw_i2, sw_l1, sw_l2, sw_li, sw_r1, sw_ri, sw_rix, sw_rv, sw_pop, sw_set1, sw_set2, List.set_cons_zero, List.set_cons_succ, List.getElem?_cons_zero, List.getElem?_cons_succ, ald_1, ald_2, ast_1, ast_2, aln_1, aln_2, gf_1, gf_2, pf_1, pf_2, nw_1, ck_0, ck_1, ck_2, ck_3, ck_4, rr_1, rc_1, rc_2, K_i, K_l, K_v, I_add, I_sub, I_mul, I_div, I_em, I_eq0, I_lt0, I_0lt, I_le0, I_0le, I_eq, I_lt, I_le, I_a1, I_r1, I_eq1, I32_at, I32_s, Int.toNat_natCast, List.set_cons_zero, reduceCtorEq, not_false_eq_true, not_true_eq_false, false_and, true_and, and_true, and_false, false_or, true_or, or_true, or_false, if_true, if_false, eq_self, ↓reduceIte, Int.reduceEq, Int.reduceLT, Int.reduceLE, Int.reduceAdd, Int.reduceSub, Int.reduceMul, Int.reduceNeg, Int.reduceToNat, Nat.reduceLT, Nat.reduceAdd, Nat.reduceEqDiff, List.length_cons, List.length_nil, sA_at, ss, sA_cm, f11]
          rfl
end sw_f1
