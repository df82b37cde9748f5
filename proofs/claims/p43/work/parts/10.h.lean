/-- the sites where a walk from a side begins -/
def Sd (op : Nat → Int) (side : Int) (t : Nat) : Prop := ¬ op t = 0 ∧ f_os t side = 1
def BS (S : Nat → Prop) (st qu : Nat → Int) (z i : Nat) : Prop := (∀ t, t < 36 → (t < i ∧ S t → st t = 0) ∧ (¬ (t < i ∧ S t) → st t = -1)) ∧ (∀ j, j < z → 0 ≤ qu j ∧ qu j < i ∧ S (qu j).toNat) ∧ (∀ t, t < i → S t → ∃ j, j < z ∧ qu j = t) ∧ cr st 36 = z
theorem BS_I {ob : Nat → Int} {S : Nat → Prop} {st qu : Nat → Int} {z : Nat} (b : BS S st qu z 36) : BI ob S st qu z 0 := by
  obtain ⟨a1, a2, a3, a4⟩ := b
  have s0 : ∀ j, j < z → st (qu j).toNat = 0 := fun j hj => (a1 _ (by have := a2 j hj; omega)).1 ⟨by have := a2 j hj; omega, (a2 j hj).2.2⟩
  have sv : ∀ t, t < 36 → 0 ≤ st t → S t := fun t ht h0 => Classical.byContradiction fun h => by
    have := (a1 t ht).2 (fun q => h q.2)
    omega
  refine ⟨fun t ht => ?_, fun i hi => ?_, fun t ht h0 => a3 t ht (sv t ht h0), a4, Nat.zero_le _, fun t ht h => (a1 t ht).1 ⟨ht, h⟩, fun t ht h0 => Or.inl ⟨(a1 t ht).1 ⟨ht, sv t ht h0⟩, sv t ht h0⟩, fun i j hij hj => ?_, fun j hj h0 => ?_, fun i hi => absurd hi (Nat.not_lt_zero _)⟩
  · by_cases h : S t
    · rw [(a1 t ht).1 ⟨ht, h⟩]; omega
    · rw [(a1 t ht).2 (fun q => h q.2)]; omega
  · have := a2 i hi
    have := s0 i hi
    omega
  · rw [s0 i (by omega), s0 j hj]; omega
  · rw [s0 j hj, s0 0 h0]; omega
theorem cr_none {st : Nat → Int} : ∀ n, (∀ t, t < n → st t = -1) → cr st n = 0
  | 0, _ => rfl
  | n + 1, h => by
    unfold cr
    rw [if_pos (h n (by omega)), cr_none n fun t ht => h t (by omega)]
    rfl
theorem BS_0 {S : Nat → Prop} {st qu : Nat → Int} (h : ∀ t, t < 36 → st t = -1) : BS S st qu 0 0 := ⟨fun t ht => ⟨fun q => absurd q.1 (Nat.not_lt_zero _), fun _ => h t ht⟩, fun j hj => absurd hj (Nat.not_lt_zero _), fun t ht => absurd ht (Nat.not_lt_zero _), cr_none 36 h⟩
theorem BS_no {S : Nat → Prop} {st qu : Nat → Int} {z i : Nat} (h : ¬ S i) (b : BS S st qu z i) : BS S st qu z (i + 1) := by
  obtain ⟨a1, a2, a3, a4⟩ := b
  have key : ∀ t, (t < i + 1 ∧ S t) ↔ (t < i ∧ S t) := fun t => ⟨fun q => ⟨by
    by_cases e : t = i
    · subst e; exact absurd q.2 h
    · omega, q.2⟩, fun q => ⟨by omega, q.2⟩⟩
  exact ⟨fun t ht => by rw [key t]; exact a1 t ht, fun j hj => ⟨(a2 j hj).1, by have := (a2 j hj).2.1; omega, (a2 j hj).2.2⟩, fun t ht hS => a3 t ((key t).mp ⟨ht, hS⟩).1 hS, a4⟩
theorem BS_up {S : Nat → Prop} {st qu : Nat → Int} {z i : Nat} (hi : i < 36) (h : S i) (b : BS S st qu z i) : BS S (sw_s st i 0) (sw_s qu z (i : Int)) (z + 1) (i + 1) ∧ z < 36 := by
  obtain ⟨a1, a2, a3, a4⟩ := b
  have si : st i = -1 := (a1 i hi).2 (fun q => Nat.lt_irrefl _ q.1)
  have hz := cr_lt si 36 hi
  refine ⟨⟨fun t ht => ?_, fun j hj => ?_, fun t ht hS => ?_, ?_⟩, by omega⟩
  · by_cases e : t = i
    · subst e; exact ⟨fun _ => if_pos rfl, fun q => absurd ⟨Nat.lt_succ_self _, h⟩ q⟩
    · have e2 : sw_s st i 0 t = st t := if_neg e
      rw [e2]
      exact ⟨fun q => (a1 t ht).1 ⟨by omega, q.2⟩, fun q => (a1 t ht).2 (fun q2 => q ⟨by omega, q2.2⟩)⟩
  · unfold sw_s
    by_cases e : j = z
    · rw [if_pos e]; exact ⟨by omega, by omega, by rw [show ((i : Int)).toNat = i from rfl]; exact h⟩
    · rw [if_neg e]; have := a2 j (by omega); exact ⟨this.1, by omega, this.2.2⟩
  · by_cases e : t = i
    · exact ⟨z, by omega, by unfold sw_s; rw [if_pos rfl, e]⟩
    · obtain ⟨j, hj, q⟩ := a3 t (by omega) hS
      exact ⟨j, by omega, by unfold sw_s; rw [if_neg (by omega)]; exact q⟩
  · rw [cr_up si (by omega), if_pos hi, a4]; rfl
section sw_m8
variable {L : Nat} {A : Nat → Nat → Int} {F : Nat → Int} {T : Nat → sw_Ce} {X : Nat × Nat × Nat} {Q : sw_Ot → sw_HS → Prop}
theorem m88_l {side : Int} (s0 : 0 ≤ side) (s1 : side < 4) (hop : ∀ i, i < 36 → A 17 i = 0 ∨ A 17 i = 1) : ∀ (n i z : Nat) (σ : sw_B3), i + n = 36 → σ.2.2 = z → BS (Sd (A 17) side) σ.1 σ.2.1 z i → ∃ (σ2 : sw_B3) (z2 : Nat), σ2.2.2 = z2 ∧ BS (Sd (A 17) side) σ2.1 σ2.2.1 z2 36 ∧ sw_A 88 17 [some (.ref 16), some (.int (Int32.ofInt side)), some (.int (Int32.ofInt i))] [] (hB L A F T X σ 0) Q = Q (some none) (hB L A F T X σ2 0)
  | 0, i, z, σ, hn, ez, b => by
    have e : i = 36 := hn
    subst e
    refine ⟨σ, z, ez, b, ?_⟩
    rw [r88_17]
    simp (disch := omega) only [r88_18, r88_20, r88_61, sw_ldi, sw_ldl, sw_lda, sw_has1, sw_i1, sw_i2, sw_l1, sw_l2, sw_li, sw_r1, sw_ri, sw_rix, sw_rv, sw_pop, sw_set1, sw_set2, List.set_cons_zero, List.set_cons_succ, List.getElem?_cons_zero, List.getElem?_cons_succ, ald_1, ald_2, ast_1, ast_2, aln_1, aln_2, gf_1, gf_2, pf_1, pf_2, nw_1, ck_0, ck_1, ck_2, ck_3, ck_4, rr_1, rc_1, rc_2, K_i, K_l, K_v, I_add, I_sub, I_mul, I_div, I_em, I_eq0, I_lt0, I_0lt, I_le0, I_0le, I_eq, I_lt, I_le, I_a1, I_r1, I_eq1, I32_at, I32_s, Int.toNat_natCast, List.set_cons_zero, reduceCtorEq, not_false_eq_true, not_true_eq_false, false_and, true_and, and_true, and_false, false_or, true_or, or_true, or_false, if_true, if_false, eq_self, ↓reduceIte, Int.reduceEq, Int.reduceLT, Int.reduceLE, Int.reduceAdd, Int.reduceSub, Int.reduceMul, Int.reduceNeg, Int.reduceToNat, Nat.reduceLT, Nat.reduceAdd, Nat.reduceEqDiff, List.length_cons, List.length_nil, Int.le_refl]
    rfl
  | n + 1, i, z, σ, hn, ez, b => by
    have hi : i < 36 := by omega
    have o := hop i hi
    have fo := f_os_b i side
    by_cases hS : Sd (A 17) side i
    · obtain ⟨b2, hz⟩ := BS_up hi hS b
      obtain ⟨σ2, z2, g1, g2, g3⟩ := m88_l s0 s1 hop n (i + 1) (z + 1) (sw_s σ.1 i 0, sw_s σ.2.1 z (i : Int), σ.2.2 + 1) (by omega) (by show σ.2.2 + 1 = _; omega) b2
      refine ⟨σ2, z2, g1, g2, Eq.trans ?_ g3⟩
      have f9 : sw_s (sw_s F 8 0) 9 σ.2.2 9 = σ.2.2 := rfl
      have ez2 : σ.2.2.toNat = z := by omega
      unfold hB
      rw [r88_17]
      simp (disch := omega) only [r88_18, r88_20, r88_23, r88_24, r88_27, r88_28, r88_29, sw_ldi, sw_ldl, sw_lda, sw_has1, sw_i1, sw_i2, sw_l1, sw_l2, sw_li, sw_r1, sw_ri, sw_rix, sw_rv, sw_pop, sw_set1, sw_set2, List.set_cons_zero, List.set_cons_succ, List.getElem?_cons_zero, List.getElem?_cons_succ, ald_1, ald_2, ast_1, ast_2, aln_1, aln_2, gf_1, gf_2, pf_1, pf_2, nw_1, ck_0, ck_1, ck_2, ck_3, ck_4, rr_1, rc_1, rc_2, K_i, K_l, K_v, I_add, I_sub, I_mul, I_div, I_em, I_eq0, I_lt0, I_0lt, I_le0, I_0le, I_eq, I_lt, I_le, I_a1, I_r1, I_eq1, I32_at, I32_s, Int.toNat_natCast, List.set_cons_zero, reduceCtorEq, not_false_eq_true, not_true_eq_false, false_and, true_and, and_true, and_false, false_or, true_or, or_true, or_false, if_true, if_false, eq_self, ↓reduceIte, Int.reduceEq, Int.reduceLT, Int.reduceLE, Int.reduceAdd, Int.reduceSub, Int.reduceMul, Int.reduceNeg, Int.reduceToNat, Nat.reduceLT, Nat.reduceAdd, Nat.reduceEqDiff, List.length_cons, List.length_nil, sA_at, ss, sA_cm, h_16, h_17]
      rw [if_neg (by omega), if_neg hS.1]
      simp (disch := omega) only [r88_32, r88_33, r88_34, r88_37, sw_ldi, sw_ldl, sw_lda, sw_has1, sw_i1, sw_i2, sw_l1, sw_l2, sw_li, sw_r1, sw_ri, sw_rix, sw_rv, sw_pop, sw_set1, sw_set2, List.set_cons_zero, List.set_cons_succ, List.getElem?_cons_zero, List.getElem?_cons_succ, ald_1, ald_2, ast_1, ast_2, aln_1, aln_2, gf_1, gf_2, pf_1, pf_2, nw_1, ck_0, ck_1, ck_2, ck_3, ck_4, rr_1, rc_1, rc_2, K_i, K_l, K_v, I_add, I_sub, I_mul, I_div, I_em, I_eq0, I_lt0, I_0lt, I_le0, I_0le, I_eq, I_lt, I_le, I_a1, I_r1, I_eq1, I32_at, I32_s, Int.toNat_natCast, List.set_cons_zero, reduceCtorEq, not_false_eq_true, not_true_eq_false, false_and, true_and, and_true, and_false, false_or, true_or, or_true, or_false, if_true, if_false, eq_self, ↓reduceIte, Int.reduceEq, Int.reduceLT, Int.reduceLE, Int.reduceAdd, Int.reduceSub, Int.reduceMul, Int.reduceNeg, Int.reduceToNat, Nat.reduceLT, Nat.reduceAdd, Nat.reduceEqDiff, List.length_cons, List.length_nil, m72]
      rw [if_neg (by rw [hS.2]; decide)]
      simp (disch := first | omega | (rw [f9]; omega)) only [r88_40, r88_41, r88_44, r88_45, r88_46, r88_47, r88_48, r88_51, r88_52, sw_ldi, sw_ldl, sw_lda, sw_has1, sw_i1, sw_i2, sw_l1, sw_l2, sw_li, sw_r1, sw_ri, sw_rix, sw_rv, sw_pop, sw_set1, sw_set2, List.set_cons_zero, List.set_cons_succ, List.getElem?_cons_zero, List.getElem?_cons_succ, ald_1, ald_2, ast_1, ast_2, aln_1, aln_2, gf_1, gf_2, pf_1, pf_2, nw_1, ck_0, ck_1, ck_2, ck_3, ck_4, rr_1, rc_1, rc_2, K_i, K_l, K_v, I_add, I_sub, I_mul, I_div, I_em, I_eq0, I_lt0, I_0lt, I_le0, I_0le, I_eq, I_lt, I_le, I_a1, I_r1, I_eq1, I32_at, I32_s, Int.toNat_natCast, List.set_cons_zero, reduceCtorEq, not_false_eq_true, not_true_eq_false, false_and, true_and, and_true, and_false, false_or, true_or, or_true, or_false, if_true, if_false, eq_self, ↓reduceIte, Int.reduceEq, Int.reduceLT, Int.reduceLE, Int.reduceAdd, Int.reduceSub, Int.reduceMul, Int.reduceNeg, Int.reduceToNat, Nat.reduceLT, Nat.reduceAdd, Nat.reduceEqDiff, List.length_cons, List.length_nil, sA_at, ss, sA_cm, h_16, h_19, h_20, w_19, m50_20]
      simp (disch := omega) only [r88_55, r88_58, sw_ldi, sw_ldl, sw_lda, sw_has1, sw_i1, sw_i2, sw_l1, sw_l2, sw_li, sw_r1, sw_ri, sw_rix, sw_rv, sw_pop, sw_set1, sw_set2, List.set_cons_zero, List.set_cons_succ, List.getElem?_cons_zero, List.getElem?_cons_succ, ald_1, ald_2, ast_1, ast_2, aln_1, aln_2, gf_1, gf_2, pf_1, pf_2, nw_1, ck_0, ck_1, ck_2, ck_3, ck_4, rr_1, rc_1, rc_2, K_i, K_l, K_v, I_add, I_sub, I_mul, I_div, I_em, I_eq0, I_lt0, I_0lt, I_le0, I_0le, I_eq, I_lt, I_le, I_a1, I_r1, I_eq1, I32_at, I32_s, Int.toNat_natCast, List.set_cons_zero, reduceCtorEq, not_false_eq_true, not_true_eq_false, false_and, true_and, and_true, and_false, false_or, true_or, or_true, or_false, if_true, if_false, eq_self, ↓reduceIte, Int.reduceEq, Int.reduceLT, Int.reduceLE, Int.reduceAdd, Int.reduceSub, Int.reduceMul, Int.reduceNeg, Int.reduceToNat, Nat.reduceLT, Nat.reduceAdd, Nat.reduceEqDiff, List.length_cons, List.length_nil, sA_at, ss, sA_cm, f9, ez2]
      rfl
    · obtain ⟨σ2, z2, g1, g2, g3⟩ := m88_l s0 s1 hop n (i + 1) z σ (by omega) ez (BS_no hS b)
      refine ⟨σ2, z2, g1, g2, Eq.trans ?_ g3⟩
      unfold hB
      rw [r88_17]
      simp (disch := omega) only [r88_18, r88_20, r88_23, r88_24, r88_27, r88_28, r88_29, sw_ldi, sw_ldl, sw_lda, sw_has1, sw_i1, sw_i2, sw_l1, sw_l2, sw_li, sw_r1, sw_ri, sw_rix, sw_rv, sw_pop, sw_set1, sw_set2, List.set_cons_zero, List.set_cons_succ, List.getElem?_cons_zero, List.getElem?_cons_succ, ald_1, ald_2, ast_1, ast_2, aln_1, aln_2, gf_1, gf_2, pf_1, pf_2, nw_1, ck_0, ck_1, ck_2, ck_3, ck_4, rr_1, rc_1, rc_2, K_i, K_l, K_v, I_add, I_sub, I_mul, I_div, I_em, I_eq0, I_lt0, I_0lt, I_le0, I_0le, I_eq, I_lt, I_le, I_a1, I_r1, I_eq1, I32_at, I32_s, Int.toNat_natCast, List.set_cons_zero, reduceCtorEq, not_false_eq_true, not_true_eq_false, false_and, true_and, and_true, and_false, false_or, true_or, or_true, or_false, if_true, if_false, eq_self, ↓reduceIte, Int.reduceEq, Int.reduceLT, Int.reduceLE, Int.reduceAdd, Int.reduceSub, Int.reduceMul, Int.reduceNeg, Int.reduceToNat, Nat.reduceLT, Nat.reduceAdd, Nat.reduceEqDiff, List.length_cons, List.length_nil, sA_at, ss, sA_cm, h_16, h_17]
      rw [if_neg (by omega)]
      by_cases c : A 17 i = 0
      · rw [if_pos c]
        simp (disch := omega) only [r88_55, r88_58, sw_ldi, sw_ldl, sw_lda, sw_has1, sw_i1, sw_i2, sw_l1, sw_l2, sw_li, sw_r1, sw_ri, sw_rix, sw_rv, sw_pop, sw_set1, sw_set2, List.set_cons_zero, List.set_cons_succ, List.getElem?_cons_zero, List.getElem?_cons_succ, ald_1, ald_2, ast_1, ast_2, aln_1, aln_2, gf_1, gf_2, pf_1, pf_2, nw_1, ck_0, ck_1, ck_2, ck_3, ck_4, rr_1, rc_1, rc_2, K_i, K_l, K_v, I_add, I_sub, I_mul, I_div, I_em, I_eq0, I_lt0, I_0lt, I_le0, I_0le, I_eq, I_lt, I_le, I_a1, I_r1, I_eq1, I32_at, I32_s, Int.toNat_natCast, List.set_cons_zero, reduceCtorEq, not_false_eq_true, not_true_eq_false, false_and, true_and, and_true, and_false, false_or, true_or, or_true, or_false, if_true, if_false, eq_self, ↓reduceIte, Int.reduceEq, Int.reduceLT, Int.reduceLE, Int.reduceAdd, Int.reduceSub, Int.reduceMul, Int.reduceNeg, Int.reduceToNat, Nat.reduceLT, Nat.reduceAdd, Nat.reduceEqDiff, List.length_cons, List.length_nil]
        rfl
      · rw [if_neg c]
        simp (disch := omega) only [r88_32, r88_33, r88_34, r88_37, sw_ldi, sw_ldl, sw_lda, sw_has1, sw_i1, sw_i2, sw_l1, sw_l2, sw_li, sw_r1, sw_ri, sw_rix, sw_rv, sw_pop, sw_set1, sw_set2, List.set_cons_zero, List.set_cons_succ, List.getElem?_cons_zero, List.getElem?_cons_succ, ald_1, ald_2, ast_1, ast_2, aln_1, aln_2, gf_1, gf_2, pf_1, pf_2, nw_1, ck_0, ck_1, ck_2, ck_3, ck_4, rr_1, rc_1, rc_2, K_i, K_l, K_v, I_add, I_sub, I_mul, I_div, I_em, I_eq0, I_lt0, I_0lt, I_le0, I_0le, I_eq, I_lt, I_le, I_a1, I_r1, I_eq1, I32_at, I32_s, Int.toNat_natCast, List.set_cons_zero, reduceCtorEq, not_false_eq_true, not_true_eq_false, false_and, true_and, and_true, and_false, false_or, true_or, or_true, or_false, if_true, if_false, eq_self, ↓reduceIte, Int.reduceEq, Int.reduceLT, Int.reduceLE, Int.reduceAdd, Int.reduceSub, Int.reduceMul, Int.reduceNeg, Int.reduceToNat, Nat.reduceLT, Nat.reduceAdd, Nat.reduceEqDiff, List.length_cons, List.length_nil, m72]
        rw [if_pos (by rcases fo with q | q; exact q; exact absurd ⟨c, q⟩ hS)]
        simp (disch := omega) only [r88_55, r88_58, sw_ldi, sw_ldl, sw_lda, sw_has1, sw_i1, sw_i2, sw_l1, sw_l2, sw_li, sw_r1, sw_ri, sw_rix, sw_rv, sw_pop, sw_set1, sw_set2, List.set_cons_zero, List.set_cons_succ, List.getElem?_cons_zero, List.getElem?_cons_succ, ald_1, ald_2, ast_1, ast_2, aln_1, aln_2, gf_1, gf_2, pf_1, pf_2, nw_1, ck_0, ck_1, ck_2, ck_3, ck_4, rr_1, rc_1, rc_2, K_i, K_l, K_v, I_add, I_sub, I_mul, I_div, I_em, I_eq0, I_lt0, I_0lt, I_le0, I_0le, I_eq, I_lt, I_le, I_a1, I_r1, I_eq1, I32_at, I32_s, Int.toNat_natCast, List.set_cons_zero, reduceCtorEq, not_false_eq_true, not_true_eq_false, false_and, true_and, and_true, and_false, false_or, true_or, or_true, or_false, if_true, if_false, eq_self, ↓reduceIte, Int.reduceEq, Int.reduceLT, Int.reduceLE, Int.reduceAdd, Int.reduceSub, Int.reduceMul, Int.reduceNeg, Int.reduceToNat, Nat.reduceLT, Nat.reduceAdd, Nat.reduceEqDiff, List.length_cons, List.length_nil]
        rfl
/-- startAtSide -/
theorem m88 {side : Int} (s0 : 0 ≤ side) (s1 : side < 4) (hop : ∀ i, i < 36 → A 17 i = 0 ∨ A 17 i = 1) : ∃ (σ2 : sw_B3) (z2 : Nat), σ2.2.2 = z2 ∧ BS (Sd (A 17) side) σ2.1 σ2.2.1 z2 36 ∧ sw_M 88 [.ref 16, .int (Int32.ofInt side)] (sw_h L A F T X) Q = Q (some none) (hB L A F T X σ2 0) := by
  obtain ⟨σ2, z2, g1, g2, g3⟩ := m88_l (L := L) (F := F) (T := T) (X := X) (Q := Q) s0 s1 hop 36 0 0 (fil 36 (-1) (A 19), A 21, 0) (by omega) rfl (BS_0 fun t ht => fil_at ht)
  refine ⟨σ2, z2, g1, g2, Eq.trans ?_ g3⟩
  have mm := m9 (H := sw_h L A F T X) (a := 19) (n := 36) (g := A 19) (v := -1) (Q := sw_K 88 8 none [some (.ref 16), some (.int (Int32.ofInt side)), none] [] Q) h_19 (by decide) (by decide)
  rw [w_19] at mm
  rw [e88]
  simp (disch := omega) only [r88_0, r88_1, r88_4, r88_5, sw_ldi, sw_ldl, sw_lda, sw_has1, sw_i1, sw_i2, sw_l1, sw_l2, sw_li, sw_r1, sw_ri, sw_rix, sw_rv, sw_pop, sw_set1, sw_set2, List.set_cons_zero, List.set_cons_succ, List.getElem?_cons_zero, List.getElem?_cons_succ, ald_1, ald_2, ast_1, ast_2, aln_1, aln_2, gf_1, gf_2, pf_1, pf_2, nw_1, ck_0, ck_1, ck_2, ck_3, ck_4, rr_1, rc_1, rc_2, K_i, K_l, K_v, I_add, I_sub, I_mul, I_div, I_em, I_eq0, I_lt0, I_0lt, I_le0, I_0le, I_eq, I_lt, I_le, I_a1, I_r1, I_eq1, I32_at, I32_s, Int.toNat_natCast, List.set_cons_zero, reduceCtorEq, not_false_eq_true, not_true_eq_false, false_and, true_and, and_true, and_false, false_or, true_or, or_true, or_false, if_true, if_false, eq_self, ↓reduceIte, Int.reduceEq, Int.reduceLT, Int.reduceLE, Int.reduceAdd, Int.reduceSub, Int.reduceMul, Int.reduceNeg, Int.reduceToNat, Nat.reduceLT, Nat.reduceAdd, Nat.reduceEqDiff, List.length_cons, List.length_nil, h_16]
  rw [mm]
  simp (disch := omega) only [r88_8, r88_9, r88_12, r88_15, r88_16, sw_ldi, sw_ldl, sw_lda, sw_has1, sw_i1, sw_i2, sw_l1, sw_l2, sw_li, sw_r1, sw_ri, sw_rix, sw_rv, sw_pop, sw_set1, sw_set2, List.set_cons_zero, List.set_cons_succ, List.getElem?_cons_zero, List.getElem?_cons_succ, ald_1, ald_2, ast_1, ast_2, aln_1, aln_2, gf_1, gf_2, pf_1, pf_2, nw_1, ck_0, ck_1, ck_2, ck_3, ck_4, rr_1, rc_1, rc_2, K_i, K_l, K_v, I_add, I_sub, I_mul, I_div, I_em, I_eq0, I_lt0, I_0lt, I_le0, I_0le, I_eq, I_lt, I_le, I_a1, I_r1, I_eq1, I32_at, I32_s, Int.toNat_natCast, List.set_cons_zero, reduceCtorEq, not_false_eq_true, not_true_eq_false, false_and, true_and, and_true, and_false, false_or, true_or, or_true, or_false, if_true, if_false, eq_self, ↓reduceIte, Int.reduceEq, Int.reduceLT, Int.reduceLE, Int.reduceAdd, Int.reduceSub, Int.reduceMul, Int.reduceNeg, Int.reduceToNat, Nat.reduceLT, Nat.reduceAdd, Nat.reduceEqDiff, List.length_cons, List.length_nil, h_16, h_20, m49_20]
  unfold hB
  rw [show sw_s (sw_s A 19 (fil 36 (-1) (A 19))) 21 (A 21) = sw_s A 19 (fil 36 (-1) (A 19)) from sA_id (sw_s A 19 (fil 36 (-1) (A 19))) 21]
  rfl
/-- the least steps on a side among the first n -/
def lst (st : Nat → Int) (to : Int) : Nat → Int
  | 0 => -1
  | n + 1 => if f_os n to = 1 ∧ ¬ st n = -1 ∧ (lst st to n = -1 ∨ st n < lst st to n) then st n else lst st to n
theorem lst_b {st : Nat → Int} {to : Int} : ∀ n, (∀ t, t < n → -1 ≤ st t ∧ st t < 100) → -1 ≤ lst st to n ∧ lst st to n < 100
  | 0, _ => by show -1 ≤ (-1 : Int) ∧ (-1 : Int) < 100; decide
  | n + 1, h => by
    have := lst_b (to := to) n fun t ht => h t (by omega)
    have := h n (by omega)
    unfold lst
    split <;> omega
theorem m91_l {to : Int} {st : Nat → Int} (t0 : 0 ≤ to) (t1 : to < 4) (hA : A 19 = st) (hst : ∀ t, t < 36 → -1 ≤ st t ∧ st t < 100) {fr : Int} : ∀ (n i : Nat) (x : Option Value), i + n = 36 → sw_A 91 14 [some (.ref 16), some (.int (Int32.ofInt fr)), some (.int (Int32.ofInt to)), some (.int (Int32.ofInt (lst st to i))), some (.int (Int32.ofInt i)), x] [] (sw_h L A F T X) Q = Q (some (some (.int (Int32.ofInt (lst st to 36))))) (sw_h L A F T X)
  | 0, i, x, hn => by
    have e : i = 36 := hn
    subst e
    rw [r91_14]
    simp (disch := omega) only [r91_16, r91_18, r91_83, r91_84, sw_ldi, sw_ldl, sw_lda, sw_has1, sw_i1, sw_i2, sw_l1, sw_l2, sw_li, sw_r1, sw_ri, sw_rix, sw_rv, sw_pop, sw_set1, sw_set2, List.set_cons_zero, List.set_cons_succ, List.getElem?_cons_zero, List.getElem?_cons_succ, ald_1, ald_2, ast_1, ast_2, aln_1, aln_2, gf_1, gf_2, pf_1, pf_2, nw_1, ck_0, ck_1, ck_2, ck_3, ck_4, rr_1, rc_1, rc_2, K_i, K_l, K_v, I_add, I_sub, I_mul, I_div, I_em, I_eq0, I_lt0, I_0lt, I_le0, I_0le, I_eq, I_lt, I_le, I_a1, I_r1, I_eq1, I32_at, I32_s, Int.toNat_natCast, List.set_cons_zero, reduceCtorEq, not_false_eq_true, not_true_eq_false, false_and, true_and, and_true, and_false, false_or, true_or, or_true, or_false, if_true, if_false, eq_self, ↓reduceIte, Int.reduceEq, Int.reduceLT, Int.reduceLE, Int.reduceAdd, Int.reduceSub, Int.reduceMul, Int.reduceNeg, Int.reduceToNat, Nat.reduceLT, Nat.reduceAdd, Nat.reduceEqDiff, List.length_cons, List.length_nil, Int.le_refl]
    rfl
  | n + 1, i, x, hn => by
    have hi : i < 36 := by omega
    have b1 := hst i hi
    have b2 := lst_b (to := to) i fun t ht => hst t (by omega)
    have fo := f_os_b i to
    have ih1 := m91_l t0 t1 hA hst (fr := fr) n (i + 1) (some (.int (Int32.ofInt 1))) (by omega)
    have ih0 := m91_l t0 t1 hA hst (fr := fr) n (i + 1) (some (.int (Int32.ofInt 0))) (by omega)
    have u1 : (f_os i to = 1 ∧ ¬ st i = -1 ∧ (lst st to i = -1 ∨ st i < lst st to i)) → lst st to (i + 1) = st i := fun h => if_pos h
    have u0 : ¬ (f_os i to = 1 ∧ ¬ st i = -1 ∧ (lst st to i = -1 ∨ st i < lst st to i)) → lst st to (i + 1) = lst st to i := fun h => if_neg h
    rw [r91_14]
    simp (disch := omega) only [r91_16, r91_18, r91_21, r91_23, r91_24, r91_27, r91_30, r91_31, r91_34, r91_36, r91_37, r91_38, r91_41, r91_42, r91_45, r91_46, r91_48, r91_50, r91_53, r91_54, r91_55, r91_58, r91_59, r91_62, r91_64, r91_65, r91_66, r91_69, r91_70, r91_73, r91_75, r91_76, r91_77, r91_80, sw_ldi, sw_ldl, sw_lda, sw_has1, sw_i1, sw_i2, sw_l1, sw_l2, sw_li, sw_r1, sw_ri, sw_rix, sw_rv, sw_pop, sw_set1, sw_set2, List.set_cons_zero, List.set_cons_succ, List.getElem?_cons_zero, List.getElem?_cons_succ, ald_1, ald_2, ast_1, ast_2, aln_1, aln_2, gf_1, gf_2, pf_1, pf_2, nw_1, ck_0, ck_1, ck_2, ck_3, ck_4, rr_1, rc_1, rc_2, K_i, K_l, K_v, I_add, I_sub, I_mul, I_div, I_em, I_eq0, I_lt0, I_0lt, I_le0, I_0le, I_eq, I_lt, I_le, I_a1, I_r1, I_eq1, I32_at, I32_s, Int.toNat_natCast, List.set_cons_zero, reduceCtorEq, not_false_eq_true, not_true_eq_false, false_and, true_and, and_true, and_false, false_or, true_or, or_true, or_false, if_true, if_false, eq_self, ↓reduceIte, Int.reduceEq, Int.reduceLT, Int.reduceLE, Int.reduceAdd, Int.reduceSub, Int.reduceMul, Int.reduceNeg, Int.reduceToNat, Nat.reduceLT, Nat.reduceAdd, Nat.reduceEqDiff, List.length_cons, List.length_nil, h_16, h_19, hA, m72]
    generalize lst st to (i + 1) = w at *
    (repeat' split) <;> first | (exfalso; omega) | (rw [u1 (by omega)] at ih1; exact ih1) | (rw [u0 (by omega)] at ih1; exact ih1) | (rw [u0 (by omega)] at ih0; exact ih0)
/-- leastSteps -/
theorem m91 {fr to : Int} (s0 : 0 ≤ fr) (s1 : fr < 4) (t0 : 0 ≤ to) (t1 : to < 4) (hop : ∀ i, i < 36 → A 17 i = 0 ∨ A 17 i = 1) (hob : ∀ b, b < 60 → A 18 b = 0 ∨ A 18 b = 1) : ∃ σ2 : sw_B3, BD (A 18) (Sd (A 17) fr) σ2.1 σ2.2.2 ∧ sw_M 91 [.ref 16, .int (Int32.ofInt fr), .int (Int32.ofInt to)] (sw_h L A F T X) Q = Q (some (some (.int (Int32.ofInt (lst σ2.1 to 36))))) (hB L A F T X σ2 σ2.2.2) := by
  obtain ⟨σ1, z1, g1, g2, g3⟩ := m88 (L := L) (A := A) (F := F) (T := T) (X := X) (Q := sw_K 91 5 none [some (.ref 16), some (.int (Int32.ofInt fr)), some (.int (Int32.ofInt to)), none, none, none] [] Q) s0 s1 hop
  obtain ⟨σ2, g4, g5⟩ := m90 (L := L) (A := A) (F := F) (T := T) (X := X) (Q := sw_K 91 9 none [some (.ref 16), some (.int (Int32.ofInt fr)), some (.int (Int32.ofInt to)), none, none, none] [] Q) hob g1 (BS_I g2)
  refine ⟨σ2, g4, ?_⟩
  rw [e91]
  simp (disch := omega) only [r91_0, r91_1, r91_2, sw_ldi, sw_ldl, sw_lda, sw_has1, sw_i1, sw_i2, sw_l1, sw_l2, sw_li, sw_r1, sw_ri, sw_rix, sw_rv, sw_pop, sw_set1, sw_set2, List.set_cons_zero, List.set_cons_succ, List.getElem?_cons_zero, List.getElem?_cons_succ, ald_1, ald_2, ast_1, ast_2, aln_1, aln_2, gf_1, gf_2, pf_1, pf_2, nw_1, ck_0, ck_1, ck_2, ck_3, ck_4, rr_1, rc_1, rc_2, K_i, K_l, K_v, I_add, I_sub, I_mul, I_div, I_em, I_eq0, I_lt0, I_0lt, I_le0, I_0le, I_eq, I_lt, I_le, I_a1, I_r1, I_eq1, I32_at, I32_s, Int.toNat_natCast, List.set_cons_zero, reduceCtorEq, not_false_eq_true, not_true_eq_false, false_and, true_and, and_true, and_false, false_or, true_or, or_true, or_false, if_true, if_false, eq_self, ↓reduceIte, Int.reduceEq, Int.reduceLT, Int.reduceLE, Int.reduceAdd, Int.reduceSub, Int.reduceMul, Int.reduceNeg, Int.reduceToNat, Nat.reduceLT, Nat.reduceAdd, Nat.reduceEqDiff, List.length_cons, List.length_nil, h_16]
  rw [g3]
  unfold hB at g5 ⊢
  simp (disch := omega) only [r91_5, r91_6, sw_ldi, sw_ldl, sw_lda, sw_has1, sw_i1, sw_i2, sw_l1, sw_l2, sw_li, sw_r1, sw_ri, sw_rix, sw_rv, sw_pop, sw_set1, sw_set2, List.set_cons_zero, List.set_cons_succ, List.getElem?_cons_zero, List.getElem?_cons_succ, ald_1, ald_2, ast_1, ast_2, aln_1, aln_2, gf_1, gf_2, pf_1, pf_2, nw_1, ck_0, ck_1, ck_2, ck_3, ck_4, rr_1, rc_1, rc_2, K_i, K_l, K_v, I_add, I_sub, I_mul, I_div, I_em, I_eq0, I_lt0, I_0lt, I_le0, I_0le, I_eq, I_lt, I_le, I_a1, I_r1, I_eq1, I32_at, I32_s, Int.toNat_natCast, List.set_cons_zero, reduceCtorEq, not_false_eq_true, not_true_eq_false, false_and, true_and, and_true, and_false, false_or, true_or, or_true, or_false, if_true, if_false, eq_self, ↓reduceIte, Int.reduceEq, Int.reduceLT, Int.reduceLE, Int.reduceAdd, Int.reduceSub, Int.reduceMul, Int.reduceNeg, Int.reduceToNat, Nat.reduceLT, Nat.reduceAdd, Nat.reduceEqDiff, List.length_cons, List.length_nil, h_16]
  rw [g5]
  simp (disch := omega) only [r91_9, r91_10, r91_11, r91_12, sw_ldi, sw_ldl, sw_lda, sw_has1, sw_i1, sw_i2, sw_l1, sw_l2, sw_li, sw_r1, sw_ri, sw_rix, sw_rv, sw_pop, sw_set1, sw_set2, List.set_cons_zero, List.set_cons_succ, List.getElem?_cons_zero, List.getElem?_cons_succ, ald_1, ald_2, ast_1, ast_2, aln_1, aln_2, gf_1, gf_2, pf_1, pf_2, nw_1, ck_0, ck_1, ck_2, ck_3, ck_4, rr_1, rc_1, rc_2, K_i, K_l, K_v, I_add, I_sub, I_mul, I_div, I_em, I_eq0, I_lt0, I_0lt, I_le0, I_0le, I_eq, I_lt, I_le, I_a1, I_r1, I_eq1, I32_at, I32_s, Int.toNat_natCast, List.set_cons_zero, reduceCtorEq, not_false_eq_true, not_true_eq_false, false_and, true_and, and_true, and_false, false_or, true_or, or_true, or_false, if_true, if_false, eq_self, ↓reduceIte, Int.reduceEq, Int.reduceLT, Int.reduceLE, Int.reduceAdd, Int.reduceSub, Int.reduceMul, Int.reduceNeg, Int.reduceToNat, Nat.reduceLT, Nat.reduceAdd, Nat.reduceEqDiff, List.length_cons, List.length_nil]
  exact m91_l (A := sw_s (sw_s A 19 σ2.1) 21 σ2.2.1) (st := σ2.1) t0 t1 rfl g4.1 36 0 none (by omega)
end sw_m8
