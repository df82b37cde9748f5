/-! findClusters -/
noncomputable def vb (ob op : Nat → Int) (i t : Nat) : Bool := @decide (Vm9 ob op i t) (Classical.propDecidable _)
theorem vb_v {ob op : Nat → Int} {i t : Nat} : vb ob op i t = true ↔ Vm9 ob op i t := @decide_eq_true_iff _ (Classical.propDecidable _)
theorem MK_Vk {ob op st : Nat → Int} {i : Nat} (h : MK ob op st i) : Vk ob (vb ob op i) st := by
  refine ⟨fun s t hs ht he q => ?_, fun t ht q => (h t ht).1 (vb_v.mp q)⟩
  obtain ⟨h1, u, h2, h3, h4⟩ := vb_v.mp q
  exact vb_v.mpr ⟨hs, u, h2, h3, Rc_s hs h4 (Ed_sym hs he)⟩
theorem MK_up {ob op st : Nat → Int} {i : Nat} {z : Int} (hi : i < 36) (ho : op i = 1) (b : BD ob (fun t => t = i) (rsV (vb ob op i) st) z) (hv : Vk ob (vb ob op i) st) : MK ob op st (i + 1) ∧ z = csz ob i := by
  have e : ∀ t, Vm9 ob op (i + 1) t ↔ (Vm9 ob op i t ∨ (t < 36 ∧ Rc ob (fun s => s = i) t)) := fun t => by
    constructor
    · rintro ⟨h1, u, h2, h3, h4⟩
      by_cases e : u = i
      · subst e; exact Or.inr ⟨h1, h4⟩
      · exact Or.inl ⟨h1, u, by omega, h3, h4⟩
    · rintro (⟨h1, u, h2, h3, h4⟩ | ⟨h1, h2⟩)
      · exact ⟨h1, u, by omega, h3, h4⟩
      · exact ⟨h1, i, by omega, ho, h2⟩
  refine ⟨fun t ht => ?_, ?_⟩
  · rw [e t]
    have bt := BD_Rc b ht
    have b1 := b.1 t ht
    by_cases c : Vm9 ob op i t
    · exact ⟨fun _ => hv.2 t ht (vb_v.mpr c), fun q => absurd (Or.inl c) q⟩
    · have r : rsV (vb ob op i) st t = st t := if_neg (fun q => c (vb_v.mp q))
      rw [r] at bt b1
      refine ⟨fun q => ?_, fun q => ?_⟩
      · rcases q with q | q
        · exact absurd q c
        · have := bt.mp q.2; omega
      · have : ¬ 0 ≤ st t := fun h0 => q (Or.inr ⟨ht, bt.mpr h0⟩)
        omega
  · rw [← b.2.1]
    exact cr_cP 36 fun t ht => by
      rw [BD_Rc b ht]
      have := b.1 t ht
      omega
section sw_m14
variable {L : Nat} {A : Nat → Nat → Int} {T : Nat → sw_Ce} {X : Nat × Nat × Nat} {Q : sw_Ot → sw_HS → Prop}
theorem m101_l (hop : ∀ i, i < 36 → A 17 i = 0 ∨ A 17 i = 1) (hob : ∀ b, b < 60 → A 18 b = 0 ∨ A 18 b = 1) : ∀ (n i : Nat) (a q : Nat → Int) (G : Nat → Int) (x : Option Value), i + n = 36 → MK (A 18) (A 17) a i → G 5 = (K3 (A 18) (A 17) i).1 → G 6 = (K3 (A 18) (A 17) i).2.1 → G 7 = (K3 (A 18) (A 17) i).2.2 →
    ∃ (a2 q2 G2 : Nat → Int), G2 5 = (K3 (A 18) (A 17) 36).1 ∧ G2 6 = (K3 (A 18) (A 17) 36).2.1 ∧ G2 7 = (K3 (A 18) (A 17) 36).2.2 ∧ (∀ j, j < 5 → G2 j = G j) ∧ (∀ j, 9 < j → G2 j = G j) ∧ sw_A 101 25 [some (.ref 16), some (.int (Int32.ofInt i)), x] [] (sw_h L (sw_s (sw_s A 19 a) 21 q) G T X) Q = Q (some none) (sw_h L (sw_s (sw_s A 19 a2) 21 q2) G2 T X)
  | 0, i, a, q, G, x, hn, hM, g5, g6, g7 => by
    have e : i = 36 := hn
    subst e
    refine ⟨a, q, G, g5, g6, g7, fun _ _ => rfl, fun _ _ => rfl, ?_⟩
    rw [r101_25]
    simp (disch := omega) only [r101_26, r101_28, r101_96, sw_ldi, sw_ldl, sw_lda, sw_has1, sw_i1, sw_i2, sw_l1, sw_l2, sw_li, sw_r1, sw_ri, sw_rix, sw_rv, sw_pop, sw_set1, sw_set2, List.set_cons_zero, List.set_cons_succ, List.getElem?_cons_zero, List.getElem?_cons_succ, ald_1, ald_2, ast_1, ast_2, aln_1, aln_2, gf_1, gf_2, pf_1, pf_2, nw_1, ck_0, ck_1, ck_2, ck_3, ck_4, rr_1, rc_1, rc_2, K_i, K_l, K_v, I_add, I_sub, I_mul, I_div, I_em, I_eq0, I_lt0, I_0lt, I_le0, I_0le, I_eq, I_lt, I_le, I_a1, I_r1, I_eq1, I32_at, I32_s, Int.toNat_natCast, List.set_cons_zero, reduceCtorEq, not_false_eq_true, not_true_eq_false, false_and, true_and, and_true, and_false, false_or, true_or, or_true, or_false, if_true, if_false, eq_self, ↓reduceIte, Int.reduceEq, Int.reduceLT, Int.reduceLE, Int.reduceAdd, Int.reduceSub, Int.reduceMul, Int.reduceNeg, Int.reduceToNat, Nat.reduceLT, Nat.reduceAdd, Nat.reduceEqDiff, List.length_cons, List.length_nil, Int.le_refl]
    rfl
  | n + 1, i, a, q, G, x, hn, hM, g5, g6, g7 => by
    have hi : i < 36 := by omega
    have o := hop i hi
    have kb := K3_b (A 18) (A 17) i
    have ast : -1 ≤ a i ∧ a i < 100 := by
      by_cases c : Vm9 (A 18) (A 17) i i
      · have := (hM i hi).1 c; omega
      · have := (hM i hi).2 c; omega
    by_cases hL : Ld (A 18) (A 17) i
    · have hL2 := (MK_Ld hM hi).mp hL
      have kv : vb (A 18) (A 17) i i = false := by
        cases e : vb (A 18) (A 17) i i with
        | false => rfl
        | true => exact absurd (vb_v.mp e).2 hL.2
      obtain ⟨σ2, h1, h2, h3⟩ := m97 (L := L) (A := sw_s (sw_s A 19 a) 21 q) (F := G) (T := T) (X := X) (Q := sw_K 101 55 none [some (.ref 16), some (.int (Int32.ofInt i)), x] [] Q) (v := vb (A 18) (A 17) i) (k := i) hi hob (MK_Vk hM) (fun t ht q => (hM t ht).2 fun z => by rw [vb_v.mpr z] at q; cases q) kv
      obtain ⟨hM2, hz⟩ := MK_up hi hL.1 h1 h2
      have hz : σ2.2.2 = csz (A 18) i := hz
      have cb := cP_b (Rc (A 18) (fun t => t = i)) 36
      have ce : csz (A 18) i = cP (Rc (A 18) (fun t => t = i)) 36 := rfl
      have k3 : K3 (A 18) (A 17) (i + 1) = ((K3 (A 18) (A 17) i).1 + 1, (if (K3 (A 18) (A 17) i).2.1 < csz (A 18) i then csz (A 18) i else (K3 (A 18) (A 17) i).2.1), (K3 (A 18) (A 17) i).2.2 + csz (A 18) i * csz (A 18) i) := if_pos hL
      obtain ⟨a2, q2, G2, r5, r6, r7, r8, r9, r10⟩ := m101_l hop hob n (i + 1) σ2.1 σ2.2.1 (sw_s (sw_s (sw_s (sw_s (sw_s G 5 (G 5 + 1)) 6 (if G 6 < σ2.2.2 then σ2.2.2 else G 6)) 7 (G 7 + σ2.2.2 * σ2.2.2)) 8 σ2.2.2) 9 σ2.2.2) (some (.int (Int32.ofInt σ2.2.2))) (by omega) hM2 (by rw [k3, ← g5]; rfl) (by rw [k3, ← g6, ← hz]; rfl) (by rw [k3, ← g7, ← hz]; rfl)
      refine ⟨a2, q2, G2, r5, r6, r7, fun j hj => (r8 j hj).trans ?_, fun j hj => (r9 j hj).trans ?_, Eq.trans ?_ r10⟩
      · unfold sw_s; rw [if_neg (by omega), if_neg (by omega), if_neg (by omega), if_neg (by omega), if_neg (by omega)]
      · unfold sw_s; rw [if_neg (by omega), if_neg (by omega), if_neg (by omega), if_neg (by omega), if_neg (by omega)]
      · have e5 : sw_s (sw_s G 8 σ2.2.2) 9 σ2.2.2 5 = G 5 := rfl
        have e6 : ∀ y, sw_s (sw_s (sw_s G 5 y) 8 σ2.2.2) 9 σ2.2.2 6 = G 6 := fun y => rfl
        have e7 : ∀ y w, sw_s (sw_s (sw_s (sw_s G 5 y) 6 w) 8 σ2.2.2) 9 σ2.2.2 7 = G 7 := fun y w => rfl
        rw [r101_25]
        simp (disch := omega) only [r101_26, r101_28, r101_31, r101_32, r101_35, r101_36, r101_37, r101_40, r101_41, r101_44, r101_45, r101_46, r101_47, sw_ldi, sw_ldl, sw_lda, sw_has1, sw_i1, sw_i2, sw_l1, sw_l2, sw_li, sw_r1, sw_ri, sw_rix, sw_rv, sw_pop, sw_set1, sw_set2, List.set_cons_zero, List.set_cons_succ, List.getElem?_cons_zero, List.getElem?_cons_succ, ald_1, ald_2, ast_1, ast_2, aln_1, aln_2, gf_1, gf_2, pf_1, pf_2, nw_1, ck_0, ck_1, ck_2, ck_3, ck_4, rr_1, rc_1, rc_2, K_i, K_l, K_v, I_add, I_sub, I_mul, I_div, I_em, I_eq0, I_lt0, I_0lt, I_le0, I_0le, I_eq, I_lt, I_le, I_a1, I_r1, I_eq1, I32_at, I32_s, Int.toNat_natCast, List.set_cons_zero, reduceCtorEq, not_false_eq_true, not_true_eq_false, false_and, true_and, and_true, and_false, false_or, true_or, or_true, or_false, if_true, if_false, eq_self, ↓reduceIte, Int.reduceEq, Int.reduceLT, Int.reduceLE, Int.reduceAdd, Int.reduceSub, Int.reduceMul, Int.reduceNeg, Int.reduceToNat, Nat.reduceLT, Nat.reduceAdd, Nat.reduceEqDiff, List.length_cons, List.length_nil, sA_at, ss, sA_cm, h_16, h_17, h_19]
        rw [if_neg (by omega), if_neg (by omega), if_neg (by omega)]
        simp (disch := omega) only [r101_50, r101_51, r101_52, sw_ldi, sw_ldl, sw_lda, sw_has1, sw_i1, sw_i2, sw_l1, sw_l2, sw_li, sw_r1, sw_ri, sw_rix, sw_rv, sw_pop, sw_set1, sw_set2, List.set_cons_zero, List.set_cons_succ, List.getElem?_cons_zero, List.getElem?_cons_succ, ald_1, ald_2, ast_1, ast_2, aln_1, aln_2, gf_1, gf_2, pf_1, pf_2, nw_1, ck_0, ck_1, ck_2, ck_3, ck_4, rr_1, rc_1, rc_2, K_i, K_l, K_v, I_add, I_sub, I_mul, I_div, I_em, I_eq0, I_lt0, I_0lt, I_le0, I_0le, I_eq, I_lt, I_le, I_a1, I_r1, I_eq1, I32_at, I32_s, Int.toNat_natCast, List.set_cons_zero, reduceCtorEq, not_false_eq_true, not_true_eq_false, false_and, true_and, and_true, and_false, false_or, true_or, or_true, or_false, if_true, if_false, eq_self, ↓reduceIte, Int.reduceEq, Int.reduceLT, Int.reduceLE, Int.reduceAdd, Int.reduceSub, Int.reduceMul, Int.reduceNeg, Int.reduceToNat, Nat.reduceLT, Nat.reduceAdd, Nat.reduceEqDiff, List.length_cons, List.length_nil, sA_at, ss, sA_cm, h_16]
        rw [h3]
        unfold hB
        simp (disch := omega) only [r101_55, r101_56, r101_57, r101_58, r101_61, r101_62, r101_63, sw_ldi, sw_ldl, sw_lda, sw_has1, sw_i1, sw_i2, sw_l1, sw_l2, sw_li, sw_r1, sw_ri, sw_rix, sw_rv, sw_pop, sw_set1, sw_set2, List.set_cons_zero, List.set_cons_succ, List.getElem?_cons_zero, List.getElem?_cons_succ, ald_1, ald_2, ast_1, ast_2, aln_1, aln_2, gf_1, gf_2, pf_1, pf_2, nw_1, ck_0, ck_1, ck_2, ck_3, ck_4, rr_1, rc_1, rc_2, K_i, K_l, K_v, I_add, I_sub, I_mul, I_div, I_em, I_eq0, I_lt0, I_0lt, I_le0, I_0le, I_eq, I_lt, I_le, I_a1, I_r1, I_eq1, I32_at, I32_s, Int.toNat_natCast, List.set_cons_zero, reduceCtorEq, not_false_eq_true, not_true_eq_false, false_and, true_and, and_true, and_false, false_or, true_or, or_true, or_false, if_true, if_false, eq_self, ↓reduceIte, Int.reduceEq, Int.reduceLT, Int.reduceLE, Int.reduceAdd, Int.reduceSub, Int.reduceMul, Int.reduceNeg, Int.reduceToNat, Nat.reduceLT, Nat.reduceAdd, Nat.reduceEqDiff, List.length_cons, List.length_nil, sA_at, ss, sA_cm, h_16, wf_5, e5]
        simp (disch := omega) only [r101_66, r101_67, r101_68, r101_71, r101_72, sw_ldi, sw_ldl, sw_lda, sw_has1, sw_i1, sw_i2, sw_l1, sw_l2, sw_li, sw_r1, sw_ri, sw_rix, sw_rv, sw_pop, sw_set1, sw_set2, List.set_cons_zero, List.set_cons_succ, List.getElem?_cons_zero, List.getElem?_cons_succ, ald_1, ald_2, ast_1, ast_2, aln_1, aln_2, gf_1, gf_2, pf_1, pf_2, nw_1, ck_0, ck_1, ck_2, ck_3, ck_4, rr_1, rc_1, rc_2, K_i, K_l, K_v, I_add, I_sub, I_mul, I_div, I_em, I_eq0, I_lt0, I_0lt, I_le0, I_0le, I_eq, I_lt, I_le, I_a1, I_r1, I_eq1, I32_at, I32_s, Int.toNat_natCast, List.set_cons_zero, reduceCtorEq, not_false_eq_true, not_true_eq_false, false_and, true_and, and_true, and_false, false_or, true_or, or_true, or_false, if_true, if_false, eq_self, ↓reduceIte, Int.reduceEq, Int.reduceLT, Int.reduceLE, Int.reduceAdd, Int.reduceSub, Int.reduceMul, Int.reduceNeg, Int.reduceToNat, Nat.reduceLT, Nat.reduceAdd, Nat.reduceEqDiff, List.length_cons, List.length_nil, sA_at, ss, sA_cm, h_16, e6]
        by_cases c : G 6 < σ2.2.2
        · simp (disch := omega) only [r101_75, r101_78, r101_79, r101_80, r101_83, r101_84, r101_85, r101_86, r101_87, sw_ldi, sw_ldl, sw_lda, sw_has1, sw_i1, sw_i2, sw_l1, sw_l2, sw_li, sw_r1, sw_ri, sw_rix, sw_rv, sw_pop, sw_set1, sw_set2, List.set_cons_zero, List.set_cons_succ, List.getElem?_cons_zero, List.getElem?_cons_succ, ald_1, ald_2, ast_1, ast_2, aln_1, aln_2, gf_1, gf_2, pf_1, pf_2, nw_1, ck_0, ck_1, ck_2, ck_3, ck_4, rr_1, rc_1, rc_2, K_i, K_l, K_v, I_add, I_sub, I_mul, I_div, I_em, I_eq0, I_lt0, I_0lt, I_le0, I_0le, I_eq, I_lt, I_le, I_a1, I_r1, I_eq1, I32_at, I32_s, Int.toNat_natCast, List.set_cons_zero, reduceCtorEq, not_false_eq_true, not_true_eq_false, false_and, true_and, and_true, and_false, false_or, true_or, or_true, or_false, if_true, if_false, eq_self, ↓reduceIte, Int.reduceEq, Int.reduceLT, Int.reduceLE, Int.reduceAdd, Int.reduceSub, Int.reduceMul, Int.reduceNeg, Int.reduceToNat, Nat.reduceLT, Nat.reduceAdd, Nat.reduceEqDiff, List.length_cons, List.length_nil, sA_at, ss, sA_cm, h_16, wf_6, wf_7, e7, c]
          simp (disch := omega) only [r101_90, r101_93, sw_ldi, sw_ldl, sw_lda, sw_has1, sw_i1, sw_i2, sw_l1, sw_l2, sw_li, sw_r1, sw_ri, sw_rix, sw_rv, sw_pop, sw_set1, sw_set2, List.set_cons_zero, List.set_cons_succ, List.getElem?_cons_zero, List.getElem?_cons_succ, ald_1, ald_2, ast_1, ast_2, aln_1, aln_2, gf_1, gf_2, pf_1, pf_2, nw_1, ck_0, ck_1, ck_2, ck_3, ck_4, rr_1, rc_1, rc_2, K_i, K_l, K_v, I_add, I_sub, I_mul, I_div, I_em, I_eq0, I_lt0, I_0lt, I_le0, I_0le, I_eq, I_lt, I_le, I_a1, I_r1, I_eq1, I32_at, I32_s, Int.toNat_natCast, List.set_cons_zero, reduceCtorEq, not_false_eq_true, not_true_eq_false, false_and, true_and, and_true, and_false, false_or, true_or, or_true, or_false, if_true, if_false, eq_self, ↓reduceIte, Int.reduceEq, Int.reduceLT, Int.reduceLE, Int.reduceAdd, Int.reduceSub, Int.reduceMul, Int.reduceNeg, Int.reduceToNat, Nat.reduceLT, Nat.reduceAdd, Nat.reduceEqDiff, List.length_cons, List.length_nil]
          rfl
        · simp (disch := omega) only [r101_75, r101_78, r101_79, r101_80, r101_83, r101_84, r101_85, r101_86, r101_87, sw_ldi, sw_ldl, sw_lda, sw_has1, sw_i1, sw_i2, sw_l1, sw_l2, sw_li, sw_r1, sw_ri, sw_rix, sw_rv, sw_pop, sw_set1, sw_set2, List.set_cons_zero, List.set_cons_succ, List.getElem?_cons_zero, List.getElem?_cons_succ, ald_1, ald_2, ast_1, ast_2, aln_1, aln_2, gf_1, gf_2, pf_1, pf_2, nw_1, ck_0, ck_1, ck_2, ck_3, ck_4, rr_1, rc_1, rc_2, K_i, K_l, K_v, I_add, I_sub, I_mul, I_div, I_em, I_eq0, I_lt0, I_0lt, I_le0, I_0le, I_eq, I_lt, I_le, I_a1, I_r1, I_eq1, I32_at, I32_s, Int.toNat_natCast, List.set_cons_zero, reduceCtorEq, not_false_eq_true, not_true_eq_false, false_and, true_and, and_true, and_false, false_or, true_or, or_true, or_false, if_true, if_false, eq_self, ↓reduceIte, Int.reduceEq, Int.reduceLT, Int.reduceLE, Int.reduceAdd, Int.reduceSub, Int.reduceMul, Int.reduceNeg, Int.reduceToNat, Nat.reduceLT, Nat.reduceAdd, Nat.reduceEqDiff, List.length_cons, List.length_nil, sA_at, ss, sA_cm, h_16, wf_6, wf_7, e7, c]
          simp (disch := omega) only [r101_90, r101_93, sw_ldi, sw_ldl, sw_lda, sw_has1, sw_i1, sw_i2, sw_l1, sw_l2, sw_li, sw_r1, sw_ri, sw_rix, sw_rv, sw_pop, sw_set1, sw_set2, List.set_cons_zero, List.set_cons_succ, List.getElem?_cons_zero, List.getElem?_cons_succ, ald_1, ald_2, ast_1, ast_2, aln_1, aln_2, gf_1, gf_2, pf_1, pf_2, nw_1, ck_0, ck_1, ck_2, ck_3, ck_4, rr_1, rc_1, rc_2, K_i, K_l, K_v, I_add, I_sub, I_mul, I_div, I_em, I_eq0, I_lt0, I_0lt, I_le0, I_0le, I_eq, I_lt, I_le, I_a1, I_r1, I_eq1, I32_at, I32_s, Int.toNat_natCast, List.set_cons_zero, reduceCtorEq, not_false_eq_true, not_true_eq_false, false_and, true_and, and_true, and_false, false_or, true_or, or_true, or_false, if_true, if_false, eq_self, ↓reduceIte, Int.reduceEq, Int.reduceLT, Int.reduceLE, Int.reduceAdd, Int.reduceSub, Int.reduceMul, Int.reduceNeg, Int.reduceToNat, Nat.reduceLT, Nat.reduceAdd, Nat.reduceEqDiff, List.length_cons, List.length_nil]
          rfl
    · have hL2 : ¬ (A 17 i = 1 ∧ a i = -1) := fun q => hL ((MK_Ld hM hi).mpr q)
      have k3 : K3 (A 18) (A 17) (i + 1) = K3 (A 18) (A 17) i := if_neg hL
      obtain ⟨a2, q2, G2, r5, r6, r7, r8, r9, r10⟩ := m101_l hop hob n (i + 1) a q G x (by omega) (MK_no hM hi hL) (by rw [k3]; exact g5) (by rw [k3]; exact g6) (by rw [k3]; exact g7)
      refine ⟨a2, q2, G2, r5, r6, r7, r8, r9, Eq.trans ?_ r10⟩
      rw [r101_25]
      simp (disch := omega) only [r101_26, r101_28, r101_31, r101_32, r101_35, r101_36, r101_37, r101_40, r101_41, r101_44, r101_45, r101_46, r101_47, sw_ldi, sw_ldl, sw_lda, sw_has1, sw_i1, sw_i2, sw_l1, sw_l2, sw_li, sw_r1, sw_ri, sw_rix, sw_rv, sw_pop, sw_set1, sw_set2, List.set_cons_zero, List.set_cons_succ, List.getElem?_cons_zero, List.getElem?_cons_succ, ald_1, ald_2, ast_1, ast_2, aln_1, aln_2, gf_1, gf_2, pf_1, pf_2, nw_1, ck_0, ck_1, ck_2, ck_3, ck_4, rr_1, rc_1, rc_2, K_i, K_l, K_v, I_add, I_sub, I_mul, I_div, I_em, I_eq0, I_lt0, I_0lt, I_le0, I_0le, I_eq, I_lt, I_le, I_a1, I_r1, I_eq1, I32_at, I32_s, Int.toNat_natCast, List.set_cons_zero, reduceCtorEq, not_false_eq_true, not_true_eq_false, false_and, true_and, and_true, and_false, false_or, true_or, or_true, or_false, if_true, if_false, eq_self, ↓reduceIte, Int.reduceEq, Int.reduceLT, Int.reduceLE, Int.reduceAdd, Int.reduceSub, Int.reduceMul, Int.reduceNeg, Int.reduceToNat, Nat.reduceLT, Nat.reduceAdd, Nat.reduceEqDiff, List.length_cons, List.length_nil, sA_at, ss, sA_cm, h_16, h_17, h_19]
      rw [if_neg (by omega)]
      by_cases c : A 17 i = 0
      · rw [if_pos c]
        simp (disch := omega) only [r101_90, r101_93, sw_ldi, sw_ldl, sw_lda, sw_has1, sw_i1, sw_i2, sw_l1, sw_l2, sw_li, sw_r1, sw_ri, sw_rix, sw_rv, sw_pop, sw_set1, sw_set2, List.set_cons_zero, List.set_cons_succ, List.getElem?_cons_zero, List.getElem?_cons_succ, ald_1, ald_2, ast_1, ast_2, aln_1, aln_2, gf_1, gf_2, pf_1, pf_2, nw_1, ck_0, ck_1, ck_2, ck_3, ck_4, rr_1, rc_1, rc_2, K_i, K_l, K_v, I_add, I_sub, I_mul, I_div, I_em, I_eq0, I_lt0, I_0lt, I_le0, I_0le, I_eq, I_lt, I_le, I_a1, I_r1, I_eq1, I32_at, I32_s, Int.toNat_natCast, List.set_cons_zero, reduceCtorEq, not_false_eq_true, not_true_eq_false, false_and, true_and, and_true, and_false, false_or, true_or, or_true, or_false, if_true, if_false, eq_self, ↓reduceIte, Int.reduceEq, Int.reduceLT, Int.reduceLE, Int.reduceAdd, Int.reduceSub, Int.reduceMul, Int.reduceNeg, Int.reduceToNat, Nat.reduceLT, Nat.reduceAdd, Nat.reduceEqDiff, List.length_cons, List.length_nil]
        rfl
      · rw [if_neg c, if_pos (by omega)]
        simp (disch := omega) only [r101_90, r101_93, sw_ldi, sw_ldl, sw_lda, sw_has1, sw_i1, sw_i2, sw_l1, sw_l2, sw_li, sw_r1, sw_ri, sw_rix, sw_rv, sw_pop, sw_set1, sw_set2, List.set_cons_zero, List.set_cons_succ, List.getElem?_cons_zero, List.getElem?_cons_succ, ald_1, ald_2, ast_1, ast_2, aln_1, aln_2, gf_1, gf_2, pf_1, pf_2, nw_1, ck_0, ck_1, ck_2, ck_3, ck_4, rr_1, rc_1, rc_2, K_i, K_l, K_v, I_add, I_sub, I_mul, I_div, I_em, I_eq0, I_lt0, I_0lt, I_le0, I_0le, I_eq, I_lt, I_le, I_a1, I_r1, I_eq1, I32_at, I32_s, Int.toNat_natCast, List.set_cons_zero, reduceCtorEq, not_false_eq_true, not_true_eq_false, false_and, true_and, and_true, and_false, false_or, true_or, or_true, or_false, if_true, if_false, eq_self, ↓reduceIte, Int.reduceEq, Int.reduceLT, Int.reduceLE, Int.reduceAdd, Int.reduceSub, Int.reduceMul, Int.reduceNeg, Int.reduceToNat, Nat.reduceLT, Nat.reduceAdd, Nat.reduceEqDiff, List.length_cons, List.length_nil]
        rfl
end sw_m14
