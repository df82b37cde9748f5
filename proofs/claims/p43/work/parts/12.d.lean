/-! steps, to its end -/
theorem le_iff {A : Nat → Nat → Int} {nb ns : Nat → Int} {shut : Int64} {k p : Int} (hA : Nm A) (hS : Sm A nb ns shut) {b : Nat} (hb2 : b < 60) : leb nb ns shut k p (-1) b = true ↔ ¬ ob2 A k p b = 0 := by
  unfold leb
  rw [decide_eq_true_iff, ob_iff hA hS hb2]
  exact ⟨fun q => q.2, fun q => ⟨by omega, q⟩⟩
/-- the sites within n steps -/
def Nw (st : Nat → Int) (n : Int) (now : Int64) : Prop := ∀ i, i < 64 → (hb now i = true ↔ (i < 36 ∧ 0 ≤ st i ∧ st i ≤ n))
theorem Nw_0 {A : Nat → Nat → Int} {nb ns : Nat → Int} {shut : Int64} {k p : Int} {st : Nat → Int} {z : Int} (hA : Nm A) (hS : Sm A nb ns shut) (b : BD (ob2 A k p) (Sd (os2 A k p) 1) st z) : Nw st 0 (gs shut (sdv 0) ns k p 36) := by
  intro i h64
  rw [gs_v 36 (Nat.le_refl _) i h64, sdv_v (by omega) h64]
  constructor
  · rintro ⟨h1, ⟨-, h2⟩, h3⟩
    have := b.2.2.1 i h1 ⟨(os_iff hA hS h1).mpr h3, h2⟩
    omega
  · rintro ⟨h1, h2, h3⟩
    rcases b.2.2.2.1 i h1 h2 with q | ⟨u, _, _, h4, h5⟩
    · exact ⟨h1, ⟨h1, q.2.2⟩, (os_iff hA hS h1).mp q.2.1⟩
    · omega
theorem Nw_s {A : Nat → Nat → Int} {nb ns : Nat → Int} {shut now : Int64} {k p : Int} {st : Nat → Int} {z n : Int} {S : Nat → Prop} (hA : Nm A) (hS : Sm A nb ns shut) (b : BD (ob2 A k p) S st z) (hn : 0 ≤ n) (h : Nw st n now) : Nw st (n + 1) (nxp (leb nb ns shut k p (-1)) now 60) := by
  intro i h64
  rw [nxp_v 60 (Nat.le_refl _) i h64, h i h64]
  constructor
  · rintro (q | ⟨c, c1, c2, c3⟩)
    · omega
    · have e := b_Ed c1 ((le_iff hA hS c1).mp c2)
      have l1 := (lo_lt c1).1
      have l2 := (hi_lt c1).1
      rcases c3 with ⟨e1, e2⟩ | ⟨e1, e2⟩
      · have q := (h _ (by omega)).mp e2
        have := b.2.2.2.2 _ _ l2 l1 q.2.1 e.2
        rw [e1] at this l1
        omega
      · have q := (h _ (by omega)).mp e2
        have := b.2.2.2.2 _ _ l1 l2 q.2.1 e.1
        rw [e1] at this l2
        omega
  · rintro ⟨h1, h2, h3⟩
    by_cases c : st i ≤ n
    · exact Or.inl ⟨h1, h2, c⟩
    · rcases b.2.2.2.1 i h1 h2 with q | ⟨u, u1, u2, u3, u4⟩
      · have : st i = 0 := q.1
        omega
      · obtain ⟨c, c1, c2, c3⟩ := Ed_b u1 u2
        have hu : hb now u = true := (h u (by omega)).mpr ⟨u1, u3, by omega⟩
        refine Or.inr ⟨c, c1, (le_iff hA hS c1).mpr c2, ?_⟩
        rcases c3 with ⟨e1, e2⟩ | ⟨e1, e2⟩
        · exact Or.inr ⟨e2, by rw [e1]; exact hu⟩
        · exact Or.inl ⟨e1, by rw [e2]; exact hu⟩
section sw_s7
variable {H : sw_HS} {Q : sw_Ot → sw_HS → Prop} {rb rs : Nat} {nb ns : Nat → Int} {shut all : Int64} {k p : Int} {A : Nat → Nat → Int} {st : Nat → Int} {z : Int}
theorem m129_w (hA : Nm A) (hS : Sm A nb ns shut) (b : BD (ob2 A k p) (Sd (os2 A k p) 1) st z) (hm : ¬ lst st 2 36 = -1) (hb0 : H.1 rb = .inr (0, 60, I32 nb)) (hs0 : H.1 rs = .inr (0, 36, I32 ns)) (nb1 : ∀ i, i < 60 → 0 ≤ nb i ∧ nb i < 1000) (ns1 : ∀ i, i < 36 → 0 ≤ ns i ∧ ns i < 1000) (k0 : 0 ≤ k) (k1 : k ≤ 2) (p0 : -1 ≤ p) (p1 : p ≤ 1000) : ∀ (d n : Nat) (now : Int64) (x y : Option Value), (n : Int) + d = lst st 2 36 → Nw st n now → sw_A 129 97 [some (.ref rb), some (.ref rs), some (.long shut), none, some (.int (Int32.ofInt k)), some (.int (Int32.ofInt p)), some (.long all), none, some (.long now), none, some (.int (Int32.ofInt n)), x, none, y] [] H Q = Q (some (some (.int (Int32.ofInt (lst st 2 36))))) H := by
  intro d
  have lv := (lst_v (st := st) (to := 2) 36 fun t h => (b.1 t h).1).2 hm
  have lb := lst_b (st := st) (to := 2) 36 b.1
  induction d with
  | zero =>
    intro n now x y hn hN
    obtain ⟨⟨t, t1, t2, t3, t4⟩, -⟩ := lv
    have c : ¬ now &&& sdv 1 = 0 := fun q => (and_0.mp q) t (by omega) ⟨(hN t (by omega)).mpr ⟨t1, t4, by omega⟩, (sdv_v (by omega) (by omega)).mpr ⟨t1, t2⟩⟩
    rw [r129_97]
    simp (disch := omega) only [r129_99, r129_100, r129_103, r129_104, r129_105, sw_ldi, sw_ldl, sw_lda, sw_has1, sw_i1, sw_i2, sw_l1, sw_l2, sw_li, sw_r1, sw_ri, sw_rix, sw_rv, sw_pop, sw_set1, sw_set2, List.set_cons_zero, List.set_cons_succ, List.getElem?_cons_zero, List.getElem?_cons_succ, ald_1, ald_2, ast_1, ast_2, aln_1, aln_2, gf_1, gf_2, pf_1, pf_2, nw_1, ck_0, ck_1, ck_2, ck_3, ck_4, rr_1, rc_1, rc_2, K_i, K_l, K_v, I_add, I_sub, I_mul, I_div, I_em, I_eq0, I_lt0, I_0lt, I_le0, I_0le, I_eq, I_lt, I_le, I_a1, I_r1, I_eq1, I32_at, I32_s, Int.toNat_natCast, List.set_cons_zero, reduceCtorEq, not_false_eq_true, not_true_eq_false, false_and, true_and, and_true, and_false, false_or, true_or, or_true, or_false, if_true, if_false, eq_self, ↓reduceIte, Int.reduceEq, Int.reduceLT, Int.reduceLE, Int.reduceAdd, Int.reduceSub, Int.reduceMul, Int.reduceNeg, Int.reduceToNat, Nat.reduceLT, Nat.reduceAdd, Nat.reduceEqDiff, List.length_cons, List.length_nil, m69_1]
    rw [r129_106]
    simp only [sw_i1]
    rw [show Int64.ofNat 0 = 0 from rfl, if_pos (fun q => c ((lg_0 _ _).mp q))]
    simp (disch := omega) only [r129_197, r129_199, sw_ldi, sw_ldl, sw_lda, sw_has1, sw_i1, sw_i2, sw_l1, sw_l2, sw_li, sw_r1, sw_ri, sw_rix, sw_rv, sw_pop, sw_set1, sw_set2, List.set_cons_zero, List.set_cons_succ, List.getElem?_cons_zero, List.getElem?_cons_succ, ald_1, ald_2, ast_1, ast_2, aln_1, aln_2, gf_1, gf_2, pf_1, pf_2, nw_1, ck_0, ck_1, ck_2, ck_3, ck_4, rr_1, rc_1, rc_2, K_i, K_l, K_v, I_add, I_sub, I_mul, I_div, I_em, I_eq0, I_lt0, I_0lt, I_le0, I_0le, I_eq, I_lt, I_le, I_a1, I_r1, I_eq1, I32_at, I32_s, Int.toNat_natCast, List.set_cons_zero, reduceCtorEq, not_false_eq_true, not_true_eq_false, false_and, true_and, and_true, and_false, false_or, true_or, or_true, or_false, if_true, if_false, eq_self, ↓reduceIte, Int.reduceEq, Int.reduceLT, Int.reduceLE, Int.reduceAdd, Int.reduceSub, Int.reduceMul, Int.reduceNeg, Int.reduceToNat, Nat.reduceLT, Nat.reduceAdd, Nat.reduceEqDiff, List.length_cons, List.length_nil]
    rw [show (n : Int) = lst st 2 36 by omega]
  | succ d ih =>
    intro n now x y hn hN
    have c : now &&& sdv 1 = 0 := and_0.mpr fun i h64 q => by
      have q1 := (hN i h64).mp q.1
      have q2 := (sdv_v (w := 1) (by omega) h64).mp q.2
      have := lv.2 i q1.1 q2.2 q1.2.1
      omega
    have pp := m129_p (H := H) (Q := Q) (all := all) (shut := shut) (now := now) (j := n) hb0 hs0 nb1 ns1 k0 k1 p0 p1 60 0 (by omega)
    have nx := ih (n + 1) (nxp (leb nb ns shut k p (-1)) now 60) (some (.long (nxp (leb nb ns shut k p (-1)) now 60))) (some (.int (Int32.ofInt 60))) (by omega) (Nw_s hA hS b (by omega) hN)
    refine Eq.trans ?_ (Eq.trans pp nx)
    rw [r129_97]
    simp (disch := omega) only [r129_99, r129_100, r129_103, r129_104, r129_105, sw_ldi, sw_ldl, sw_lda, sw_has1, sw_i1, sw_i2, sw_l1, sw_l2, sw_li, sw_r1, sw_ri, sw_rix, sw_rv, sw_pop, sw_set1, sw_set2, List.set_cons_zero, List.set_cons_succ, List.getElem?_cons_zero, List.getElem?_cons_succ, ald_1, ald_2, ast_1, ast_2, aln_1, aln_2, gf_1, gf_2, pf_1, pf_2, nw_1, ck_0, ck_1, ck_2, ck_3, ck_4, rr_1, rc_1, rc_2, K_i, K_l, K_v, I_add, I_sub, I_mul, I_div, I_em, I_eq0, I_lt0, I_0lt, I_le0, I_0le, I_eq, I_lt, I_le, I_a1, I_r1, I_eq1, I32_at, I32_s, Int.toNat_natCast, List.set_cons_zero, reduceCtorEq, not_false_eq_true, not_true_eq_false, false_and, true_and, and_true, and_false, false_or, true_or, or_true, or_false, if_true, if_false, eq_self, ↓reduceIte, Int.reduceEq, Int.reduceLT, Int.reduceLE, Int.reduceAdd, Int.reduceSub, Int.reduceMul, Int.reduceNeg, Int.reduceToNat, Nat.reduceLT, Nat.reduceAdd, Nat.reduceEqDiff, List.length_cons, List.length_nil, m69_1]
    rw [r129_106]
    simp only [sw_i1]
    rw [show Int64.ofNat 0 = 0 from rfl, if_neg (fun q => q ((lg_0 _ _).mpr c))]
    simp (disch := omega) only [r129_109, r129_111, r129_113, r129_114, sw_ldi, sw_ldl, sw_lda, sw_has1, sw_i1, sw_i2, sw_l1, sw_l2, sw_li, sw_r1, sw_ri, sw_rix, sw_rv, sw_pop, sw_set1, sw_set2, List.set_cons_zero, List.set_cons_succ, List.getElem?_cons_zero, List.getElem?_cons_succ, ald_1, ald_2, ast_1, ast_2, aln_1, aln_2, gf_1, gf_2, pf_1, pf_2, nw_1, ck_0, ck_1, ck_2, ck_3, ck_4, rr_1, rc_1, rc_2, K_i, K_l, K_v, I_add, I_sub, I_mul, I_div, I_em, I_eq0, I_lt0, I_0lt, I_le0, I_0le, I_eq, I_lt, I_le, I_a1, I_r1, I_eq1, I32_at, I32_s, Int.toNat_natCast, List.set_cons_zero, reduceCtorEq, not_false_eq_true, not_true_eq_false, false_and, true_and, and_true, and_false, false_or, true_or, or_true, or_false, if_true, if_false, eq_self, ↓reduceIte, Int.reduceEq, Int.reduceLT, Int.reduceLE, Int.reduceAdd, Int.reduceSub, Int.reduceMul, Int.reduceNeg, Int.reduceToNat, Nat.reduceLT, Nat.reduceAdd, Nat.reduceEqDiff, List.length_cons, List.length_nil]
    rfl
/-- steps is shortest -/
theorem m129 (hA : Nm A) (hS : Sm A nb ns shut) (b : BD (ob2 A k p) (Sd (os2 A k p) 1) st z) (hb0 : H.1 rb = .inr (0, 60, I32 nb)) (hs0 : H.1 rs = .inr (0, 36, I32 ns)) (nb1 : ∀ i, i < 60 → 0 ≤ nb i ∧ nb i < 1000) (ns1 : ∀ i, i < 36 → 0 ≤ ns i ∧ ns i < 1000) (k0 : 0 ≤ k) (k1 : k ≤ 2) (p0 : -1 ≤ p) (p1 : p ≤ 1000) : sw_M 129 [.ref rb, .ref rs, .long shut, .int (Int32.ofInt k), .int (Int32.ofInt p)] H Q = Q (some (some (.int (Int32.ofInt (lst st 2 36))))) H := by
  obtain ⟨r, g1, g2⟩ := m82 (H := H) (frm := sdv 0) (shut := shut) (wo := -1) (Q := sw_K 129 15 none [some (.ref rb), some (.ref rs), some (.long shut), none, some (.int (Int32.ofInt k)), some (.int (Int32.ofInt p)), none, none, none, none, none, none, none, none] [] Q) (by omega) (by omega) hb0 hs0 nb1 ns1 k0 k1 p0 p1
  have se := span_eq (wf := 0) (wt := 1) (by omega) (by omega) hA hS b g1
  have lb := lst_b (st := st) (to := 2) 36 b.1
  rw [e129]
  simp (disch := omega) only [r129_0, r129_1, r129_2, r129_3, r129_5, r129_7, r129_8, r129_11, r129_12, sw_ldi, sw_ldl, sw_lda, sw_has1, sw_i1, sw_i2, sw_l1, sw_l2, sw_li, sw_r1, sw_ri, sw_rix, sw_rv, sw_pop, sw_set1, sw_set2, List.set_cons_zero, List.set_cons_succ, List.getElem?_cons_zero, List.getElem?_cons_succ, ald_1, ald_2, ast_1, ast_2, aln_1, aln_2, gf_1, gf_2, pf_1, pf_2, nw_1, ck_0, ck_1, ck_2, ck_3, ck_4, rr_1, rc_1, rc_2, K_i, K_l, K_v, I_add, I_sub, I_mul, I_div, I_em, I_eq0, I_lt0, I_0lt, I_le0, I_0le, I_eq, I_lt, I_le, I_a1, I_r1, I_eq1, I32_at, I32_s, Int.toNat_natCast, List.set_cons_zero, reduceCtorEq, not_false_eq_true, not_true_eq_false, false_and, true_and, and_true, and_false, false_or, true_or, or_true, or_false, if_true, if_false, eq_self, ↓reduceIte, Int.reduceEq, Int.reduceLT, Int.reduceLE, Int.reduceAdd, Int.reduceSub, Int.reduceMul, Int.reduceNeg, Int.reduceToNat, Nat.reduceLT, Nat.reduceAdd, Nat.reduceEqDiff, List.length_cons, List.length_nil, m69_0, ck_i5]
  rw [g2]
  simp (disch := omega) only [r129_15, r129_17, r129_19, r129_20, r129_23, r129_24, r129_25, sw_ldi, sw_ldl, sw_lda, sw_has1, sw_i1, sw_i2, sw_l1, sw_l2, sw_li, sw_r1, sw_ri, sw_rix, sw_rv, sw_pop, sw_set1, sw_set2, List.set_cons_zero, List.set_cons_succ, List.getElem?_cons_zero, List.getElem?_cons_succ, ald_1, ald_2, ast_1, ast_2, aln_1, aln_2, gf_1, gf_2, pf_1, pf_2, nw_1, ck_0, ck_1, ck_2, ck_3, ck_4, rr_1, rc_1, rc_2, K_i, K_l, K_v, I_add, I_sub, I_mul, I_div, I_em, I_eq0, I_lt0, I_0lt, I_le0, I_0le, I_eq, I_lt, I_le, I_a1, I_r1, I_eq1, I32_at, I32_s, Int.toNat_natCast, List.set_cons_zero, reduceCtorEq, not_false_eq_true, not_true_eq_false, false_and, true_and, and_true, and_false, false_or, true_or, or_true, or_false, if_true, if_false, eq_self, ↓reduceIte, Int.reduceEq, Int.reduceLT, Int.reduceLE, Int.reduceAdd, Int.reduceSub, Int.reduceMul, Int.reduceNeg, Int.reduceToNat, Nat.reduceLT, Nat.reduceAdd, Nat.reduceEqDiff, List.length_cons, List.length_nil, m69_1]
  rw [r129_26]
  simp only [sw_i1]
  rw [show Int64.ofNat 0 = 0 from rfl]
  by_cases c : r &&& sdv 1 = 0
  · have c2 : lst st 2 36 = -1 := se.mpr c
    rw [if_neg (fun q => q ((lg_0 _ _).mpr c)), c2]
    simp (disch := omega) only [r129_29, r129_30, sw_ldi, sw_ldl, sw_lda, sw_has1, sw_i1, sw_i2, sw_l1, sw_l2, sw_li, sw_r1, sw_ri, sw_rix, sw_rv, sw_pop, sw_set1, sw_set2, List.set_cons_zero, List.set_cons_succ, List.getElem?_cons_zero, List.getElem?_cons_succ, ald_1, ald_2, ast_1, ast_2, aln_1, aln_2, gf_1, gf_2, pf_1, pf_2, nw_1, ck_0, ck_1, ck_2, ck_3, ck_4, rr_1, rc_1, rc_2, K_i, K_l, K_v, I_add, I_sub, I_mul, I_div, I_em, I_eq0, I_lt0, I_0lt, I_le0, I_0le, I_eq, I_lt, I_le, I_a1, I_r1, I_eq1, I32_at, I32_s, Int.toNat_natCast, List.set_cons_zero, reduceCtorEq, not_false_eq_true, not_true_eq_false, false_and, true_and, and_true, and_false, false_or, true_or, or_true, or_false, if_true, if_false, eq_self, ↓reduceIte, Int.reduceEq, Int.reduceLT, Int.reduceLE, Int.reduceAdd, Int.reduceSub, Int.reduceMul, Int.reduceNeg, Int.reduceToNat, Nat.reduceLT, Nat.reduceAdd, Nat.reduceEqDiff, List.length_cons, List.length_nil]
  · have c2 : ¬ lst st 2 36 = -1 := fun q => c (se.mp q)
    rw [if_pos (fun q => c ((lg_0 _ _).mp q))]
    simp (disch := omega) only [r129_31, r129_32, r129_34, r129_35, sw_ldi, sw_ldl, sw_lda, sw_has1, sw_i1, sw_i2, sw_l1, sw_l2, sw_li, sw_r1, sw_ri, sw_rix, sw_rv, sw_pop, sw_set1, sw_set2, List.set_cons_zero, List.set_cons_succ, List.getElem?_cons_zero, List.getElem?_cons_succ, ald_1, ald_2, ast_1, ast_2, aln_1, aln_2, gf_1, gf_2, pf_1, pf_2, nw_1, ck_0, ck_1, ck_2, ck_3, ck_4, rr_1, rc_1, rc_2, K_i, K_l, K_v, I_add, I_sub, I_mul, I_div, I_em, I_eq0, I_lt0, I_0lt, I_le0, I_0le, I_eq, I_lt, I_le, I_a1, I_r1, I_eq1, I32_at, I32_s, Int.toNat_natCast, List.set_cons_zero, reduceCtorEq, not_false_eq_true, not_true_eq_false, false_and, true_and, and_true, and_false, false_or, true_or, or_true, or_false, if_true, if_false, eq_self, ↓reduceIte, Int.reduceEq, Int.reduceLT, Int.reduceLE, Int.reduceAdd, Int.reduceSub, Int.reduceMul, Int.reduceNeg, Int.reduceToNat, Nat.reduceLT, Nat.reduceAdd, Nat.reduceEqDiff, List.length_cons, List.length_nil]
    refine Eq.trans (m129_s (H := H) (Q := Q) (rb := rb) (all := r) (shut := shut) hs0 ns1 k0 k1 p0 p1 36 0 (by omega)) ?_
    exact m129_w hA hS b c2 hb0 hs0 nb1 ns1 k0 k1 p0 p1 (lst st 2 36).toNat 0 _ none none (by omega) (Nw_0 hA hS b)
end sw_s7
