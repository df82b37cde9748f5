section sw_tg
variable {L : Nat} {A : Nat → Nat → Int} {F : Nat → Int} {T : Nat → sw_Ce} {X : Nat × Nat × Nat} {Q : sw_Ot → sw_HS → Prop} {shut wet trees oil : Int64} {d turn ac sa : Int} {v y : Int32} {x21 x22 x23 x24 x25 x26 x27 x28 x29 : Option Value}
theorem Iv_w1 {t : Nat} (ht : t < 36) (h0 : A 9 t = 0) (hI : Iv A shut wet trees oil) : Iv (sw_s A 10 (sw_s (A 10) t 1)) shut (wet ||| sb t) trees oil := by
  have h := hI.1
  refine ⟨⟨h.1, ⟨B01_s h.2.1.1 (Or.inr rfl), h.2.1.2⟩, fun u hu g => ⟨?_, (h.2.2.1 u hu g).2⟩, h.2.2.2⟩, fun u hu => ?_, hI.2.2⟩
  · show sw_s (A 10) t 1 u = 0
    unfold sw_s
    rw [if_neg (fun e => by rw [e] at g; exact absurd (h0.symm.trans g) (by decide))]
    exact (h.2.2.1 u hu g).1
  · rw [sb_o (by omega) hu]
    show _ ↔ u < 36 ∧ sw_s (A 10) t 1 u = 1
    unfold sw_s
    by_cases e : u = t
    · rw [if_pos e, decide_eq_true e, Bool.or_true]
      exact ⟨fun _ => ⟨by omega, rfl⟩, fun _ => rfl⟩
    · rw [if_neg e, decide_eq_false e, Bool.or_false]
      exact hI.2.1 u hu
theorem Iv_w0 {t : Nat} (ht : t < 36) (hI : Iv A shut wet trees oil) : Iv (sw_s A 10 (sw_s (A 10) t 0)) shut (wet &&& (sb t ^^^ Int64.ofInt (-1))) trees oil := by
  have h := hI.1
  refine ⟨⟨h.1, ⟨B01_s h.2.1.1 (Or.inl rfl), h.2.1.2⟩, fun u hu g => ⟨?_, (h.2.2.1 u hu g).2⟩, h.2.2.2⟩, fun u hu => ?_, hI.2.2⟩
  · show sw_s (A 10) t 0 u = 0
    unfold sw_s
    split
    · rfl
    · exact (h.2.2.1 u hu g).1
  · rw [sb_a (by omega) hu]
    show _ ↔ u < 36 ∧ sw_s (A 10) t 0 u = 1
    unfold sw_s
    by_cases e : u = t
    · rw [if_pos e, decide_eq_true e, Bool.not_true, Bool.and_false]
      exact ⟨fun q => absurd q (by decide), fun q => absurd q.2 (by decide)⟩
    · rw [if_neg e, decide_eq_false e, Bool.not_false, Bool.and_true]
      exact hI.2.1 u hu
theorem W1 (s0 : 0 ≤ sa) (s9 : sa < 36) {a b : Nat} (hQ : ∀ (B : Nat → Nat → Int) (X2 : Nat × Nat × Nat) (w2 : Int64) (x21 x22 x23 : Option Value), Iv B shut w2 trees oil → Rm X2 (a + 5) (b + 30) → sw_A 150 590 [some (.ref 0), some (.ref 1), some (.ref 54), some (.ref 55), some (.ref 56), some (.ref 57), some (.ref 58), some (.long shut), none, some (.long w2), none, some (.long trees), none, some (.long oil), none, some (.int (Int32.ofInt d)), some (.int (Int32.ofInt turn)), some (.int v), some (.int y), some (.int (Int32.ofInt ac)), some (.int (Int32.ofInt sa)), x21, x22, x23, x24, x25, x26, x27, x28, x29] [] (sw_h L B F T X2) Q) :
    ∀ (n j : Nat) (A : Nat → Nat → Int) (X : Nat × Nat × Nat) (wet : Int64) (x22 x23 : Option Value), j + n = 5 → Iv A shut wet trees oil → Rm X (a + j) (b + 6 * j) → sw_A 150 463 [some (.ref 0), some (.ref 1), some (.ref 54), some (.ref 55), some (.ref 56), some (.ref 57), some (.ref 58), some (.long shut), none, some (.long wet), none, some (.long trees), none, some (.long oil), none, some (.int (Int32.ofInt d)), some (.int (Int32.ofInt turn)), some (.int v), some (.int y), some (.int (Int32.ofInt ac)), some (.int (Int32.ofInt sa)), some (.int (Int32.ofInt (j : Int))), x22, x23, x24, x25, x26, x27, x28, x29] [] (sw_h L A F T X) Q
  | 0, j, A, X, wet, x22, x23, hn, hI, hX => by
    have e : j = 5 := hn
    subst e
    have hq := hQ A X wet (some (.int (Int32.ofInt ((5 : Nat) : Int)))) x22 x23 hI hX
    rw [r150_463]
    simp (disch := omega) only [r150_465, r150_466, sw_ldi, sw_ldl, sw_lda, sw_has1, sw_i1, sw_i2, sw_l1, sw_l2, sw_li, sw_r1, sw_ri, sw_rix, sw_rv, sw_pop, sw_set1, sw_set2, List.set_cons_zero, List.set_cons_succ, List.getElem?_cons_zero, List.getElem?_cons_succ, ald_1, ald_2, ast_1, ast_2, aln_1, aln_2, gf_1, gf_2, pf_1, pf_2, nw_1, ck_0, ck_1, ck_2, ck_3, ck_4, rr_1, rc_1, rc_2, K_i, K_l, K_v, I_add, I_sub, I_mul, I_div, I_em, I_eq0, I_lt0, I_0lt, I_le0, I_0le, I_eq, I_lt, I_le, I_a1, I_r1, I_eq1, I32_at, I32_s, Int.toNat_natCast, List.set_cons_zero, reduceCtorEq, not_false_eq_true, not_true_eq_false, false_and, true_and, and_true, and_false, false_or, true_or, or_true, or_false, if_true, if_false, eq_self, ↓reduceIte, Int.reduceEq, Int.reduceLT, Int.reduceLE, Int.reduceAdd, Int.reduceSub, Int.reduceMul, Int.reduceNeg, Int.reduceToNat, Nat.reduceLT, Nat.reduceAdd, Nat.reduceEqDiff, List.length_cons, List.length_nil]
    exact hq
  | n + 1, j, A, X, wet, x22, x23, hn, hI, hX => by
    have bb := f_low_b (v := v >>> (Int32.ofInt (5 + (j : Int)) &&& 31)) (n := 4) (by omega)
    have tt : 0 ≤ (sa + 7 * (j : Int)) % 36 ∧ (sa + 7 * (j : Int)) % 36 < 36 := by omega
    have ih := fun A X wet x22 x23 => W1 s0 s9 hQ n (j + 1) A X wet x22 x23 (by omega)
    have ej : ((j + 1 : Nat) : Int) = (j : Int) + 1 := rfl
    rw [ej] at ih
    have rx : Rm X (a + (j + 1)) (b + 6 * (j + 1)) := ⟨hX.1, Nat.le_trans hX.2.1 (by omega), Nat.le_trans hX.2.2 (by omega)⟩
    have re : Rm (xE X) (a + (j + 1)) (b + 6 * (j + 1)) := ⟨hX.1, Nat.le_trans (Nat.add_le_add_right hX.2.1 1) (by omega), Nat.le_trans (Nat.add_le_add_right hX.2.2 6) (by omega)⟩
    rw [r150_463]
    by_cases c : f_low (v >>> (Int32.ofInt (5 + (j : Int)) &&& 31)) 4 ≤ 0
    · simp (disch := omega) only [r150_465, r150_466, r150_469, r150_471, r150_473, r150_475, r150_476, r150_477, r150_479, r150_480, r150_482, r150_484, r150_485, r150_487, r150_488, r150_489, r150_490, r150_493, r150_496, r150_497, r150_500, r150_501, r150_503, r150_504, r150_506, r150_508, sw_ldi, sw_ldl, sw_lda, sw_has1, sw_i1, sw_i2, sw_l1, sw_l2, sw_li, sw_r1, sw_ri, sw_rix, sw_rv, sw_pop, sw_set1, sw_set2, List.set_cons_zero, List.set_cons_succ, List.getElem?_cons_zero, List.getElem?_cons_succ, ald_1, ald_2, ast_1, ast_2, aln_1, aln_2, gf_1, gf_2, pf_1, pf_2, nw_1, ck_0, ck_1, ck_2, ck_3, ck_4, rr_1, rc_1, rc_2, K_i, K_l, K_v, I_add, I_sub, I_mul, I_div, I_em, I_eq0, I_lt0, I_0lt, I_le0, I_0le, I_eq, I_lt, I_le, I_a1, I_r1, I_eq1, I32_at, I32_s, Int.toNat_natCast, List.set_cons_zero, reduceCtorEq, not_false_eq_true, not_true_eq_false, false_and, true_and, and_true, and_false, false_or, true_or, or_true, or_false, if_true, if_false, eq_self, ↓reduceIte, Int.reduceEq, Int.reduceLT, Int.reduceLE, Int.reduceAdd, Int.reduceSub, Int.reduceMul, Int.reduceNeg, Int.reduceToNat, Nat.reduceLT, Nat.reduceAdd, Nat.reduceEqDiff, List.length_cons, List.length_nil, m16, h_1, c]
      generalize (sa + 7 * (j : Int)) % 36 = t1 at tt
      obtain ⟨t, rfl⟩ := Int.eq_ofNat_of_zero_le tt.1
      have ht : t < 36 := by omega
      have e0 := Lw_sh hI.1.1 t ht
      have e1 := Bt_bi hI.2.1 hI.1.2.1.1 t ht
      rcases hI.1.1.1.2.2 t ht with z | z
      · rw [z] at e0
        rw [m40_0 tt.1 tt.2 (by omega) (hI.1.2.1.1 t ht) z]
        have hh := ih (sw_s A 10 (sw_s (A 10) t 0)) X (wet &&& (sb t ^^^ Int64.ofInt (-1))) (some (.int (Int32.ofInt (t : Int)))) (some (.int (Int32.ofInt 0))) (Iv_w0 ht hI) rx
        rcases hI.1.2.1.1 t ht with q | q
        · rw [q] at e1
          simp (disch := omega) only [r150_511, r150_513, r150_515, r150_518, r150_521, r150_523, r150_526, r150_528, r150_530, r150_533, r150_536, r150_537, r150_540, r150_541, r150_544, r150_545, r150_546, r150_548, r150_550, r150_553, r150_556, r150_558, r150_561, r150_563, r150_564, r150_566, r150_567, r150_568, r150_571, r150_573, r150_574, r150_576, r150_577, r150_580, r150_581, r150_582, r150_584, r150_587, sw_ldi, sw_ldl, sw_lda, sw_has1, sw_i1, sw_i2, sw_l1, sw_l2, sw_li, sw_r1, sw_ri, sw_rix, sw_rv, sw_pop, sw_set1, sw_set2, List.set_cons_zero, List.set_cons_succ, List.getElem?_cons_zero, List.getElem?_cons_succ, ald_1, ald_2, ast_1, ast_2, aln_1, aln_2, gf_1, gf_2, pf_1, pf_2, nw_1, ck_0, ck_1, ck_2, ck_3, ck_4, rr_1, rc_1, rc_2, K_i, K_l, K_v, I_add, I_sub, I_mul, I_div, I_em, I_eq0, I_lt0, I_0lt, I_le0, I_0le, I_eq, I_lt, I_le, I_a1, I_r1, I_eq1, I32_at, I32_s, Int.toNat_natCast, List.set_cons_zero, reduceCtorEq, not_false_eq_true, not_true_eq_false, false_and, true_and, and_true, and_false, false_or, true_or, or_true, or_false, if_true, if_false, eq_self, ↓reduceIte, Int.reduceEq, Int.reduceLT, Int.reduceLE, Int.reduceAdd, Int.reduceSub, Int.reduceMul, Int.reduceNeg, Int.reduceToNat, Nat.reduceLT, Nat.reduceAdd, Nat.reduceEqDiff, List.length_cons, List.length_nil, m30, e0, e1, q]
          rw [if_neg (show ¬ (5 : Int) ≤ (j : Int) by omega)]
          exact hh
        · rw [q] at e1
          simp (disch := omega) only [r150_511, r150_513, r150_515, r150_518, r150_521, r150_523, r150_526, r150_528, r150_530, r150_533, r150_536, r150_537, r150_540, r150_541, r150_544, r150_545, r150_546, r150_548, r150_550, r150_553, r150_556, r150_558, r150_561, r150_563, r150_564, r150_566, r150_567, r150_568, r150_571, r150_573, r150_574, r150_576, r150_577, r150_580, r150_581, r150_582, r150_584, r150_587, sw_ldi, sw_ldl, sw_lda, sw_has1, sw_i1, sw_i2, sw_l1, sw_l2, sw_li, sw_r1, sw_ri, sw_rix, sw_rv, sw_pop, sw_set1, sw_set2, List.set_cons_zero, List.set_cons_succ, List.getElem?_cons_zero, List.getElem?_cons_succ, ald_1, ald_2, ast_1, ast_2, aln_1, aln_2, gf_1, gf_2, pf_1, pf_2, nw_1, ck_0, ck_1, ck_2, ck_3, ck_4, rr_1, rc_1, rc_2, K_i, K_l, K_v, I_add, I_sub, I_mul, I_div, I_em, I_eq0, I_lt0, I_0lt, I_le0, I_0le, I_eq, I_lt, I_le, I_a1, I_r1, I_eq1, I32_at, I32_s, Int.toNat_natCast, List.set_cons_zero, reduceCtorEq, not_false_eq_true, not_true_eq_false, false_and, true_and, and_true, and_false, false_or, true_or, or_true, or_false, if_true, if_false, eq_self, ↓reduceIte, Int.reduceEq, Int.reduceLT, Int.reduceLE, Int.reduceAdd, Int.reduceSub, Int.reduceMul, Int.reduceNeg, Int.reduceToNat, Nat.reduceLT, Nat.reduceAdd, Nat.reduceEqDiff, List.length_cons, List.length_nil, m30, e0, e1, q]
          rw [if_neg (show ¬ (5 : Int) ≤ (j : Int) by omega)]
          exact hh
      · rw [z] at e0
        rw [m40_1 tt.1 tt.2 z]
        have hh := ih A (xE X) wet (some (.int (Int32.ofInt (t : Int)))) (some (.int (Int32.ofInt 0))) hI re
        simp (disch := omega) only [r150_511, r150_513, r150_515, r150_518, r150_521, r150_523, r150_541, r150_544, r150_545, r150_546, r150_548, r150_550, r150_553, r150_584, r150_587, sw_ldi, sw_ldl, sw_lda, sw_has1, sw_i1, sw_i2, sw_l1, sw_l2, sw_li, sw_r1, sw_ri, sw_rix, sw_rv, sw_pop, sw_set1, sw_set2, List.set_cons_zero, List.set_cons_succ, List.getElem?_cons_zero, List.getElem?_cons_succ, ald_1, ald_2, ast_1, ast_2, aln_1, aln_2, gf_1, gf_2, pf_1, pf_2, nw_1, ck_0, ck_1, ck_2, ck_3, ck_4, rr_1, rc_1, rc_2, K_i, K_l, K_v, I_add, I_sub, I_mul, I_div, I_em, I_eq0, I_lt0, I_0lt, I_le0, I_0le, I_eq, I_lt, I_le, I_a1, I_r1, I_eq1, I32_at, I32_s, Int.toNat_natCast, List.set_cons_zero, reduceCtorEq, not_false_eq_true, not_true_eq_false, false_and, true_and, and_true, and_false, false_or, true_or, or_true, or_false, if_true, if_false, eq_self, ↓reduceIte, Int.reduceEq, Int.reduceLT, Int.reduceLE, Int.reduceAdd, Int.reduceSub, Int.reduceMul, Int.reduceNeg, Int.reduceToNat, Nat.reduceLT, Nat.reduceAdd, Nat.reduceEqDiff, List.length_cons, List.length_nil, m30, e0]
        rw [if_neg (show ¬ (5 : Int) ≤ (j : Int) by omega)]
        exact hh
    · simp (disch := omega) only [r150_465, r150_466, r150_469, r150_471, r150_473, r150_475, r150_476, r150_477, r150_479, r150_480, r150_482, r150_484, r150_485, r150_487, r150_488, r150_489, r150_490, r150_493, r150_496, r150_497, r150_500, r150_501, r150_503, r150_504, r150_506, r150_508, sw_ldi, sw_ldl, sw_lda, sw_has1, sw_i1, sw_i2, sw_l1, sw_l2, sw_li, sw_r1, sw_ri, sw_rix, sw_rv, sw_pop, sw_set1, sw_set2, List.set_cons_zero, List.set_cons_succ, List.getElem?_cons_zero, List.getElem?_cons_succ, ald_1, ald_2, ast_1, ast_2, aln_1, aln_2, gf_1, gf_2, pf_1, pf_2, nw_1, ck_0, ck_1, ck_2, ck_3, ck_4, rr_1, rc_1, rc_2, K_i, K_l, K_v, I_add, I_sub, I_mul, I_div, I_em, I_eq0, I_lt0, I_0lt, I_le0, I_0le, I_eq, I_lt, I_le, I_a1, I_r1, I_eq1, I32_at, I32_s, Int.toNat_natCast, List.set_cons_zero, reduceCtorEq, not_false_eq_true, not_true_eq_false, false_and, true_and, and_true, and_false, false_or, true_or, or_true, or_false, if_true, if_false, eq_self, ↓reduceIte, Int.reduceEq, Int.reduceLT, Int.reduceLE, Int.reduceAdd, Int.reduceSub, Int.reduceMul, Int.reduceNeg, Int.reduceToNat, Nat.reduceLT, Nat.reduceAdd, Nat.reduceEqDiff, List.length_cons, List.length_nil, m16, h_1, c]
      generalize (sa + 7 * (j : Int)) % 36 = t1 at tt
      obtain ⟨t, rfl⟩ := Int.eq_ofNat_of_zero_le tt.1
      have ht : t < 36 := by omega
      have e0 := Lw_sh hI.1.1 t ht
      have e1 := Bt_bi hI.2.1 hI.1.2.1.1 t ht
      rcases hI.1.1.1.2.2 t ht with z | z
      · rw [z] at e0
        rw [m40_0 tt.1 tt.2 (by omega) (hI.1.2.1.1 t ht) z]
        have hh := ih (sw_s A 10 (sw_s (A 10) t 1)) X (wet ||| sb t) (some (.int (Int32.ofInt (t : Int)))) (some (.int (Int32.ofInt 1))) (Iv_w1 ht z hI) rx
        rcases hI.1.2.1.1 t ht with q | q
        · rw [q] at e1
          simp (disch := omega) only [r150_511, r150_513, r150_515, r150_518, r150_521, r150_523, r150_526, r150_528, r150_530, r150_533, r150_536, r150_537, r150_540, r150_541, r150_544, r150_545, r150_546, r150_548, r150_550, r150_553, r150_556, r150_558, r150_561, r150_563, r150_564, r150_566, r150_567, r150_568, r150_571, r150_573, r150_574, r150_576, r150_577, r150_580, r150_581, r150_582, r150_584, r150_587, sw_ldi, sw_ldl, sw_lda, sw_has1, sw_i1, sw_i2, sw_l1, sw_l2, sw_li, sw_r1, sw_ri, sw_rix, sw_rv, sw_pop, sw_set1, sw_set2, List.set_cons_zero, List.set_cons_succ, List.getElem?_cons_zero, List.getElem?_cons_succ, ald_1, ald_2, ast_1, ast_2, aln_1, aln_2, gf_1, gf_2, pf_1, pf_2, nw_1, ck_0, ck_1, ck_2, ck_3, ck_4, rr_1, rc_1, rc_2, K_i, K_l, K_v, I_add, I_sub, I_mul, I_div, I_em, I_eq0, I_lt0, I_0lt, I_le0, I_0le, I_eq, I_lt, I_le, I_a1, I_r1, I_eq1, I32_at, I32_s, Int.toNat_natCast, List.set_cons_zero, reduceCtorEq, not_false_eq_true, not_true_eq_false, false_and, true_and, and_true, and_false, false_or, true_or, or_true, or_false, if_true, if_false, eq_self, ↓reduceIte, Int.reduceEq, Int.reduceLT, Int.reduceLE, Int.reduceAdd, Int.reduceSub, Int.reduceMul, Int.reduceNeg, Int.reduceToNat, Nat.reduceLT, Nat.reduceAdd, Nat.reduceEqDiff, List.length_cons, List.length_nil, m30, e0, e1, q]
          rw [if_neg (show ¬ (5 : Int) ≤ (j : Int) by omega)]
          exact hh
        · rw [q] at e1
          simp (disch := omega) only [r150_511, r150_513, r150_515, r150_518, r150_521, r150_523, r150_526, r150_528, r150_530, r150_533, r150_536, r150_537, r150_540, r150_541, r150_544, r150_545, r150_546, r150_548, r150_550, r150_553, r150_556, r150_558, r150_561, r150_563, r150_564, r150_566, r150_567, r150_568, r150_571, r150_573, r150_574, r150_576, r150_577, r150_580, r150_581, r150_582, r150_584, r150_587, sw_ldi, sw_ldl, sw_lda, sw_has1, sw_i1, sw_i2, sw_l1, sw_l2, sw_li, sw_r1, sw_ri, sw_rix, sw_rv, sw_pop, sw_set1, sw_set2, List.set_cons_zero, List.set_cons_succ, List.getElem?_cons_zero, List.getElem?_cons_succ, ald_1, ald_2, ast_1, ast_2, aln_1, aln_2, gf_1, gf_2, pf_1, pf_2, nw_1, ck_0, ck_1, ck_2, ck_3, ck_4, rr_1, rc_1, rc_2, K_i, K_l, K_v, I_add, I_sub, I_mul, I_div, I_em, I_eq0, I_lt0, I_0lt, I_le0, I_0le, I_eq, I_lt, I_le, I_a1, I_r1, I_eq1, I32_at, I32_s, Int.toNat_natCast, List.set_cons_zero, reduceCtorEq, not_false_eq_true, not_true_eq_false, false_and, true_and, and_true, and_false, false_or, true_or, or_true, or_false, if_true, if_false, eq_self, ↓reduceIte, Int.reduceEq, Int.reduceLT, Int.reduceLE, Int.reduceAdd, Int.reduceSub, Int.reduceMul, Int.reduceNeg, Int.reduceToNat, Nat.reduceLT, Nat.reduceAdd, Nat.reduceEqDiff, List.length_cons, List.length_nil, m30, e0, e1, q]
          rw [if_neg (show ¬ (5 : Int) ≤ (j : Int) by omega)]
          exact hh
      · rw [z] at e0
        rw [m40_1 tt.1 tt.2 z]
        have hh := ih A (xE X) wet (some (.int (Int32.ofInt (t : Int)))) (some (.int (Int32.ofInt 1))) hI re
        simp (disch := omega) only [r150_511, r150_513, r150_515, r150_518, r150_521, r150_523, r150_541, r150_544, r150_545, r150_546, r150_548, r150_550, r150_553, r150_584, r150_587, sw_ldi, sw_ldl, sw_lda, sw_has1, sw_i1, sw_i2, sw_l1, sw_l2, sw_li, sw_r1, sw_ri, sw_rix, sw_rv, sw_pop, sw_set1, sw_set2, List.set_cons_zero, List.set_cons_succ, List.getElem?_cons_zero, List.getElem?_cons_succ, ald_1, ald_2, ast_1, ast_2, aln_1, aln_2, gf_1, gf_2, pf_1, pf_2, nw_1, ck_0, ck_1, ck_2, ck_3, ck_4, rr_1, rc_1, rc_2, K_i, K_l, K_v, I_add, I_sub, I_mul, I_div, I_em, I_eq0, I_lt0, I_0lt, I_le0, I_0le, I_eq, I_lt, I_le, I_a1, I_r1, I_eq1, I32_at, I32_s, Int.toNat_natCast, List.set_cons_zero, reduceCtorEq, not_false_eq_true, not_true_eq_false, false_and, true_and, and_true, and_false, false_or, true_or, or_true, or_false, if_true, if_false, eq_self, ↓reduceIte, Int.reduceEq, Int.reduceLT, Int.reduceLE, Int.reduceAdd, Int.reduceSub, Int.reduceMul, Int.reduceNeg, Int.reduceToNat, Nat.reduceLT, Nat.reduceAdd, Nat.reduceEqDiff, List.length_cons, List.length_nil, m30, e0]
        rw [if_neg (show ¬ (5 : Int) ≤ (j : Int) by omega)]
        exact hh
theorem Ac4 (hI : Iv A shut wet trees oil) (hd : F 0 = d) (d0 : 0 ≤ d) (d9 : d < 65536) (s0 : 0 ≤ sa) (s9 : sa < 36) {a b : Nat} (hX : Rm X a b) (hQ : AE L a b turn v y ac sa Q) :
    sw_A 150 460 [some (.ref 0), some (.ref 1), some (.ref 54), some (.ref 55), some (.ref 56), some (.ref 57), some (.ref 58), some (.long shut), none, some (.long wet), none, some (.long trees), none, some (.long oil), none, some (.int (Int32.ofInt d)), some (.int (Int32.ofInt turn)), some (.int v), some (.int y), some (.int (Int32.ofInt ac)), some (.int (Int32.ofInt sa)), x21, x22, x23, x24, x25, x26, x27, x28, x29] [] (sw_h L A F T X) Q := by
  simp (disch := omega) only [r150_460, r150_461, sw_ldi, sw_ldl, sw_lda, sw_has1, sw_i1, sw_i2, sw_l1, sw_l2, sw_li, sw_r1, sw_ri, sw_rix, sw_rv, sw_pop, sw_set1, sw_set2, List.set_cons_zero, List.set_cons_succ, List.getElem?_cons_zero, List.getElem?_cons_succ, ald_1, ald_2, ast_1, ast_2, aln_1, aln_2, gf_1, gf_2, pf_1, pf_2, nw_1, ck_0, ck_1, ck_2, ck_3, ck_4, rr_1, rc_1, rc_2, K_i, K_l, K_v, I_add, I_sub, I_mul, I_div, I_em, I_eq0, I_lt0, I_0lt, I_le0, I_0le, I_eq, I_lt, I_le, I_a1, I_r1, I_eq1, I32_at, I32_s, Int.toNat_natCast, List.set_cons_zero, reduceCtorEq, not_false_eq_true, not_true_eq_false, false_and, true_and, and_true, and_false, false_or, true_or, or_true, or_false, if_true, if_false, eq_self, ↓reduceIte, Int.reduceEq, Int.reduceLT, Int.reduceLE, Int.reduceAdd, Int.reduceSub, Int.reduceMul, Int.reduceNeg, Int.reduceToNat, Nat.reduceLT, Nat.reduceAdd, Nat.reduceEqDiff, List.length_cons, List.length_nil]
  refine W1 (a := a) (b := b) s0 s9 (fun B X2 w2 y21 y22 y23 hB rB => ?_) 5 0 A X wet x22 x23 (by omega) hI hX
  simp (disch := omega) only [r150_590, r150_591, r150_593, r150_595, sw_ldi, sw_ldl, sw_lda, sw_has1, sw_i1, sw_i2, sw_l1, sw_l2, sw_li, sw_r1, sw_ri, sw_rix, sw_rv, sw_pop, sw_set1, sw_set2, List.set_cons_zero, List.set_cons_succ, List.getElem?_cons_zero, List.getElem?_cons_succ, ald_1, ald_2, ast_1, ast_2, aln_1, aln_2, gf_1, gf_2, pf_1, pf_2, nw_1, ck_0, ck_1, ck_2, ck_3, ck_4, rr_1, rc_1, rc_2, K_i, K_l, K_v, I_add, I_sub, I_mul, I_div, I_em, I_eq0, I_lt0, I_0lt, I_le0, I_0le, I_eq, I_lt, I_le, I_a1, I_r1, I_eq1, I32_at, I32_s, Int.toNat_natCast, List.set_cons_zero, reduceCtorEq, not_false_eq_true, not_true_eq_false, false_and, true_and, and_true, and_false, false_or, true_or, or_true, or_false, if_true, if_false, eq_self, ↓reduceIte, Int.reduceEq, Int.reduceLT, Int.reduceLE, Int.reduceAdd, Int.reduceSub, Int.reduceMul, Int.reduceNeg, Int.reduceToNat, Nat.reduceLT, Nat.reduceAdd, Nat.reduceEqDiff, List.length_cons, List.length_nil]
  refine m45 hB.1.1 (Bt_bi hB.2.1 hB.1.2.1.1) fun B2 G2 f2 g2 => ?_
  simp (disch := omega) only [r150_598, sw_ldi, sw_ldl, sw_lda, sw_has1, sw_i1, sw_i2, sw_l1, sw_l2, sw_li, sw_r1, sw_ri, sw_rix, sw_rv, sw_pop, sw_set1, sw_set2, List.set_cons_zero, List.set_cons_succ, List.getElem?_cons_zero, List.getElem?_cons_succ, ald_1, ald_2, ast_1, ast_2, aln_1, aln_2, gf_1, gf_2, pf_1, pf_2, nw_1, ck_0, ck_1, ck_2, ck_3, ck_4, rr_1, rc_1, rc_2, K_i, K_l, K_v, I_add, I_sub, I_mul, I_div, I_em, I_eq0, I_lt0, I_0lt, I_le0, I_0le, I_eq, I_lt, I_le, I_a1, I_r1, I_eq1, I32_at, I32_s, Int.toNat_natCast, List.set_cons_zero, reduceCtorEq, not_false_eq_true, not_true_eq_false, false_and, true_and, and_true, and_false, false_or, true_or, or_true, or_false, if_true, if_false, eq_self, ↓reduceIte, Int.reduceEq, Int.reduceLT, Int.reduceLE, Int.reduceAdd, Int.reduceSub, Int.reduceMul, Int.reduceNeg, Int.reduceToNat, Nat.reduceLT, Nat.reduceAdd, Nat.reduceEqDiff, List.length_cons, List.length_nil]
  exact hQ _ _ _ _ _ _ _ _ _ _ _ _ _ _ _ _ _ _ (Iv_a (Iv_F f2 hB)) (g2.trans hd) d0 d9 ⟨rB.1, Nat.le_trans rB.2.1 (by omega), Nat.le_trans rB.2.2 (by omega)⟩
end sw_tg
