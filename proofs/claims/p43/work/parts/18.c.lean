section sw_tc
variable {L : Nat} {A : Nat → Nat → Int} {F : Nat → Int} {T : Nat → sw_Ce} {X : Nat × Nat × Nat} {Q : sw_Ot → sw_HS → Prop} {shut wet trees oil : Int64} {d turn ac sa : Int} {v y : Int32} {x21 x22 x23 x24 x25 x26 x27 x28 x29 : Option Value}
theorem set63 {w g : Int64} {f : Nat → Int} (h : Bt w f) : hb (w &&& g) 63 = false := by
  rw [hb_and]
  cases c : hb w 63 with
  | false => rfl
  | true => exact absurd ((h 63 (by omega)).mp c).1 (by omega)
theorem tp_e {iso : Int} {w : Nat} {set r : Int64} (hw : w < 2) (ew : dirOf w = hom iso) (hs : ∀ t, t < 64 → (hb set t = true ↔ (t < 36 ∧ A 9 t = 0 ∧ A 48 t = iso))) (f : Fl set (set &&& sdv w) r) : su (tpv (A 9) (A 48) iso) 36 = sm (fun k => bi (hb (set &&& (r ^^^ Int64.ofInt (-1))) k)) 36 := by
  refine su_sm 36 fun t ht => ?_
  have q := Fl_HG hw ew hs f t (by omega)
  have z := hs t (by omega)
  unfold tpv
  split
  · next g =>
    symm
    rw [bi_1, hb_and, Bool.and_eq_true, hb_not (by omega), z]
    refine ⟨⟨ht, g.1, g.2.1⟩, ?_⟩
    cases e : hb r t with
    | false => rfl
    | true => exact absurd (q.mp e).2.2 g.2.2
  · next g =>
    symm
    rw [bi_0, hb_and]
    cases e : hb set t with
    | false => rfl
    | true =>
      have z2 := z.mp e
      rw [Bool.true_and]
      cases e2 : hb (r ^^^ Int64.ofInt (-1)) t with
      | false => rfl
      | true =>
        rw [hb_not (by omega)] at e2
        refine absurd ⟨z2.2.1, z2.2.2, fun hg => ?_⟩ g
        rw [q.mpr ⟨ht, z2.2.2, hg⟩] at e2
        exact absurd e2 (by decide)
theorem T4 {p : Int} (hL : Iv A shut wet trees oil)
    (hQ : ∀ (B : Nat → Nat → Int) (G : Nat → Int) (l : Int64), Iv B shut wet trees oil → G 0 = F 0 → sw_A 150 1473 [some (.ref 0), some (.ref 1), some (.ref 54), some (.ref 55), some (.ref 56), some (.ref 57), some (.ref 58), some (.long shut), none, some (.long wet), none, some (.long trees), none, some (.long oil), none, some (.int (Int32.ofInt d)), some (.int (Int32.ofInt turn)), some (.int v), some (.int y), some (.int (Int32.ofInt ac)), some (.int (Int32.ofInt sa)), some (.int (Int32.ofInt p)), some (.long l), none, x24, x25, x26, x27, x28, x29] [] (sw_h L B G T X) Q) :
    sw_A 150 1398 [some (.ref 0), some (.ref 1), some (.ref 54), some (.ref 55), some (.ref 56), some (.ref 57), some (.ref 58), some (.long shut), none, some (.long wet), none, some (.long trees), none, some (.long oil), none, some (.int (Int32.ofInt d)), some (.int (Int32.ofInt turn)), some (.int v), some (.int y), some (.int (Int32.ofInt ac)), some (.int (Int32.ofInt sa)), some (.int (Int32.ofInt p)), x22, x23, x24, x25, x26, x27, x28, x29] [] (sw_h L A F T X) Q := by
  have hs1 : ∀ t, t < 64 → (hb oil t = true ↔ (t < 36 ∧ A 9 t = 0 ∧ A 48 t = 1)) := fun t ht => by
    rw [hL.2.2.2 t ht]
    constructor
    · rintro ⟨q1, q2⟩
      refine ⟨q1, ?_, q2⟩
      rcases hL.1.1.1.2.2 t q1 with e | e
      · exact e
      · exact absurd (hL.1.2.2.1 t q1 e).2.2 (by omega)
    · exact fun q => ⟨q.1, q.2.2⟩
  have hs0 : ∀ t, t < 64 → (hb ((oil ^^^ Int64.ofInt (-1)) &&& (shut ^^^ Int64.ofInt (-1)) &&& Int64.ofInt 68719476735) t = true ↔ (t < 36 ∧ A 9 t = 0 ∧ A 48 t = 0)) := fun t ht => by
    rw [hb_and, hb_and, Bool.and_eq_true, Bool.and_eq_true, hb_not ht, hb_not ht]
    constructor
    · rintro ⟨⟨q1, q2⟩, q3⟩
      have h36 : t < 36 := by
        apply Classical.byContradiction
        intro n
        rw [full_hi t ht (by omega)] at q3
        exact absurd q3 (by decide)
      refine ⟨h36, ?_, ?_⟩
      · rcases hL.1.1.1.2.2 t h36 with e | e
        · exact e
        · rw [(Iq_s hL.1 h36).mpr e] at q2
          exact absurd q2 (by decide)
      · rcases hL.1.2.1.2.2 t h36 with e | e
        · exact e
        · rw [(hL.2.2.2 t ht).mpr ⟨h36, e⟩] at q1
          exact absurd q1 (by decide)
    · rintro ⟨q1, q2, q3⟩
      refine ⟨⟨?_, Iq_o hL.1 q1 q2⟩, full_v t q1⟩
      cases e : hb oil t with
      | false => rfl
      | true => exact absurd ((hL.2.2.2 t ht).mp e).2 (by omega)
  have z1 : hb (oil &&& sdv 0) 63 = false := set63 hL.2.2.2
  have z0 : hb (((oil ^^^ Int64.ofInt (-1)) &&& (shut ^^^ Int64.ofInt (-1)) &&& Int64.ofInt 68719476735) &&& sdv 1) 63 = false := by
    rw [hb_and]
    cases e : hb ((oil ^^^ Int64.ofInt (-1)) &&& (shut ^^^ Int64.ofInt (-1)) &&& Int64.ofInt 68719476735) 63 with
    | false => rfl
    | true => exact absurd ((hs0 63 (by omega)).mp e).1 (by omega)
  simp (disch := omega) only [r150_1398, r150_1400, r150_1403, r150_1404, r150_1406, r150_1409, r150_1410, r150_1411, r150_1414, r150_1415, r150_1417, r150_1418, r150_1419, sw_ldi, sw_ldl, sw_lda, sw_has1, sw_i1, sw_i2, sw_l1, sw_l2, sw_li, sw_r1, sw_ri, sw_rix, sw_rv, sw_pop, sw_set1, sw_set2, List.set_cons_zero, List.set_cons_succ, List.getElem?_cons_zero, List.getElem?_cons_succ, ald_1, ald_2, ast_1, ast_2, aln_1, aln_2, gf_1, gf_2, pf_1, pf_2, nw_1, ck_0, ck_1, ck_2, ck_3, ck_4, rr_1, rc_1, rc_2, K_i, K_l, K_v, I_add, I_sub, I_mul, I_div, I_em, I_eq0, I_lt0, I_0lt, I_le0, I_0le, I_eq, I_lt, I_le, I_a1, I_r1, I_eq1, I32_at, I32_s, Int.toNat_natCast, List.set_cons_zero, reduceCtorEq, not_false_eq_true, not_true_eq_false, false_and, true_and, and_true, and_false, false_or, true_or, or_true, or_false, if_true, if_false, eq_self, ↓reduceIte, Int.reduceEq, Int.reduceLT, Int.reduceLE, Int.reduceAdd, Int.reduceSub, Int.reduceMul, Int.reduceNeg, Int.reduceToNat, Nat.reduceLT, Nat.reduceAdd, Nat.reduceEqDiff, List.length_cons, List.length_nil]
  refine m147 hL.1.1.1.2.2 hL.1.2.1.2.2 (Or.inr rfl) fun B G f g => ?_
  have hB := Iv_F f hL
  obtain ⟨r1, f1, k1⟩ := m48 (H := sw_h L B G T X) (Q := sw_K 150 1433 none [some (.ref 0), some (.ref 1), some (.ref 54), some (.ref 55), some (.ref 56), some (.ref 57), some (.ref 58), some (.long shut), none, some (.long wet), none, some (.long trees), none, some (.long oil), none, some (.int (Int32.ofInt d)), some (.int (Int32.ofInt turn)), some (.int v), some (.int y), some (.int (Int32.ofInt ac)), some (.int (Int32.ofInt sa)), some (.int (Int32.ofInt p)), some (.long ((oil ^^^ Int64.ofInt (-1)) &&& (shut ^^^ Int64.ofInt (-1)) &&& Int64.ofInt 68719476735)), none, x24, x25, x26, x27, x28, x29] [.long oil, .int (Int32.ofInt (su (tpv (A 9) (A 48) 1) 36))] Q) oil (sdv 0) z1
  have e1 := tp_e (A := A) (iso := 1) (w := 0) (by omega) (by decide) hs1 f1
  have e9 : B 9 = A 9 := f.2.2.2.1
  have e48 : B 48 = A 48 := f.2.2.2.2.2.2.2.1
  simp (disch := omega) only [r150_1422, r150_1424, r150_1426, r150_1427, r150_1430, sw_ldi, sw_ldl, sw_lda, sw_has1, sw_i1, sw_i2, sw_l1, sw_l2, sw_li, sw_r1, sw_ri, sw_rix, sw_rv, sw_pop, sw_set1, sw_set2, List.set_cons_zero, List.set_cons_succ, List.getElem?_cons_zero, List.getElem?_cons_succ, ald_1, ald_2, ast_1, ast_2, aln_1, aln_2, gf_1, gf_2, pf_1, pf_2, nw_1, ck_0, ck_1, ck_2, ck_3, ck_4, rr_1, rc_1, rc_2, K_i, K_l, K_v, I_add, I_sub, I_mul, I_div, I_em, I_eq0, I_lt0, I_0lt, I_le0, I_0le, I_eq, I_lt, I_le, I_a1, I_r1, I_eq1, I32_at, I32_s, Int.toNat_natCast, List.set_cons_zero, reduceCtorEq, not_false_eq_true, not_true_eq_false, false_and, true_and, and_true, and_false, false_or, true_or, or_true, or_false, if_true, if_false, eq_self, ↓reduceIte, Int.reduceEq, Int.reduceLT, Int.reduceLE, Int.reduceAdd, Int.reduceSub, Int.reduceMul, Int.reduceNeg, Int.reduceToNat, Nat.reduceLT, Nat.reduceAdd, Nat.reduceEqDiff, List.length_cons, List.length_nil, m69_0, m69_1]
  rw [k1]
  simp (disch := omega) only [r150_1433, r150_1436, r150_1437, r150_1438, r150_1441, sw_ldi, sw_ldl, sw_lda, sw_has1, sw_i1, sw_i2, sw_l1, sw_l2, sw_li, sw_r1, sw_ri, sw_rix, sw_rv, sw_pop, sw_set1, sw_set2, List.set_cons_zero, List.set_cons_succ, List.getElem?_cons_zero, List.getElem?_cons_succ, ald_1, ald_2, ast_1, ast_2, aln_1, aln_2, gf_1, gf_2, pf_1, pf_2, nw_1, ck_0, ck_1, ck_2, ck_3, ck_4, rr_1, rc_1, rc_2, K_i, K_l, K_v, I_add, I_sub, I_mul, I_div, I_em, I_eq0, I_lt0, I_0lt, I_le0, I_0le, I_eq, I_lt, I_le, I_a1, I_r1, I_eq1, I32_at, I32_s, Int.toNat_natCast, List.set_cons_zero, reduceCtorEq, not_false_eq_true, not_true_eq_false, false_and, true_and, and_true, and_false, false_or, true_or, or_true, or_false, if_true, if_false, eq_self, ↓reduceIte, Int.reduceEq, Int.reduceLT, Int.reduceLE, Int.reduceAdd, Int.reduceSub, Int.reduceMul, Int.reduceNeg, Int.reduceToNat, Nat.reduceLT, Nat.reduceAdd, Nat.reduceEqDiff, List.length_cons, List.length_nil, m37, e1, if_false, not_true_eq_false]
  simp (disch := omega) only [r150_1444, r150_1445, r150_1446, sw_ldi, sw_ldl, sw_lda, sw_has1, sw_i1, sw_i2, sw_l1, sw_l2, sw_li, sw_r1, sw_ri, sw_rix, sw_rv, sw_pop, sw_set1, sw_set2, List.set_cons_zero, List.set_cons_succ, List.getElem?_cons_zero, List.getElem?_cons_succ, ald_1, ald_2, ast_1, ast_2, aln_1, aln_2, gf_1, gf_2, pf_1, pf_2, nw_1, ck_0, ck_1, ck_2, ck_3, ck_4, rr_1, rc_1, rc_2, K_i, K_l, K_v, I_add, I_sub, I_mul, I_div, I_em, I_eq0, I_lt0, I_0lt, I_le0, I_0le, I_eq, I_lt, I_le, I_a1, I_r1, I_eq1, I32_at, I32_s, Int.toNat_natCast, List.set_cons_zero, reduceCtorEq, not_false_eq_true, not_true_eq_false, false_and, true_and, and_true, and_false, false_or, true_or, or_true, or_false, if_true, if_false, eq_self, ↓reduceIte, Int.reduceEq, Int.reduceLT, Int.reduceLE, Int.reduceAdd, Int.reduceSub, Int.reduceMul, Int.reduceNeg, Int.reduceToNat, Nat.reduceLT, Nat.reduceAdd, Nat.reduceEqDiff, List.length_cons, List.length_nil]
  refine m147 hB.1.1.1.2.2 hB.1.2.1.2.2 (Or.inl rfl) fun B2 G2 f2 g2 => ?_
  rw [e9, e48]
  obtain ⟨r0, f0, k0⟩ := m48 (H := sw_h L B2 G2 T X) (Q := sw_K 150 1460 none [some (.ref 0), some (.ref 1), some (.ref 54), some (.ref 55), some (.ref 56), some (.ref 57), some (.ref 58), some (.long shut), none, some (.long wet), none, some (.long trees), none, some (.long oil), none, some (.int (Int32.ofInt d)), some (.int (Int32.ofInt turn)), some (.int v), some (.int y), some (.int (Int32.ofInt ac)), some (.int (Int32.ofInt sa)), some (.int (Int32.ofInt p)), some (.long ((oil ^^^ Int64.ofInt (-1)) &&& (shut ^^^ Int64.ofInt (-1)) &&& Int64.ofInt 68719476735)), none, x24, x25, x26, x27, x28, x29] [.long ((oil ^^^ Int64.ofInt (-1)) &&& (shut ^^^ Int64.ofInt (-1)) &&& Int64.ofInt 68719476735), .int (Int32.ofInt (su (tpv (A 9) (A 48) 0) 36))] Q) ((oil ^^^ Int64.ofInt (-1)) &&& (shut ^^^ Int64.ofInt (-1)) &&& Int64.ofInt 68719476735) (sdv 1) z0
  have e0 := tp_e (A := A) (iso := 0) (w := 1) (by omega) (by decide) hs0 f0
  have hq := hQ B2 G2 ((oil ^^^ Int64.ofInt (-1)) &&& (shut ^^^ Int64.ofInt (-1)) &&& Int64.ofInt 68719476735) (Iv_F f2 hB) (g2.trans g)
  simp (disch := omega) only [r150_1449, r150_1451, r150_1453, r150_1454, r150_1457, sw_ldi, sw_ldl, sw_lda, sw_has1, sw_i1, sw_i2, sw_l1, sw_l2, sw_li, sw_r1, sw_ri, sw_rix, sw_rv, sw_pop, sw_set1, sw_set2, List.set_cons_zero, List.set_cons_succ, List.getElem?_cons_zero, List.getElem?_cons_succ, ald_1, ald_2, ast_1, ast_2, aln_1, aln_2, gf_1, gf_2, pf_1, pf_2, nw_1, ck_0, ck_1, ck_2, ck_3, ck_4, rr_1, rc_1, rc_2, K_i, K_l, K_v, I_add, I_sub, I_mul, I_div, I_em, I_eq0, I_lt0, I_0lt, I_le0, I_0le, I_eq, I_lt, I_le, I_a1, I_r1, I_eq1, I32_at, I32_s, Int.toNat_natCast, List.set_cons_zero, reduceCtorEq, not_false_eq_true, not_true_eq_false, false_and, true_and, and_true, and_false, false_or, true_or, or_true, or_false, if_true, if_false, eq_self, ↓reduceIte, Int.reduceEq, Int.reduceLT, Int.reduceLE, Int.reduceAdd, Int.reduceSub, Int.reduceMul, Int.reduceNeg, Int.reduceToNat, Nat.reduceLT, Nat.reduceAdd, Nat.reduceEqDiff, List.length_cons, List.length_nil, m69_0, m69_1]
  rw [k0]
  simp (disch := omega) only [r150_1460, r150_1463, r150_1464, r150_1465, r150_1468, sw_ldi, sw_ldl, sw_lda, sw_has1, sw_i1, sw_i2, sw_l1, sw_l2, sw_li, sw_r1, sw_ri, sw_rix, sw_rv, sw_pop, sw_set1, sw_set2, List.set_cons_zero, List.set_cons_succ, List.getElem?_cons_zero, List.getElem?_cons_succ, ald_1, ald_2, ast_1, ast_2, aln_1, aln_2, gf_1, gf_2, pf_1, pf_2, nw_1, ck_0, ck_1, ck_2, ck_3, ck_4, rr_1, rc_1, rc_2, K_i, K_l, K_v, I_add, I_sub, I_mul, I_div, I_em, I_eq0, I_lt0, I_0lt, I_le0, I_0le, I_eq, I_lt, I_le, I_a1, I_r1, I_eq1, I32_at, I32_s, Int.toNat_natCast, List.set_cons_zero, reduceCtorEq, not_false_eq_true, not_true_eq_false, false_and, true_and, and_true, and_false, false_or, true_or, or_true, or_false, if_true, if_false, eq_self, ↓reduceIte, Int.reduceEq, Int.reduceLT, Int.reduceLE, Int.reduceAdd, Int.reduceSub, Int.reduceMul, Int.reduceNeg, Int.reduceToNat, Nat.reduceLT, Nat.reduceAdd, Nat.reduceEqDiff, List.length_cons, List.length_nil, m37, e0, if_false, not_true_eq_false]
  exact hq
theorem T5 (hL : Iv A shut wet trees oil) : sw_A 150 1473 [some (.ref 0), some (.ref 1), some (.ref 54), some (.ref 55), some (.ref 56), some (.ref 57), some (.ref 58), some (.long shut), none, some (.long wet), none, some (.long trees), none, some (.long oil), none, some (.int (Int32.ofInt d)), some (.int (Int32.ofInt turn)), some (.int v), some (.int y), some (.int (Int32.ofInt ac)), some (.int (Int32.ofInt sa)), x21, x22, x23, x24, x25, x26, x27, x28, x29] [] (sw_h L A F T X) Q = sw_A 150 1527 [some (.ref 0), some (.ref 1), some (.ref 54), some (.ref 55), some (.ref 56), some (.ref 57), some (.ref 58), some (.long shut), none, some (.long wet), none, some (.long trees), none, some (.long oil), none, some (.int (Int32.ofInt d)), some (.int (Int32.ofInt turn)), some (.int v), some (.int y), some (.int (Int32.ofInt ac)), some (.int (Int32.ofInt sa)), x21, x22, x23, x24, x25, x26, x27, x28, x29] [] (sw_h L A F T X) Q := by
  have b9 : B01 (A 9) := hL.1.1.1.2.2
  have b10 := hL.1.2.1.1
  have b11 := hL.1.2.1.2.1
  have b48 := hL.1.2.1.2.2
  have s9 : sm (fun k => bi (hb shut k)) 36 = sm (A 9) 36 := sm_c 36 (Lw_sh hL.1.1)
  have s10 := Bt_sm hL.2.1 b10
  have s11 := Bt_sm hL.2.2.1 b11
  have s48 := Bt_sm hL.2.2.2 b48
  simp (disch := omega) only [r150_1473, r150_1474, r150_1475, sw_ldi, sw_ldl, sw_lda, sw_has1, sw_i1, sw_i2, sw_l1, sw_l2, sw_li, sw_r1, sw_ri, sw_rix, sw_rv, sw_pop, sw_set1, sw_set2, List.set_cons_zero, List.set_cons_succ, List.getElem?_cons_zero, List.getElem?_cons_succ, ald_1, ald_2, ast_1, ast_2, aln_1, aln_2, gf_1, gf_2, pf_1, pf_2, nw_1, ck_0, ck_1, ck_2, ck_3, ck_4, rr_1, rc_1, rc_2, K_i, K_l, K_v, I_add, I_sub, I_mul, I_div, I_em, I_eq0, I_lt0, I_0lt, I_le0, I_0le, I_eq, I_lt, I_le, I_a1, I_r1, I_eq1, I32_at, I32_s, Int.toNat_natCast, List.set_cons_zero, reduceCtorEq, not_false_eq_true, not_true_eq_false, false_and, true_and, and_true, and_false, false_or, true_or, or_true, or_false, if_true, if_false, eq_self, ↓reduceIte, Int.reduceEq, Int.reduceLT, Int.reduceLE, Int.reduceAdd, Int.reduceSub, Int.reduceMul, Int.reduceNeg, Int.reduceToNat, Nat.reduceLT, Nat.reduceAdd, Nat.reduceEqDiff, List.length_cons, List.length_nil, h_1, m148_0 b9]
  simp (disch := omega) only [r150_1478, r150_1480, r150_1483, r150_1486, r150_1487, r150_1488, sw_ldi, sw_ldl, sw_lda, sw_has1, sw_i1, sw_i2, sw_l1, sw_l2, sw_li, sw_r1, sw_ri, sw_rix, sw_rv, sw_pop, sw_set1, sw_set2, List.set_cons_zero, List.set_cons_succ, List.getElem?_cons_zero, List.getElem?_cons_succ, ald_1, ald_2, ast_1, ast_2, aln_1, aln_2, gf_1, gf_2, pf_1, pf_2, nw_1, ck_0, ck_1, ck_2, ck_3, ck_4, rr_1, rc_1, rc_2, K_i, K_l, K_v, I_add, I_sub, I_mul, I_div, I_em, I_eq0, I_lt0, I_0lt, I_le0, I_0le, I_eq, I_lt, I_le, I_a1, I_r1, I_eq1, I32_at, I32_s, Int.toNat_natCast, List.set_cons_zero, reduceCtorEq, not_false_eq_true, not_true_eq_false, false_and, true_and, and_true, and_false, false_or, true_or, or_true, or_false, if_true, if_false, eq_self, ↓reduceIte, Int.reduceEq, Int.reduceLT, Int.reduceLE, Int.reduceAdd, Int.reduceSub, Int.reduceMul, Int.reduceNeg, Int.reduceToNat, Nat.reduceLT, Nat.reduceAdd, Nat.reduceEqDiff, List.length_cons, List.length_nil, h_1, m37, s9, m148_1 b11, if_false, not_true_eq_false]
  simp (disch := omega) only [r150_1491, r150_1493, r150_1496, r150_1499, r150_1500, r150_1501, sw_ldi, sw_ldl, sw_lda, sw_has1, sw_i1, sw_i2, sw_l1, sw_l2, sw_li, sw_r1, sw_ri, sw_rix, sw_rv, sw_pop, sw_set1, sw_set2, List.set_cons_zero, List.set_cons_succ, List.getElem?_cons_zero, List.getElem?_cons_succ, ald_1, ald_2, ast_1, ast_2, aln_1, aln_2, gf_1, gf_2, pf_1, pf_2, nw_1, ck_0, ck_1, ck_2, ck_3, ck_4, rr_1, rc_1, rc_2, K_i, K_l, K_v, I_add, I_sub, I_mul, I_div, I_em, I_eq0, I_lt0, I_0lt, I_le0, I_0le, I_eq, I_lt, I_le, I_a1, I_r1, I_eq1, I32_at, I32_s, Int.toNat_natCast, List.set_cons_zero, reduceCtorEq, not_false_eq_true, not_true_eq_false, false_and, true_and, and_true, and_false, false_or, true_or, or_true, or_false, if_true, if_false, eq_self, ↓reduceIte, Int.reduceEq, Int.reduceLT, Int.reduceLE, Int.reduceAdd, Int.reduceSub, Int.reduceMul, Int.reduceNeg, Int.reduceToNat, Nat.reduceLT, Nat.reduceAdd, Nat.reduceEqDiff, List.length_cons, List.length_nil, h_1, m37, s11, m148_2 b10, if_false, not_true_eq_false]
  simp (disch := omega) only [r150_1504, r150_1506, r150_1509, r150_1512, r150_1513, r150_1514, sw_ldi, sw_ldl, sw_lda, sw_has1, sw_i1, sw_i2, sw_l1, sw_l2, sw_li, sw_r1, sw_ri, sw_rix, sw_rv, sw_pop, sw_set1, sw_set2, List.set_cons_zero, List.set_cons_succ, List.getElem?_cons_zero, List.getElem?_cons_succ, ald_1, ald_2, ast_1, ast_2, aln_1, aln_2, gf_1, gf_2, pf_1, pf_2, nw_1, ck_0, ck_1, ck_2, ck_3, ck_4, rr_1, rc_1, rc_2, K_i, K_l, K_v, I_add, I_sub, I_mul, I_div, I_em, I_eq0, I_lt0, I_0lt, I_le0, I_0le, I_eq, I_lt, I_le, I_a1, I_r1, I_eq1, I32_at, I32_s, Int.toNat_natCast, List.set_cons_zero, reduceCtorEq, not_false_eq_true, not_true_eq_false, false_and, true_and, and_true, and_false, false_or, true_or, or_true, or_false, if_true, if_false, eq_self, ↓reduceIte, Int.reduceEq, Int.reduceLT, Int.reduceLE, Int.reduceAdd, Int.reduceSub, Int.reduceMul, Int.reduceNeg, Int.reduceToNat, Nat.reduceLT, Nat.reduceAdd, Nat.reduceEqDiff, List.length_cons, List.length_nil, h_1, m37, s10, m148_3 b48, if_false, not_true_eq_false]
  simp (disch := omega) only [r150_1517, r150_1519, r150_1522, sw_ldi, sw_ldl, sw_lda, sw_has1, sw_i1, sw_i2, sw_l1, sw_l2, sw_li, sw_r1, sw_ri, sw_rix, sw_rv, sw_pop, sw_set1, sw_set2, List.set_cons_zero, List.set_cons_succ, List.getElem?_cons_zero, List.getElem?_cons_succ, ald_1, ald_2, ast_1, ast_2, aln_1, aln_2, gf_1, gf_2, pf_1, pf_2, nw_1, ck_0, ck_1, ck_2, ck_3, ck_4, rr_1, rc_1, rc_2, K_i, K_l, K_v, I_add, I_sub, I_mul, I_div, I_em, I_eq0, I_lt0, I_0lt, I_le0, I_0le, I_eq, I_lt, I_le, I_a1, I_r1, I_eq1, I32_at, I32_s, Int.toNat_natCast, List.set_cons_zero, reduceCtorEq, not_false_eq_true, not_true_eq_false, false_and, true_and, and_true, and_false, false_or, true_or, or_true, or_false, if_true, if_false, eq_self, ↓reduceIte, Int.reduceEq, Int.reduceLT, Int.reduceLE, Int.reduceAdd, Int.reduceSub, Int.reduceMul, Int.reduceNeg, Int.reduceToNat, Nat.reduceLT, Nat.reduceAdd, Nat.reduceEqDiff, List.length_cons, List.length_nil, h_1, m37, s48, if_false, not_true_eq_false]
end sw_tc
