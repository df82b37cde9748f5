section sw_tj
variable {L : Nat} {A : Nat → Nat → Int} {F : Nat → Int} {T : Nat → sw_Ce} {X : Nat × Nat × Nat} {Q : sw_Ot → sw_HS → Prop} {shut wet trees oil : Int64} {d turn ac sa : Int} {v y : Int32} {H : sw_HS} {x21 x22 x23 x24 x25 x26 x27 x28 x29 : Option Value}
theorem cnb_bsd {g : Nat → Int} {w : Int64} (hs : ∀ t, t < 36 → bi (hb w t) = g t) {s : Int} (s0 : 0 ≤ s) (s1 : s < 36) : bsd (hb (w ^^^ Int64.ofInt (-1))) s = cnb g s := by
  rw [← cfb_bsd s0 s1]
  have key : ∀ d : Int, 0 ≤ d → d < 4 → cf1 (fun t => bi (hb (w ^^^ Int64.ofInt (-1)) t)) s d = cn1 g s d := fun d h0 h1 => by
    have b := f_sb_b s0 s1 h0 h1
    unfold cf1 cn1
    split
    · rfl
    · next ne =>
      have ht : (f_sb s d).toNat < 36 := by omega
      have q := hs (f_sb s d).toNat ht
      split
      · next z =>
        rw [z, bi_0] at q
        show bi (hb (w ^^^ Int64.ofInt (-1)) _) = 1
        rw [bi_1, hb_not (by omega)]
        exact q
      · next z =>
        show bi (hb (w ^^^ Int64.ofInt (-1)) _) = 0
        rw [bi_0]
        have qb := bi_b (hb w (f_sb s d).toNat)
        have q1 : bi (hb w (f_sb s d).toNat) = 1 := by omega
        rw [bi_1] at q1
        cases e : hb (w ^^^ Int64.ofInt (-1)) (f_sb s d).toNat with
        | false => rfl
        | true =>
          rw [hb_not (by omega), q1] at e
          exact absurd e (by decide)
  unfold cfb cnb
  rw [key 0 (by decide) (by decide), key 1 (by decide) (by decide), key 2 (by decide) (by decide), key 3 (by decide) (by decide)]
theorem rf_v {g : Nat → Int} : ∀ n, ((rf g n).1 = -1 ∧ (rf g n).2 = -1) ∨ ∃ s : Nat, s < n ∧ (rf g n).1 = (s : Int) ∧ g s = 0 ∧ (rf g n).2 = cnb g s
  | 0 => Or.inl ⟨rfl, rfl⟩
  | n + 1 => by
    have ih := rf_v (g := g) n
    have b := cnb_b g n
    unfold rf
    split
    · next c =>
      unfold rkv at c ⊢
      by_cases z : g n = 0
      · rw [if_pos z]
        exact Or.inr ⟨n, by omega, rfl, z, rfl⟩
      · rw [if_neg z] at c
        rcases ih with ih | ⟨s, -, -, -, e⟩
        · omega
        · have := cnb_b g s
          omega
    · rcases ih with ih | ⟨s, h1, h2⟩
      · exact Or.inl ih
      · exact Or.inr ⟨s, by omega, h2⟩
theorem S1 {g : Nat → Int} {m i : Int} (hs : ∀ t, t < 36 → bi (hb shut t) = g t) : ∀ (n t : Nat), t + n = 36 → sw_A 150 358 [some (.ref 0), some (.ref 1), some (.ref 54), some (.ref 55), some (.ref 56), some (.ref 57), some (.ref 58), some (.long shut), none, some (.long wet), none, some (.long trees), none, some (.long oil), none, some (.int (Int32.ofInt d)), some (.int (Int32.ofInt turn)), some (.int v), some (.int y), some (.int (Int32.ofInt ac)), some (.int (Int32.ofInt sa)), some (.int (Int32.ofInt m)), some (.int (Int32.ofInt i)), some (.int (Int32.ofInt (rf g t).1)), some (.int (Int32.ofInt (t : Int))), x25, x26, x27, x28, x29] [] H Q = sw_A 150 415 [some (.ref 0), some (.ref 1), some (.ref 54), some (.ref 55), some (.ref 56), some (.ref 57), some (.ref 58), some (.long shut), none, some (.long wet), none, some (.long trees), none, some (.long oil), none, some (.int (Int32.ofInt d)), some (.int (Int32.ofInt turn)), some (.int v), some (.int y), some (.int (Int32.ofInt ac)), some (.int (Int32.ofInt sa)), some (.int (Int32.ofInt m)), some (.int (Int32.ofInt i)), some (.int (Int32.ofInt (rf g 36).1)), some (.int (Int32.ofInt ((36 : Nat) : Int))), x25, x26, x27, x28, x29] [] H Q
  | 0, t, hn => by
    have e : t = 36 := hn
    subst e
    rw [r150_358]
    simp (disch := omega) only [r150_360, r150_362, sw_ldi, sw_ldl, sw_lda, sw_has1, sw_i1, sw_i2, sw_l1, sw_l2, sw_li, sw_r1, sw_ri, sw_rix, sw_rv, sw_pop, sw_set1, sw_set2, List.set_cons_zero, List.set_cons_succ, List.getElem?_cons_zero, List.getElem?_cons_succ, ald_1, ald_2, ast_1, ast_2, aln_1, aln_2, gf_1, gf_2, pf_1, pf_2, nw_1, ck_0, ck_1, ck_2, ck_3, ck_4, rr_1, rc_1, rc_2, K_i, K_l, K_v, I_add, I_sub, I_mul, I_div, I_em, I_eq0, I_lt0, I_0lt, I_le0, I_0le, I_eq, I_lt, I_le, I_a1, I_r1, I_eq1, I32_at, I32_s, Int.toNat_natCast, List.set_cons_zero, reduceCtorEq, not_false_eq_true, not_true_eq_false, false_and, true_and, and_true, and_false, false_or, true_or, or_true, or_false, if_true, if_false, eq_self, ↓reduceIte, Int.reduceEq, Int.reduceLT, Int.reduceLE, Int.reduceAdd, Int.reduceSub, Int.reduceMul, Int.reduceNeg, Int.reduceToNat, Nat.reduceLT, Nat.reduceAdd, Nat.reduceEqDiff, List.length_cons, List.length_nil]
    rw [if_pos (by decide)]
  | n + 1, t, hn => by
    have ih := S1 (m := m) (i := i) hs n (t + 1) (by omega)
    have et : ((t + 1 : Nat) : Int) = (t : Int) + 1 := rfl
    rw [et] at ih
    have h36 : t < 36 := by omega
    have e0 := hs t h36
    have ct := cnb_b g t
    have er : rf g (t + 1) = if (rf g t).2 < rkv g t then ((t : Int), rkv g t) else rf g t := rfl
    have bt := cnb_bsd hs (s := (t : Int)) (by omega) (by omega)
    rw [r150_358]
    rcases bi_b (hb shut t) with q | q
    · have z : g t = 0 := by omega
      have ek : rkv g t = cnb g t := if_pos z
      rw [z] at e0
      rcases rf_v (g := g) t with ⟨a1, a2⟩ | ⟨s, a0, a1, a2, a3⟩
      · rw [if_pos (by omega)] at er
        rw [er] at ih
        simp (disch := omega) only [r150_360, r150_362, r150_365, r150_367, r150_369, r150_372, r150_375, r150_377, r150_380, r150_382, r150_385, r150_386, r150_388, r150_391, r150_393, r150_396, r150_397, r150_399, r150_402, r150_405, r150_407, r150_409, r150_412, sw_ldi, sw_ldl, sw_lda, sw_has1, sw_i1, sw_i2, sw_l1, sw_l2, sw_li, sw_r1, sw_ri, sw_rix, sw_rv, sw_pop, sw_set1, sw_set2, List.set_cons_zero, List.set_cons_succ, List.getElem?_cons_zero, List.getElem?_cons_succ, ald_1, ald_2, ast_1, ast_2, aln_1, aln_2, gf_1, gf_2, pf_1, pf_2, nw_1, ck_0, ck_1, ck_2, ck_3, ck_4, rr_1, rc_1, rc_2, K_i, K_l, K_v, I_add, I_sub, I_mul, I_div, I_em, I_eq0, I_lt0, I_0lt, I_le0, I_0le, I_eq, I_lt, I_le, I_a1, I_r1, I_eq1, I32_at, I32_s, Int.toNat_natCast, List.set_cons_zero, reduceCtorEq, not_false_eq_true, not_true_eq_false, false_and, true_and, and_true, and_false, false_or, true_or, or_true, or_false, if_true, if_false, eq_self, ↓reduceIte, Int.reduceEq, Int.reduceLT, Int.reduceLE, Int.reduceAdd, Int.reduceSub, Int.reduceMul, Int.reduceNeg, Int.reduceToNat, Nat.reduceLT, Nat.reduceAdd, Nat.reduceEqDiff, List.length_cons, List.length_nil, m30, e0, a1]
        rw [if_neg (show ¬ (36 : Int) ≤ (t : Int) by omega)]
        exact ih
      · have bs := cnb_bsd hs (s := (s : Int)) (by omega) (by omega)
        have cs := cnb_b g s
        by_cases c : cnb g t ≤ cnb g s
        · rw [if_neg (by omega)] at er
          rw [er, a1] at ih
          simp (disch := omega) only [r150_360, r150_362, r150_365, r150_367, r150_369, r150_372, r150_375, r150_377, r150_380, r150_382, r150_385, r150_386, r150_388, r150_391, r150_393, r150_396, r150_397, r150_399, r150_402, r150_405, r150_407, r150_409, r150_412, sw_ldi, sw_ldl, sw_lda, sw_has1, sw_i1, sw_i2, sw_l1, sw_l2, sw_li, sw_r1, sw_ri, sw_rix, sw_rv, sw_pop, sw_set1, sw_set2, List.set_cons_zero, List.set_cons_succ, List.getElem?_cons_zero, List.getElem?_cons_succ, ald_1, ald_2, ast_1, ast_2, aln_1, aln_2, gf_1, gf_2, pf_1, pf_2, nw_1, ck_0, ck_1, ck_2, ck_3, ck_4, rr_1, rc_1, rc_2, K_i, K_l, K_v, I_add, I_sub, I_mul, I_div, I_em, I_eq0, I_lt0, I_0lt, I_le0, I_0le, I_eq, I_lt, I_le, I_a1, I_r1, I_eq1, I32_at, I32_s, Int.toNat_natCast, List.set_cons_zero, reduceCtorEq, not_false_eq_true, not_true_eq_false, false_and, true_and, and_true, and_false, false_or, true_or, or_true, or_false, if_true, if_false, eq_self, ↓reduceIte, Int.reduceEq, Int.reduceLT, Int.reduceLE, Int.reduceAdd, Int.reduceSub, Int.reduceMul, Int.reduceNeg, Int.reduceToNat, Nat.reduceLT, Nat.reduceAdd, Nat.reduceEqDiff, List.length_cons, List.length_nil, m30, m31, e0, a1, bt, bs, c]
          rw [if_neg (show ¬ (36 : Int) ≤ (t : Int) by omega), if_neg (show ¬ (s : Int) < 0 by omega)]
          exact ih
        · rw [if_pos (by omega)] at er
          rw [er] at ih
          simp (disch := omega) only [r150_360, r150_362, r150_365, r150_367, r150_369, r150_372, r150_375, r150_377, r150_380, r150_382, r150_385, r150_386, r150_388, r150_391, r150_393, r150_396, r150_397, r150_399, r150_402, r150_405, r150_407, r150_409, r150_412, sw_ldi, sw_ldl, sw_lda, sw_has1, sw_i1, sw_i2, sw_l1, sw_l2, sw_li, sw_r1, sw_ri, sw_rix, sw_rv, sw_pop, sw_set1, sw_set2, List.set_cons_zero, List.set_cons_succ, List.getElem?_cons_zero, List.getElem?_cons_succ, ald_1, ald_2, ast_1, ast_2, aln_1, aln_2, gf_1, gf_2, pf_1, pf_2, nw_1, ck_0, ck_1, ck_2, ck_3, ck_4, rr_1, rc_1, rc_2, K_i, K_l, K_v, I_add, I_sub, I_mul, I_div, I_em, I_eq0, I_lt0, I_0lt, I_le0, I_0le, I_eq, I_lt, I_le, I_a1, I_r1, I_eq1, I32_at, I32_s, Int.toNat_natCast, List.set_cons_zero, reduceCtorEq, not_false_eq_true, not_true_eq_false, false_and, true_and, and_true, and_false, false_or, true_or, or_true, or_false, if_true, if_false, eq_self, ↓reduceIte, Int.reduceEq, Int.reduceLT, Int.reduceLE, Int.reduceAdd, Int.reduceSub, Int.reduceMul, Int.reduceNeg, Int.reduceToNat, Nat.reduceLT, Nat.reduceAdd, Nat.reduceEqDiff, List.length_cons, List.length_nil, m30, m31, e0, a1, bt, bs, c]
          rw [if_neg (show ¬ (36 : Int) ≤ (t : Int) by omega), if_neg (show ¬ (s : Int) < 0 by omega)]
          exact ih
    · have z : g t = 1 := by omega
      have ek : rkv g t = -1 := if_neg (by omega)
      rw [if_neg (by
        rw [ek]
        rcases rf_v (g := g) t with ⟨a1, a2⟩ | ⟨s, a0, a1, a2, a3⟩
        · omega
        · have := cnb_b g s
          omega)] at er
      rw [er] at ih
      rw [z] at e0
      simp (disch := omega) only [r150_360, r150_362, r150_365, r150_367, r150_369, r150_372, r150_375, r150_377, r150_380, r150_382, r150_385, r150_386, r150_388, r150_391, r150_393, r150_396, r150_397, r150_399, r150_402, r150_405, r150_407, r150_409, r150_412, sw_ldi, sw_ldl, sw_lda, sw_has1, sw_i1, sw_i2, sw_l1, sw_l2, sw_li, sw_r1, sw_ri, sw_rix, sw_rv, sw_pop, sw_set1, sw_set2, List.set_cons_zero, List.set_cons_succ, List.getElem?_cons_zero, List.getElem?_cons_succ, ald_1, ald_2, ast_1, ast_2, aln_1, aln_2, gf_1, gf_2, pf_1, pf_2, nw_1, ck_0, ck_1, ck_2, ck_3, ck_4, rr_1, rc_1, rc_2, K_i, K_l, K_v, I_add, I_sub, I_mul, I_div, I_em, I_eq0, I_lt0, I_0lt, I_le0, I_0le, I_eq, I_lt, I_le, I_a1, I_r1, I_eq1, I32_at, I32_s, Int.toNat_natCast, List.set_cons_zero, reduceCtorEq, not_false_eq_true, not_true_eq_false, false_and, true_and, and_true, and_false, false_or, true_or, or_true, or_false, if_true, if_false, eq_self, ↓reduceIte, Int.reduceEq, Int.reduceLT, Int.reduceLE, Int.reduceAdd, Int.reduceSub, Int.reduceMul, Int.reduceNeg, Int.reduceToNat, Nat.reduceLT, Nat.reduceAdd, Nat.reduceEqDiff, List.length_cons, List.length_nil, m30, e0]
      rw [if_neg (show ¬ (36 : Int) ≤ (t : Int) by omega)]
      exact ih
theorem Bw_cl2 {w : Int64} {f : Nat → Int} {s : Nat} (hs : s < 36) (h : Bw shut w f) : Bw (shut ||| sb s) w (sw_s f s 0) := fun t ht => by
  rw [sb_o (by omega) ht]
  unfold sw_s
  by_cases e : t = s
  · rw [if_pos e, decide_eq_true e, Bool.or_true]
    exact ⟨fun q => absurd q.2 (by decide), fun q => absurd q.2 (by decide)⟩
  · rw [if_neg e, decide_eq_false e, Bool.or_false]
    exact h t ht
theorem Ia_cl2 {s : Nat} (hs : s < 36) (hI : Ia A shut wet trees oil) : Ia (clA A (s : Int)) (shut ||| sb s) wet trees oil := ⟨(Ia_cl hs (Ia_v hI)).1, Bw_cl2 hs hI.2.1, Bw_cl2 hs hI.2.2.1, Bw_cl2 hs hI.2.2.2⟩
theorem S2 {m : Nat} (hm : m ≤ 3) (hQ : ∀ (shut : Int64) (x22 x23 x24 : Option Value), Ia (stk A m) shut wet trees oil → sw_A 150 435 [some (.ref 0), some (.ref 1), some (.ref 54), some (.ref 55), some (.ref 56), some (.ref 57), some (.ref 58), some (.long shut), none, some (.long wet), none, some (.long trees), none, some (.long oil), none, some (.int (Int32.ofInt d)), some (.int (Int32.ofInt turn)), some (.int v), some (.int y), some (.int (Int32.ofInt ac)), some (.int (Int32.ofInt sa)), some (.int (Int32.ofInt (m : Int))), x22, x23, x24, x25, x26, x27, x28, x29] [] H Q) :
    ∀ (n i : Nat) (shut : Int64) (x23 x24 : Option Value), i + n = m → Ia (stk A i) shut wet trees oil → sw_A 150 345 [some (.ref 0), some (.ref 1), some (.ref 54), some (.ref 55), some (.ref 56), some (.ref 57), some (.ref 58), some (.long shut), none, some (.long wet), none, some (.long trees), none, some (.long oil), none, some (.int (Int32.ofInt d)), some (.int (Int32.ofInt turn)), some (.int v), some (.int y), some (.int (Int32.ofInt ac)), some (.int (Int32.ofInt sa)), some (.int (Int32.ofInt (m : Int))), some (.int (Int32.ofInt (i : Int))), x23, x24, x25, x26, x27, x28, x29] [] H Q
  | 0, i, shut, x23, x24, hn, hI => by
    have e : i = m := hn
    subst e
    have hq := hQ shut (some (.int (Int32.ofInt (i : Int)))) x23 x24 hI
    rw [r150_345]
    simp (disch := omega) only [r150_347, r150_349, sw_ldi, sw_ldl, sw_lda, sw_has1, sw_i1, sw_i2, sw_l1, sw_l2, sw_li, sw_r1, sw_ri, sw_rix, sw_rv, sw_pop, sw_set1, sw_set2, List.set_cons_zero, List.set_cons_succ, List.getElem?_cons_zero, List.getElem?_cons_succ, ald_1, ald_2, ast_1, ast_2, aln_1, aln_2, gf_1, gf_2, pf_1, pf_2, nw_1, ck_0, ck_1, ck_2, ck_3, ck_4, rr_1, rc_1, rc_2, K_i, K_l, K_v, I_add, I_sub, I_mul, I_div, I_em, I_eq0, I_lt0, I_0lt, I_le0, I_0le, I_eq, I_lt, I_le, I_a1, I_r1, I_eq1, I32_at, I32_s, Int.toNat_natCast, List.set_cons_zero, reduceCtorEq, not_false_eq_true, not_true_eq_false, false_and, true_and, and_true, and_false, false_or, true_or, or_true, or_false, if_true, if_false, eq_self, ↓reduceIte, Int.reduceEq, Int.reduceLT, Int.reduceLE, Int.reduceAdd, Int.reduceSub, Int.reduceMul, Int.reduceNeg, Int.reduceToNat, Nat.reduceLT, Nat.reduceAdd, Nat.reduceEqDiff, List.length_cons, List.length_nil]
    rw [if_pos (Int.le_refl _)]
    exact hq
  | n + 1, i, shut, x23, x24, hn, hI => by
    have ih := fun shut x23 x24 => S2 hm hQ n (i + 1) shut x23 x24 (by omega)
    have ei : ((i + 1 : Nat) : Int) = (i : Int) + 1 := rfl
    rw [ei] at ih
    have k1 := S1 (H := H) (Q := Q) (wet := wet) (trees := trees) (oil := oil) (d := d) (turn := turn) (ac := ac) (sa := sa) (v := v) (y := y) (x25 := x25) (x26 := x26) (x27 := x27) (x28 := x28) (x29 := x29) (g := stk A i 9) (m := (m : Int)) (i := (i : Int)) (Lw_sh hI.1.1) 36 0 (by omega)
    have e1 : (rf (stk A i 9) 0).1 = -1 := rfl
    rw [e1, show (((0 : Nat) : Int)) = 0 from rfl] at k1
    have es : stk A (i + 1) = if (rf (stk A i 9) 36).1 = -1 then stk A i else clA (stk A i) (rf (stk A i 9) 36).1 := rfl
    rw [r150_345]
    simp (disch := omega) only [r150_347, r150_349, r150_352, r150_353, r150_355, r150_356, sw_ldi, sw_ldl, sw_lda, sw_has1, sw_i1, sw_i2, sw_l1, sw_l2, sw_li, sw_r1, sw_ri, sw_rix, sw_rv, sw_pop, sw_set1, sw_set2, List.set_cons_zero, List.set_cons_succ, List.getElem?_cons_zero, List.getElem?_cons_succ, ald_1, ald_2, ast_1, ast_2, aln_1, aln_2, gf_1, gf_2, pf_1, pf_2, nw_1, ck_0, ck_1, ck_2, ck_3, ck_4, rr_1, rc_1, rc_2, K_i, K_l, K_v, I_add, I_sub, I_mul, I_div, I_em, I_eq0, I_lt0, I_0lt, I_le0, I_0le, I_eq, I_lt, I_le, I_a1, I_r1, I_eq1, I32_at, I32_s, Int.toNat_natCast, List.set_cons_zero, reduceCtorEq, not_false_eq_true, not_true_eq_false, false_and, true_and, and_true, and_false, false_or, true_or, or_true, or_false, if_true, if_false, eq_self, ↓reduceIte, Int.reduceEq, Int.reduceLT, Int.reduceLE, Int.reduceAdd, Int.reduceSub, Int.reduceMul, Int.reduceNeg, Int.reduceToNat, Nat.reduceLT, Nat.reduceAdd, Nat.reduceEqDiff, List.length_cons, List.length_nil]
    rw [if_neg (show ¬ (m : Int) ≤ (i : Int) by omega), k1]
    rcases rf_v (g := stk A i 9) 36 with ⟨a1, a2⟩ | ⟨s, a0, a1, a2, a3⟩
    · rw [if_pos a1] at es
      have hh := ih shut (some (.int (Int32.ofInt (-1)))) (some (.int (Int32.ofInt ((36 : Nat) : Int)))) (by rw [es]; exact hI)
      rw [a1]
      simp (disch := omega) only [r150_415, r150_417, r150_420, r150_422, r150_423, r150_425, r150_426, r150_427, r150_429, r150_432, sw_ldi, sw_ldl, sw_lda, sw_has1, sw_i1, sw_i2, sw_l1, sw_l2, sw_li, sw_r1, sw_ri, sw_rix, sw_rv, sw_pop, sw_set1, sw_set2, List.set_cons_zero, List.set_cons_succ, List.getElem?_cons_zero, List.getElem?_cons_succ, ald_1, ald_2, ast_1, ast_2, aln_1, aln_2, gf_1, gf_2, pf_1, pf_2, nw_1, ck_0, ck_1, ck_2, ck_3, ck_4, rr_1, rc_1, rc_2, K_i, K_l, K_v, I_add, I_sub, I_mul, I_div, I_em, I_eq0, I_lt0, I_0lt, I_le0, I_0le, I_eq, I_lt, I_le, I_a1, I_r1, I_eq1, I32_at, I32_s, Int.toNat_natCast, List.set_cons_zero, reduceCtorEq, not_false_eq_true, not_true_eq_false, false_and, true_and, and_true, and_false, false_or, true_or, or_true, or_false, if_true, if_false, eq_self, ↓reduceIte, Int.reduceEq, Int.reduceLT, Int.reduceLE, Int.reduceAdd, Int.reduceSub, Int.reduceMul, Int.reduceNeg, Int.reduceToNat, Nat.reduceLT, Nat.reduceAdd, Nat.reduceEqDiff, List.length_cons, List.length_nil]
      exact hh
    · rw [if_neg (by omega), a1] at es
      have hh := ih (shut ||| sb s) (some (.int (Int32.ofInt (s : Int)))) (some (.int (Int32.ofInt ((36 : Nat) : Int)))) (by rw [es]; exact Ia_cl2 a0 hI)
      rw [a1]
      simp (disch := omega) only [r150_415, r150_417, r150_420, r150_422, r150_423, r150_425, r150_426, r150_427, r150_429, r150_432, sw_ldi, sw_ldl, sw_lda, sw_has1, sw_i1, sw_i2, sw_l1, sw_l2, sw_li, sw_r1, sw_ri, sw_rix, sw_rv, sw_pop, sw_set1, sw_set2, List.set_cons_zero, List.set_cons_succ, List.getElem?_cons_zero, List.getElem?_cons_succ, ald_1, ald_2, ast_1, ast_2, aln_1, aln_2, gf_1, gf_2, pf_1, pf_2, nw_1, ck_0, ck_1, ck_2, ck_3, ck_4, rr_1, rc_1, rc_2, K_i, K_l, K_v, I_add, I_sub, I_mul, I_div, I_em, I_eq0, I_lt0, I_0lt, I_le0, I_0le, I_eq, I_lt, I_le, I_a1, I_r1, I_eq1, I32_at, I32_s, Int.toNat_natCast, List.set_cons_zero, reduceCtorEq, not_false_eq_true, not_true_eq_false, false_and, true_and, and_true, and_false, false_or, true_or, or_true, or_false, if_true, if_false, eq_self, ↓reduceIte, Int.reduceEq, Int.reduceLT, Int.reduceLE, Int.reduceAdd, Int.reduceSub, Int.reduceMul, Int.reduceNeg, Int.reduceToNat, Nat.reduceLT, Nat.reduceAdd, Nat.reduceEqDiff, List.length_cons, List.length_nil]
      rw [if_neg (show ¬ (s : Int) < 0 by omega)]
      exact hh
theorem Ac3 (hI : Iv A shut wet trees oil) (hd : F 0 = d) (d0 : 0 ≤ d) (d9 : d < 65536) (s0 : 0 ≤ sa) (s9 : sa < 36) {a b : Nat} (hX : Rm X a b) (hQ : AE L a b turn v y ac sa Q) :
    sw_A 150 332 [some (.ref 0), some (.ref 1), some (.ref 54), some (.ref 55), some (.ref 56), some (.ref 57), some (.ref 58), some (.long shut), none, some (.long wet), none, some (.long trees), none, some (.long oil), none, some (.int (Int32.ofInt d)), some (.int (Int32.ofInt turn)), some (.int v), some (.int y), some (.int (Int32.ofInt ac)), some (.int (Int32.ofInt sa)), x21, x22, x23, x24, x25, x26, x27, x28, x29] [] (sw_h L A F T X) Q := by
  have b0 := f_low_b (v := y >>> (Int32.ofInt 4 &&& 31)) (n := 3) (by omega)
  simp (disch := omega) only [r150_332, r150_334, r150_335, r150_336, r150_337, r150_340, r150_342, r150_343, sw_ldi, sw_ldl, sw_lda, sw_has1, sw_i1, sw_i2, sw_l1, sw_l2, sw_li, sw_r1, sw_ri, sw_rix, sw_rv, sw_pop, sw_set1, sw_set2, List.set_cons_zero, List.set_cons_succ, List.getElem?_cons_zero, List.getElem?_cons_succ, ald_1, ald_2, ast_1, ast_2, aln_1, aln_2, gf_1, gf_2, pf_1, pf_2, nw_1, ck_0, ck_1, ck_2, ck_3, ck_4, rr_1, rc_1, rc_2, K_i, K_l, K_v, I_add, I_sub, I_mul, I_div, I_em, I_eq0, I_lt0, I_0lt, I_le0, I_0le, I_eq, I_lt, I_le, I_a1, I_r1, I_eq1, I32_at, I32_s, Int.toNat_natCast, List.set_cons_zero, reduceCtorEq, not_false_eq_true, not_true_eq_false, false_and, true_and, and_true, and_false, false_or, true_or, or_true, or_false, if_true, if_false, eq_self, ↓reduceIte, Int.reduceEq, Int.reduceLT, Int.reduceLE, Int.reduceAdd, Int.reduceSub, Int.reduceMul, Int.reduceNeg, Int.reduceToNat, Nat.reduceLT, Nat.reduceAdd, Nat.reduceEqDiff, List.length_cons, List.length_nil, m16]
  generalize f_low (y >>> (Int32.ofInt 4 &&& 31)) 3 = m0 at b0
  obtain ⟨m, rfl⟩ := Int.eq_ofNat_of_zero_le b0.1
  refine S2 (A := A) (m := m) (by omega) (fun sh2 u22 u23 u24 hv => ?_) m 0 shut x23 x24 (by omega) (Iv_a hI)
  simp (disch := omega) only [r150_435, r150_436, r150_438, sw_ldi, sw_ldl, sw_lda, sw_has1, sw_i1, sw_i2, sw_l1, sw_l2, sw_li, sw_r1, sw_ri, sw_rix, sw_rv, sw_pop, sw_set1, sw_set2, List.set_cons_zero, List.set_cons_succ, List.getElem?_cons_zero, List.getElem?_cons_succ, ald_1, ald_2, ast_1, ast_2, aln_1, aln_2, gf_1, gf_2, pf_1, pf_2, nw_1, ck_0, ck_1, ck_2, ck_3, ck_4, rr_1, rc_1, rc_2, K_i, K_l, K_v, I_add, I_sub, I_mul, I_div, I_em, I_eq0, I_lt0, I_0lt, I_le0, I_0le, I_eq, I_lt, I_le, I_a1, I_r1, I_eq1, I32_at, I32_s, Int.toNat_natCast, List.set_cons_zero, reduceCtorEq, not_false_eq_true, not_true_eq_false, false_and, true_and, and_true, and_false, false_or, true_or, or_true, or_false, if_true, if_false, eq_self, ↓reduceIte, Int.reduceEq, Int.reduceLT, Int.reduceLE, Int.reduceAdd, Int.reduceSub, Int.reduceMul, Int.reduceNeg, Int.reduceToNat, Nat.reduceLT, Nat.reduceAdd, Nat.reduceEqDiff, List.length_cons, List.length_nil, h_1]
  rw [m36 (by omega) hI.1.1.1.2.2]
  have es : sm (fun k => bi (hb sh2 k)) 36 = sm (stk A m 9) 36 := sm_c 36 (Lw_sh hv.1.1)
  simp (disch := omega) only [r150_441, r150_443, r150_446, r150_449, r150_450, r150_451, sw_ldi, sw_ldl, sw_lda, sw_has1, sw_i1, sw_i2, sw_l1, sw_l2, sw_li, sw_r1, sw_ri, sw_rix, sw_rv, sw_pop, sw_set1, sw_set2, List.set_cons_zero, List.set_cons_succ, List.getElem?_cons_zero, List.getElem?_cons_succ, ald_1, ald_2, ast_1, ast_2, aln_1, aln_2, gf_1, gf_2, pf_1, pf_2, nw_1, ck_0, ck_1, ck_2, ck_3, ck_4, rr_1, rc_1, rc_2, K_i, K_l, K_v, I_add, I_sub, I_mul, I_div, I_em, I_eq0, I_lt0, I_0lt, I_le0, I_0le, I_eq, I_lt, I_le, I_a1, I_r1, I_eq1, I32_at, I32_s, Int.toNat_natCast, List.set_cons_zero, reduceCtorEq, not_false_eq_true, not_true_eq_false, false_and, true_and, and_true, and_false, false_or, true_or, or_true, or_false, if_true, if_false, eq_self, ↓reduceIte, Int.reduceEq, Int.reduceLT, Int.reduceLE, Int.reduceAdd, Int.reduceSub, Int.reduceMul, Int.reduceNeg, Int.reduceToNat, Nat.reduceLT, Nat.reduceAdd, Nat.reduceEqDiff, List.length_cons, List.length_nil, m37, es, if_false, not_true_eq_false]
  exact hQ _ _ _ _ _ _ _ _ _ _ _ _ _ _ _ _ _ _ hv hd d0 d9 (Rm_0 hX)
end sw_tj
