/-! moved, to its end -/
section sw_mw
variable {H : sw_HS} {Q : sw_Ot → sw_HS → Prop} {rs : Nat} {ns sh : Nat → Int} {shut oil : Int64}
theorem m70_w {pr iso : Int} {o : Nat → Int} (hs0 : H.1 rs = .inr (0, 36, I32 ns)) (ns1 : ∀ i, i < 36 → 0 ≤ ns i ∧ ns i < 1000) (p0 : 0 ≤ pr) (p1 : pr ≤ 1000) (hi9 : iso = 0 ∨ iso = 1) (hsh : ∀ t, t < 36 → bi (hb shut t) = sh t) (ho : B01 o) : ∀ (n i : Nat) (all : Int64) (nx : Int) (x10 x12 x14 x15 : Option Value), i + n = 36 → 0 ≤ nx → nx < 36 → ((x10 = none ∧ x12 = none) ∨ ∃ a b, x10 = some (.long a) ∧ x12 = some (.long b)) → Bt all (psq sh ns pr iso o i) → (∀ j, j < i → ¬ lsP (CD sh ns pr iso (psq sh ns pr iso o j)) 36 = -1) → ∃ all2 : Int64, Bt all2 (psq sh ns pr iso o 36) ∧ sw_A 70 6 [some (.ref rs), some (.long shut), none, some (.long oil), none, some (.int (Int32.ofInt pr)), some (.int (Int32.ofInt iso)), some (.long all), none, some (.int (Int32.ofInt nx)), x10, none, x12, none, x14, x15] [] H Q = Q (some (some (.long all2))) H := by
  intro n
  induction n with
  | zero =>
    intro i all nx x10 x12 x14 x15 hn n0 n9 hx hB hp
    have pb := psq_b (sh := sh) (ns := ns) (pr := pr) hi9 ho i
    have sv : ∀ t, t < 36 → (hb shut t = true ↔ ¬ sh t = 0) := fun t ht => by
      rw [← hsh t ht]
      cases hb shut t <;> decide
    have m48a := m48 (H := H) (Q := sw_K 70 26 none [some (.ref rs), some (.long shut), none, some (.long oil), none, some (.int (Int32.ofInt pr)), some (.int (Int32.ofInt iso)), some (.long all), none, some (.int (Int32.ofInt nx)), x10, none, x12, none, x14, x15] [] Q) (all &&& (shut ^^^ Int64.ofInt (-1))) (sdv 0) (by
      rw [hb_and]
      cases e : hb (sdv 0) 63 with
      | false => rw [Bool.and_false]
      | true =>
        have := (sdv_v (w := 0) (j := 63) (by omega) (by omega)).mp e
        omega)
    obtain ⟨hangs, ha1, ha2⟩ := m48a
    have h1 := Fl_HG (sh := sh) (oil := psq sh ns pr iso o i) (iso := 1) (w := 0) (by omega) rfl (fun t ht => by
      rw [hb_and, hb_xor, hb_m1 t ht, Bool.and_eq_true, hB t ht]
      constructor
      · rintro ⟨⟨a1, a2⟩, a3⟩
        refine ⟨a1, ?_, a2⟩
        cases e : hb shut t with
        | false =>
          have := hsh t a1
          rw [e] at this
          exact this.symm
        | true => rw [e] at a3; cases a3
      · rintro ⟨a1, a2, a3⟩
        refine ⟨⟨a1, a3⟩, ?_⟩
        cases e : hb shut t with
        | false => rfl
        | true => exact absurd a2 ((sv t a1).mp e)) ha1
    have dset : ∀ t, t < 64 → (hb ((all ^^^ Int64.ofInt (-1)) &&& (shut ^^^ Int64.ofInt (-1)) &&& Int64.ofInt 68719476735) t = true ↔ (t < 36 ∧ sh t = 0 ∧ psq sh ns pr iso o i t = 0)) := fun t ht => by
      rw [hb_and, hb_and, hb_xor, hb_xor, hb_m1 t ht, Bool.and_eq_true, Bool.and_eq_true]
      constructor
      · rintro ⟨⟨a1, a2⟩, a3⟩
        have t36 : t < 36 := by
          apply Classical.byContradiction
          intro q
          rw [full_hi t ht (by omega)] at a3
          cases a3
        refine ⟨t36, ?_, ?_⟩
        · cases e : hb shut t with
          | false =>
            have := hsh t t36
            rw [e] at this
            exact this.symm
          | true => rw [e] at a2; cases a2
        · rcases pb t t36 with z | z
          · exact z
          · rw [(hB t ht).mpr ⟨t36, z⟩] at a1; cases a1
      · rintro ⟨a1, a2, a3⟩
        refine ⟨⟨?_, ?_⟩, full_v t a1⟩
        · cases e : hb all t with
          | false => rfl
          | true =>
            have := ((hB t ht).mp e).2
            omega
        · cases e : hb shut t with
          | false => rfl
          | true => exact absurd a2 ((sv t a1).mp e)
    have m48b := fun x10 => m48 (H := H) (Q := sw_K 70 51 none [some (.ref rs), some (.long shut), none, some (.long oil), none, some (.int (Int32.ofInt pr)), some (.int (Int32.ofInt iso)), some (.long all), none, some (.int (Int32.ofInt nx)), some (.long hangs), none, x10, none, x14, x15] [] Q) ((all ^^^ Int64.ofInt (-1)) &&& (shut ^^^ Int64.ofInt (-1)) &&& Int64.ofInt 68719476735) (sdv 1) (by
      rw [hb_and]
      cases e : hb (sdv 1) 63 with
      | false => rw [Bool.and_false]
      | true =>
        have := (sdv_v (w := 1) (j := 63) (by omega) (by omega)).mp e
        omega)
    obtain ⟨drips, db1, db2⟩ := m48b x12
    have h0 := Fl_HG (sh := sh) (oil := psq sh ns pr iso o i) (iso := 0) (w := 1) (by omega) rfl dset db1
    obtain ⟨r, x2, g1, g2⟩ := m70_s (H := H) (Q := Q) (rs := rs) (shut := shut) (oil := oil) (all := all) (hangs := hangs) (drips := drips) hs0 ns1 p0 p1 hi9 36 (-1) x15 (Nat.le_refl _) (Or.inl ⟨rfl, fun t a b => by omega⟩)
    have er : r = lsP (CD sh ns pr iso (psq sh ns pr iso o i)) 36 := NXT_u (P := lcd ns pr iso hangs drips) (fun t ht => lcd_CD hi9 pb h1 h0 ht) (by
      rcases g1 with ⟨z1, z2⟩ | ⟨s, z1, z2, z3, z4, z5⟩
      · exact Or.inl ⟨z1, fun t ht => z2 t (Nat.zero_le _) ht⟩
      · exact Or.inr ⟨s, z1, z3, z4, fun t ht => z5 t (Nat.zero_le _) ht⟩) (lsP_N _)
    have pre : sw_A 70 6 [some (.ref rs), some (.long shut), none, some (.long oil), none, some (.int (Int32.ofInt pr)), some (.int (Int32.ofInt iso)), some (.long all), none, some (.int (Int32.ofInt nx)), x10, none, x12, none, x14, x15] [] H Q = sw_A 70 175 [some (.ref rs), some (.long shut), none, some (.long oil), none, some (.int (Int32.ofInt pr)), some (.int (Int32.ofInt iso)), some (.long all), none, some (.int (Int32.ofInt r)), some (.long hangs), none, some (.long drips), none, some (.int (Int32.ofInt (-1))), x2] [] H Q := by
      refine Eq.trans ?_ g2
      rw [r70_6]
      simp (disch := omega) only [r70_8, sw_ldi, sw_ldl, sw_lda, sw_has1, sw_i1, sw_i2, sw_l1, sw_l2, sw_li, sw_r1, sw_ri, sw_rix, sw_rv, sw_pop, sw_set1, sw_set2, List.set_cons_zero, List.set_cons_succ, List.getElem?_cons_zero, List.getElem?_cons_succ, ald_1, ald_2, ast_1, ast_2, aln_1, aln_2, gf_1, gf_2, pf_1, pf_2, nw_1, ck_0, ck_1, ck_2, ck_3, ck_4, rr_1, rc_1, rc_2, K_i, K_l, K_v, I_add, I_sub, I_mul, I_div, I_em, I_eq0, I_lt0, I_0lt, I_le0, I_0le, I_eq, I_lt, I_le, I_a1, I_r1, I_eq1, I32_at, I32_s, Int.toNat_natCast, List.set_cons_zero, reduceCtorEq, not_false_eq_true, not_true_eq_false, false_and, true_and, and_true, and_false, false_or, true_or, or_true, or_false, if_true, if_false, eq_self, ↓reduceIte, Int.reduceEq, Int.reduceLT, Int.reduceLE, Int.reduceAdd, Int.reduceSub, Int.reduceMul, Int.reduceNeg, Int.reduceToNat, Nat.reduceLT, Nat.reduceAdd, Nat.reduceEqDiff, List.length_cons, List.length_nil]
      rw [if_neg (by omega)]
      simp (disch := omega) only [r70_11, r70_13, r70_14, r70_17, r70_18, r70_19, r70_20, r70_23, sw_ldi, sw_ldl, sw_lda, sw_has1, sw_i1, sw_i2, sw_l1, sw_l2, sw_li, sw_r1, sw_ri, sw_rix, sw_rv, sw_pop, sw_set1, sw_set2, List.set_cons_zero, List.set_cons_succ, List.getElem?_cons_zero, List.getElem?_cons_succ, ald_1, ald_2, ast_1, ast_2, aln_1, aln_2, gf_1, gf_2, pf_1, pf_2, nw_1, ck_0, ck_1, ck_2, ck_3, ck_4, rr_1, rc_1, rc_2, K_i, K_l, K_v, I_add, I_sub, I_mul, I_div, I_em, I_eq0, I_lt0, I_0lt, I_le0, I_0le, I_eq, I_lt, I_le, I_a1, I_r1, I_eq1, I32_at, I32_s, Int.toNat_natCast, List.set_cons_zero, reduceCtorEq, not_false_eq_true, not_true_eq_false, false_and, true_and, and_true, and_false, false_or, true_or, or_true, or_false, if_true, if_false, eq_self, ↓reduceIte, Int.reduceEq, Int.reduceLT, Int.reduceLE, Int.reduceAdd, Int.reduceSub, Int.reduceMul, Int.reduceNeg, Int.reduceToNat, Nat.reduceLT, Nat.reduceAdd, Nat.reduceEqDiff, List.length_cons, List.length_nil, m69_0]
      rw [ha2]
      rcases hx with ⟨rfl, rfl⟩ | ⟨a, b, rfl, rfl⟩
      · simp (disch := omega) only [r70_26, r70_28, r70_30, r70_33, r70_34, r70_35, r70_38, r70_39, r70_40, r70_43, r70_44, r70_45, r70_48, sw_ldi, sw_ldl, sw_lda, sw_has1, sw_i1, sw_i2, sw_l1, sw_l2, sw_li, sw_r1, sw_ri, sw_rix, sw_rv, sw_pop, sw_set1, sw_set2, List.set_cons_zero, List.set_cons_succ, List.getElem?_cons_zero, List.getElem?_cons_succ, ald_1, ald_2, ast_1, ast_2, aln_1, aln_2, gf_1, gf_2, pf_1, pf_2, nw_1, ck_0, ck_1, ck_2, ck_3, ck_4, rr_1, rc_1, rc_2, K_i, K_l, K_v, I_add, I_sub, I_mul, I_div, I_em, I_eq0, I_lt0, I_0lt, I_le0, I_0le, I_eq, I_lt, I_le, I_a1, I_r1, I_eq1, I32_at, I32_s, Int.toNat_natCast, List.set_cons_zero, reduceCtorEq, not_false_eq_true, not_true_eq_false, false_and, true_and, and_true, and_false, false_or, true_or, or_true, or_false, if_true, if_false, eq_self, ↓reduceIte, Int.reduceEq, Int.reduceLT, Int.reduceLE, Int.reduceAdd, Int.reduceSub, Int.reduceMul, Int.reduceNeg, Int.reduceToNat, Nat.reduceLT, Nat.reduceAdd, Nat.reduceEqDiff, List.length_cons, List.length_nil, m69_1]
        rw [db2]
        simp (disch := omega) only [r70_51, r70_53, r70_54, r70_56, r70_58, sw_ldi, sw_ldl, sw_lda, sw_has1, sw_i1, sw_i2, sw_l1, sw_l2, sw_li, sw_r1, sw_ri, sw_rix, sw_rv, sw_pop, sw_set1, sw_set2, List.set_cons_zero, List.set_cons_succ, List.getElem?_cons_zero, List.getElem?_cons_succ, ald_1, ald_2, ast_1, ast_2, aln_1, aln_2, gf_1, gf_2, pf_1, pf_2, nw_1, ck_0, ck_1, ck_2, ck_3, ck_4, rr_1, rc_1, rc_2, K_i, K_l, K_v, I_add, I_sub, I_mul, I_div, I_em, I_eq0, I_lt0, I_0lt, I_le0, I_0le, I_eq, I_lt, I_le, I_a1, I_r1, I_eq1, I32_at, I32_s, Int.toNat_natCast, List.set_cons_zero, reduceCtorEq, not_false_eq_true, not_true_eq_false, false_and, true_and, and_true, and_false, false_or, true_or, or_true, or_false, if_true, if_false, eq_self, ↓reduceIte, Int.reduceEq, Int.reduceLT, Int.reduceLE, Int.reduceAdd, Int.reduceSub, Int.reduceMul, Int.reduceNeg, Int.reduceToNat, Nat.reduceLT, Nat.reduceAdd, Nat.reduceEqDiff, List.length_cons, List.length_nil]
        rfl
      · simp (disch := omega) only [r70_26, r70_28, r70_30, r70_33, r70_34, r70_35, r70_38, r70_39, r70_40, r70_43, r70_44, r70_45, r70_48, sw_ldi, sw_ldl, sw_lda, sw_has1, sw_i1, sw_i2, sw_l1, sw_l2, sw_li, sw_r1, sw_ri, sw_rix, sw_rv, sw_pop, sw_set1, sw_set2, List.set_cons_zero, List.set_cons_succ, List.getElem?_cons_zero, List.getElem?_cons_succ, ald_1, ald_2, ast_1, ast_2, aln_1, aln_2, gf_1, gf_2, pf_1, pf_2, nw_1, ck_0, ck_1, ck_2, ck_3, ck_4, rr_1, rc_1, rc_2, K_i, K_l, K_v, I_add, I_sub, I_mul, I_div, I_em, I_eq0, I_lt0, I_0lt, I_le0, I_0le, I_eq, I_lt, I_le, I_a1, I_r1, I_eq1, I32_at, I32_s, Int.toNat_natCast, List.set_cons_zero, reduceCtorEq, not_false_eq_true, not_true_eq_false, false_and, true_and, and_true, and_false, false_or, true_or, or_true, or_false, if_true, if_false, eq_self, ↓reduceIte, Int.reduceEq, Int.reduceLT, Int.reduceLE, Int.reduceAdd, Int.reduceSub, Int.reduceMul, Int.reduceNeg, Int.reduceToNat, Nat.reduceLT, Nat.reduceAdd, Nat.reduceEqDiff, List.length_cons, List.length_nil, m69_1]
        rw [db2]
        simp (disch := omega) only [r70_51, r70_53, r70_54, r70_56, r70_58, sw_ldi, sw_ldl, sw_lda, sw_has1, sw_i1, sw_i2, sw_l1, sw_l2, sw_li, sw_r1, sw_ri, sw_rix, sw_rv, sw_pop, sw_set1, sw_set2, List.set_cons_zero, List.set_cons_succ, List.getElem?_cons_zero, List.getElem?_cons_succ, ald_1, ald_2, ast_1, ast_2, aln_1, aln_2, gf_1, gf_2, pf_1, pf_2, nw_1, ck_0, ck_1, ck_2, ck_3, ck_4, rr_1, rc_1, rc_2, K_i, K_l, K_v, I_add, I_sub, I_mul, I_div, I_em, I_eq0, I_lt0, I_0lt, I_le0, I_0le, I_eq, I_lt, I_le, I_a1, I_r1, I_eq1, I32_at, I32_s, Int.toNat_natCast, List.set_cons_zero, reduceCtorEq, not_false_eq_true, not_true_eq_false, false_and, true_and, and_true, and_false, false_or, true_or, or_true, or_false, if_true, if_false, eq_self, ↓reduceIte, Int.reduceEq, Int.reduceLT, Int.reduceLE, Int.reduceAdd, Int.reduceSub, Int.reduceMul, Int.reduceNeg, Int.reduceToNat, Nat.reduceLT, Nat.reduceAdd, Nat.reduceEqDiff, List.length_cons, List.length_nil]
        rfl
    have e36 : i = 36 := hn
    subst e36
    have st := psq_36 (Nat.le_refl _) hp
    rw [st] at er
    subst er
    refine ⟨all, hB, ?_⟩
    rw [pre]
    simp (disch := omega) only [r70_175, r70_177, r70_189, sw_ldi, sw_ldl, sw_lda, sw_has1, sw_i1, sw_i2, sw_l1, sw_l2, sw_li, sw_r1, sw_ri, sw_rix, sw_rv, sw_pop, sw_set1, sw_set2, List.set_cons_zero, List.set_cons_succ, List.getElem?_cons_zero, List.getElem?_cons_succ, ald_1, ald_2, ast_1, ast_2, aln_1, aln_2, gf_1, gf_2, pf_1, pf_2, nw_1, ck_0, ck_1, ck_2, ck_3, ck_4, rr_1, rc_1, rc_2, K_i, K_l, K_v, I_add, I_sub, I_mul, I_div, I_em, I_eq0, I_lt0, I_0lt, I_le0, I_0le, I_eq, I_lt, I_le, I_a1, I_r1, I_eq1, I32_at, I32_s, Int.toNat_natCast, List.set_cons_zero, reduceCtorEq, not_false_eq_true, not_true_eq_false, false_and, true_and, and_true, and_false, false_or, true_or, or_true, or_false, if_true, if_false, eq_self, ↓reduceIte, Int.reduceEq, Int.reduceLT, Int.reduceLE, Int.reduceAdd, Int.reduceSub, Int.reduceMul, Int.reduceNeg, Int.reduceToNat, Nat.reduceLT, Nat.reduceAdd, Nat.reduceEqDiff, List.length_cons, List.length_nil]
    rw [r70_6]
    simp (disch := omega) only [r70_8, r70_192, r70_194, sw_ldi, sw_ldl, sw_lda, sw_has1, sw_i1, sw_i2, sw_l1, sw_l2, sw_li, sw_r1, sw_ri, sw_rix, sw_rv, sw_pop, sw_set1, sw_set2, List.set_cons_zero, List.set_cons_succ, List.getElem?_cons_zero, List.getElem?_cons_succ, ald_1, ald_2, ast_1, ast_2, aln_1, aln_2, gf_1, gf_2, pf_1, pf_2, nw_1, ck_0, ck_1, ck_2, ck_3, ck_4, rr_1, rc_1, rc_2, K_i, K_l, K_v, I_add, I_sub, I_mul, I_div, I_em, I_eq0, I_lt0, I_0lt, I_le0, I_0le, I_eq, I_lt, I_le, I_a1, I_r1, I_eq1, I32_at, I32_s, Int.toNat_natCast, List.set_cons_zero, reduceCtorEq, not_false_eq_true, not_true_eq_false, false_and, true_and, and_true, and_false, false_or, true_or, or_true, or_false, if_true, if_false, eq_self, ↓reduceIte, Int.reduceEq, Int.reduceLT, Int.reduceLE, Int.reduceAdd, Int.reduceSub, Int.reduceMul, Int.reduceNeg, Int.reduceToNat, Nat.reduceLT, Nat.reduceAdd, Nat.reduceEqDiff, List.length_cons, List.length_nil]
  | succ n ih =>
    intro i all nx x10 x12 x14 x15 hn n0 n9 hx hB hp
    have pb := psq_b (sh := sh) (ns := ns) (pr := pr) hi9 ho i
    have sv : ∀ t, t < 36 → (hb shut t = true ↔ ¬ sh t = 0) := fun t ht => by
      rw [← hsh t ht]
      cases hb shut t <;> decide
    have m48a := m48 (H := H) (Q := sw_K 70 26 none [some (.ref rs), some (.long shut), none, some (.long oil), none, some (.int (Int32.ofInt pr)), some (.int (Int32.ofInt iso)), some (.long all), none, some (.int (Int32.ofInt nx)), x10, none, x12, none, x14, x15] [] Q) (all &&& (shut ^^^ Int64.ofInt (-1))) (sdv 0) (by
      rw [hb_and]
      cases e : hb (sdv 0) 63 with
      | false => rw [Bool.and_false]
      | true =>
        have := (sdv_v (w := 0) (j := 63) (by omega) (by omega)).mp e
        omega)
    obtain ⟨hangs, ha1, ha2⟩ := m48a
    have h1 := Fl_HG (sh := sh) (oil := psq sh ns pr iso o i) (iso := 1) (w := 0) (by omega) rfl (fun t ht => by
      rw [hb_and, hb_xor, hb_m1 t ht, Bool.and_eq_true, hB t ht]
      constructor
      · rintro ⟨⟨a1, a2⟩, a3⟩
        refine ⟨a1, ?_, a2⟩
        cases e : hb shut t with
        | false =>
          have := hsh t a1
          rw [e] at this
          exact this.symm
        | true => rw [e] at a3; cases a3
      · rintro ⟨a1, a2, a3⟩
        refine ⟨⟨a1, a3⟩, ?_⟩
        cases e : hb shut t with
        | false => rfl
        | true => exact absurd a2 ((sv t a1).mp e)) ha1
    have dset : ∀ t, t < 64 → (hb ((all ^^^ Int64.ofInt (-1)) &&& (shut ^^^ Int64.ofInt (-1)) &&& Int64.ofInt 68719476735) t = true ↔ (t < 36 ∧ sh t = 0 ∧ psq sh ns pr iso o i t = 0)) := fun t ht => by
      rw [hb_and, hb_and, hb_xor, hb_xor, hb_m1 t ht, Bool.and_eq_true, Bool.and_eq_true]
      constructor
      · rintro ⟨⟨a1, a2⟩, a3⟩
        have t36 : t < 36 := by
          apply Classical.byContradiction
          intro q
          rw [full_hi t ht (by omega)] at a3
          cases a3
        refine ⟨t36, ?_, ?_⟩
        · cases e : hb shut t with
          | false =>
            have := hsh t t36
            rw [e] at this
            exact this.symm
          | true => rw [e] at a2; cases a2
        · rcases pb t t36 with z | z
          · exact z
          · rw [(hB t ht).mpr ⟨t36, z⟩] at a1; cases a1
      · rintro ⟨a1, a2, a3⟩
        refine ⟨⟨?_, ?_⟩, full_v t a1⟩
        · cases e : hb all t with
          | false => rfl
          | true =>
            have := ((hB t ht).mp e).2
            omega
        · cases e : hb shut t with
          | false => rfl
          | true => exact absurd a2 ((sv t a1).mp e)
    have m48b := fun x10 => m48 (H := H) (Q := sw_K 70 51 none [some (.ref rs), some (.long shut), none, some (.long oil), none, some (.int (Int32.ofInt pr)), some (.int (Int32.ofInt iso)), some (.long all), none, some (.int (Int32.ofInt nx)), some (.long hangs), none, x10, none, x14, x15] [] Q) ((all ^^^ Int64.ofInt (-1)) &&& (shut ^^^ Int64.ofInt (-1)) &&& Int64.ofInt 68719476735) (sdv 1) (by
      rw [hb_and]
      cases e : hb (sdv 1) 63 with
      | false => rw [Bool.and_false]
      | true =>
        have := (sdv_v (w := 1) (j := 63) (by omega) (by omega)).mp e
        omega)
    obtain ⟨drips, db1, db2⟩ := m48b x12
    have h0 := Fl_HG (sh := sh) (oil := psq sh ns pr iso o i) (iso := 0) (w := 1) (by omega) rfl dset db1
    obtain ⟨r, x2, g1, g2⟩ := m70_s (H := H) (Q := Q) (rs := rs) (shut := shut) (oil := oil) (all := all) (hangs := hangs) (drips := drips) hs0 ns1 p0 p1 hi9 36 (-1) x15 (Nat.le_refl _) (Or.inl ⟨rfl, fun t a b => by omega⟩)
    have er : r = lsP (CD sh ns pr iso (psq sh ns pr iso o i)) 36 := NXT_u (P := lcd ns pr iso hangs drips) (fun t ht => lcd_CD hi9 pb h1 h0 ht) (by
      rcases g1 with ⟨z1, z2⟩ | ⟨s, z1, z2, z3, z4, z5⟩
      · exact Or.inl ⟨z1, fun t ht => z2 t (Nat.zero_le _) ht⟩
      · exact Or.inr ⟨s, z1, z3, z4, fun t ht => z5 t (Nat.zero_le _) ht⟩) (lsP_N _)
    have pre : sw_A 70 6 [some (.ref rs), some (.long shut), none, some (.long oil), none, some (.int (Int32.ofInt pr)), some (.int (Int32.ofInt iso)), some (.long all), none, some (.int (Int32.ofInt nx)), x10, none, x12, none, x14, x15] [] H Q = sw_A 70 175 [some (.ref rs), some (.long shut), none, some (.long oil), none, some (.int (Int32.ofInt pr)), some (.int (Int32.ofInt iso)), some (.long all), none, some (.int (Int32.ofInt r)), some (.long hangs), none, some (.long drips), none, some (.int (Int32.ofInt (-1))), x2] [] H Q := by
      refine Eq.trans ?_ g2
      rw [r70_6]
      simp (disch := omega) only [r70_8, sw_ldi, sw_ldl, sw_lda, sw_has1, sw_i1, sw_i2, sw_l1, sw_l2, sw_li, sw_r1, sw_ri, sw_rix, sw_rv, sw_pop, sw_set1, sw_set2, List.set_cons_zero, List.set_cons_succ, List.getElem?_cons_zero, List.getElem?_cons_succ, ald_1, ald_2, ast_1, ast_2, aln_1, aln_2, gf_1, gf_2, pf_1, pf_2, nw_1, ck_0, ck_1, ck_2, ck_3, ck_4, rr_1, rc_1, rc_2, K_i, K_l, K_v, I_add, I_sub, I_mul, I_div, I_em, I_eq0, I_lt0, I_0lt, I_le0, I_0le, I_eq, I_lt, I_le, I_a1, I_r1, I_eq1, I32_at, I32_s, Int.toNat_natCast, List.set_cons_zero, reduceCtorEq, not_false_eq_true, not_true_eq_false, false_and, true_and, and_true, and_false, false_or, true_or, or_true, or_false, if_true, if_false, eq_self, ↓reduceIte, Int.reduceEq, Int.reduceLT, Int.reduceLE, Int.reduceAdd, Int.reduceSub, Int.reduceMul, Int.reduceNeg, Int.reduceToNat, Nat.reduceLT, Nat.reduceAdd, Nat.reduceEqDiff, List.length_cons, List.length_nil]
      rw [if_neg (by omega)]
      simp (disch := omega) only [r70_11, r70_13, r70_14, r70_17, r70_18, r70_19, r70_20, r70_23, sw_ldi, sw_ldl, sw_lda, sw_has1, sw_i1, sw_i2, sw_l1, sw_l2, sw_li, sw_r1, sw_ri, sw_rix, sw_rv, sw_pop, sw_set1, sw_set2, List.set_cons_zero, List.set_cons_succ, List.getElem?_cons_zero, List.getElem?_cons_succ, ald_1, ald_2, ast_1, ast_2, aln_1, aln_2, gf_1, gf_2, pf_1, pf_2, nw_1, ck_0, ck_1, ck_2, ck_3, ck_4, rr_1, rc_1, rc_2, K_i, K_l, K_v, I_add, I_sub, I_mul, I_div, I_em, I_eq0, I_lt0, I_0lt, I_le0, I_0le, I_eq, I_lt, I_le, I_a1, I_r1, I_eq1, I32_at, I32_s, Int.toNat_natCast, List.set_cons_zero, reduceCtorEq, not_false_eq_true, not_true_eq_false, false_and, true_and, and_true, and_false, false_or, true_or, or_true, or_false, if_true, if_false, eq_self, ↓reduceIte, Int.reduceEq, Int.reduceLT, Int.reduceLE, Int.reduceAdd, Int.reduceSub, Int.reduceMul, Int.reduceNeg, Int.reduceToNat, Nat.reduceLT, Nat.reduceAdd, Nat.reduceEqDiff, List.length_cons, List.length_nil, m69_0]
      rw [ha2]
      rcases hx with ⟨rfl, rfl⟩ | ⟨a, b, rfl, rfl⟩
      · simp (disch := omega) only [r70_26, r70_28, r70_30, r70_33, r70_34, r70_35, r70_38, r70_39, r70_40, r70_43, r70_44, r70_45, r70_48, sw_ldi, sw_ldl, sw_lda, sw_has1, sw_i1, sw_i2, sw_l1, sw_l2, sw_li, sw_r1, sw_ri, sw_rix, sw_rv, sw_pop, sw_set1, sw_set2, List.set_cons_zero, List.set_cons_succ, List.getElem?_cons_zero, List.getElem?_cons_succ, ald_1, ald_2, ast_1, ast_2, aln_1, aln_2, gf_1, gf_2, pf_1, pf_2, nw_1, ck_0, ck_1, ck_2, ck_3, ck_4, rr_1, rc_1, rc_2, K_i, K_l, K_v, I_add, I_sub, I_mul, I_div, I_em, I_eq0, I_lt0, I_0lt, I_le0, I_0le, I_eq, I_lt, I_le, I_a1, I_r1, I_eq1, I32_at, I32_s, Int.toNat_natCast, List.set_cons_zero, reduceCtorEq, not_false_eq_true, not_true_eq_false, false_and, true_and, and_true, and_false, false_or, true_or, or_true, or_false, if_true, if_false, eq_self, ↓reduceIte, Int.reduceEq, Int.reduceLT, Int.reduceLE, Int.reduceAdd, Int.reduceSub, Int.reduceMul, Int.reduceNeg, Int.reduceToNat, Nat.reduceLT, Nat.reduceAdd, Nat.reduceEqDiff, List.length_cons, List.length_nil, m69_1]
        rw [db2]
        simp (disch := omega) only [r70_51, r70_53, r70_54, r70_56, r70_58, sw_ldi, sw_ldl, sw_lda, sw_has1, sw_i1, sw_i2, sw_l1, sw_l2, sw_li, sw_r1, sw_ri, sw_rix, sw_rv, sw_pop, sw_set1, sw_set2, List.set_cons_zero, List.set_cons_succ, List.getElem?_cons_zero, List.getElem?_cons_succ, ald_1, ald_2, ast_1, ast_2, aln_1, aln_2, gf_1, gf_2, pf_1, pf_2, nw_1, ck_0, ck_1, ck_2, ck_3, ck_4, rr_1, rc_1, rc_2, K_i, K_l, K_v, I_add, I_sub, I_mul, I_div, I_em, I_eq0, I_lt0, I_0lt, I_le0, I_0le, I_eq, I_lt, I_le, I_a1, I_r1, I_eq1, I32_at, I32_s, Int.toNat_natCast, List.set_cons_zero, reduceCtorEq, not_false_eq_true, not_true_eq_false, false_and, true_and, and_true, and_false, false_or, true_or, or_true, or_false, if_true, if_false, eq_self, ↓reduceIte, Int.reduceEq, Int.reduceLT, Int.reduceLE, Int.reduceAdd, Int.reduceSub, Int.reduceMul, Int.reduceNeg, Int.reduceToNat, Nat.reduceLT, Nat.reduceAdd, Nat.reduceEqDiff, List.length_cons, List.length_nil]
        rfl
      · simp (disch := omega) only [r70_26, r70_28, r70_30, r70_33, r70_34, r70_35, r70_38, r70_39, r70_40, r70_43, r70_44, r70_45, r70_48, sw_ldi, sw_ldl, sw_lda, sw_has1, sw_i1, sw_i2, sw_l1, sw_l2, sw_li, sw_r1, sw_ri, sw_rix, sw_rv, sw_pop, sw_set1, sw_set2, List.set_cons_zero, List.set_cons_succ, List.getElem?_cons_zero, List.getElem?_cons_succ, ald_1, ald_2, ast_1, ast_2, aln_1, aln_2, gf_1, gf_2, pf_1, pf_2, nw_1, ck_0, ck_1, ck_2, ck_3, ck_4, rr_1, rc_1, rc_2, K_i, K_l, K_v, I_add, I_sub, I_mul, I_div, I_em, I_eq0, I_lt0, I_0lt, I_le0, I_0le, I_eq, I_lt, I_le, I_a1, I_r1, I_eq1, I32_at, I32_s, Int.toNat_natCast, List.set_cons_zero, reduceCtorEq, not_false_eq_true, not_true_eq_false, false_and, true_and, and_true, and_false, false_or, true_or, or_true, or_false, if_true, if_false, eq_self, ↓reduceIte, Int.reduceEq, Int.reduceLT, Int.reduceLE, Int.reduceAdd, Int.reduceSub, Int.reduceMul, Int.reduceNeg, Int.reduceToNat, Nat.reduceLT, Nat.reduceAdd, Nat.reduceEqDiff, List.length_cons, List.length_nil, m69_1]
        rw [db2]
        simp (disch := omega) only [r70_51, r70_53, r70_54, r70_56, r70_58, sw_ldi, sw_ldl, sw_lda, sw_has1, sw_i1, sw_i2, sw_l1, sw_l2, sw_li, sw_r1, sw_ri, sw_rix, sw_rv, sw_pop, sw_set1, sw_set2, List.set_cons_zero, List.set_cons_succ, List.getElem?_cons_zero, List.getElem?_cons_succ, ald_1, ald_2, ast_1, ast_2, aln_1, aln_2, gf_1, gf_2, pf_1, pf_2, nw_1, ck_0, ck_1, ck_2, ck_3, ck_4, rr_1, rc_1, rc_2, K_i, K_l, K_v, I_add, I_sub, I_mul, I_div, I_em, I_eq0, I_lt0, I_0lt, I_le0, I_0le, I_eq, I_lt, I_le, I_a1, I_r1, I_eq1, I32_at, I32_s, Int.toNat_natCast, List.set_cons_zero, reduceCtorEq, not_false_eq_true, not_true_eq_false, false_and, true_and, and_true, and_false, false_or, true_or, or_true, or_false, if_true, if_false, eq_self, ↓reduceIte, Int.reduceEq, Int.reduceLT, Int.reduceLE, Int.reduceAdd, Int.reduceSub, Int.reduceMul, Int.reduceNeg, Int.reduceToNat, Nat.reduceLT, Nat.reduceAdd, Nat.reduceEqDiff, List.length_cons, List.length_nil]
        rfl
    by_cases c : r = -1
    · subst c
      refine ⟨all, ?_, ?_⟩
      · have st := psq_st er.symm (36 - i)
        rw [show i + (36 - i) = 36 by omega] at st
        rw [st]
        exact hB
      · rw [pre]
        simp (disch := omega) only [r70_175, r70_177, r70_189, sw_ldi, sw_ldl, sw_lda, sw_has1, sw_i1, sw_i2, sw_l1, sw_l2, sw_li, sw_r1, sw_ri, sw_rix, sw_rv, sw_pop, sw_set1, sw_set2, List.set_cons_zero, List.set_cons_succ, List.getElem?_cons_zero, List.getElem?_cons_succ, ald_1, ald_2, ast_1, ast_2, aln_1, aln_2, gf_1, gf_2, pf_1, pf_2, nw_1, ck_0, ck_1, ck_2, ck_3, ck_4, rr_1, rc_1, rc_2, K_i, K_l, K_v, I_add, I_sub, I_mul, I_div, I_em, I_eq0, I_lt0, I_0lt, I_le0, I_0le, I_eq, I_lt, I_le, I_a1, I_r1, I_eq1, I32_at, I32_s, Int.toNat_natCast, List.set_cons_zero, reduceCtorEq, not_false_eq_true, not_true_eq_false, false_and, true_and, and_true, and_false, false_or, true_or, or_true, or_false, if_true, if_false, eq_self, ↓reduceIte, Int.reduceEq, Int.reduceLT, Int.reduceLE, Int.reduceAdd, Int.reduceSub, Int.reduceMul, Int.reduceNeg, Int.reduceToNat, Nat.reduceLT, Nat.reduceAdd, Nat.reduceEqDiff, List.length_cons, List.length_nil]
        rw [r70_6]
        simp (disch := omega) only [r70_8, r70_192, r70_194, sw_ldi, sw_ldl, sw_lda, sw_has1, sw_i1, sw_i2, sw_l1, sw_l2, sw_li, sw_r1, sw_ri, sw_rix, sw_rv, sw_pop, sw_set1, sw_set2, List.set_cons_zero, List.set_cons_succ, List.getElem?_cons_zero, List.getElem?_cons_succ, ald_1, ald_2, ast_1, ast_2, aln_1, aln_2, gf_1, gf_2, pf_1, pf_2, nw_1, ck_0, ck_1, ck_2, ck_3, ck_4, rr_1, rc_1, rc_2, K_i, K_l, K_v, I_add, I_sub, I_mul, I_div, I_em, I_eq0, I_lt0, I_0lt, I_le0, I_0le, I_eq, I_lt, I_le, I_a1, I_r1, I_eq1, I32_at, I32_s, Int.toNat_natCast, List.set_cons_zero, reduceCtorEq, not_false_eq_true, not_true_eq_false, false_and, true_and, and_true, and_false, false_or, true_or, or_true, or_false, if_true, if_false, eq_self, ↓reduceIte, Int.reduceEq, Int.reduceLT, Int.reduceLE, Int.reduceAdd, Int.reduceSub, Int.reduceMul, Int.reduceNeg, Int.reduceToNat, Nat.reduceLT, Nat.reduceAdd, Nat.reduceEqDiff, List.length_cons, List.length_nil]
    · rcases g1 with ⟨z1, z2⟩ | ⟨s, rfl, z2, z3, z4, z5⟩
      · exact absurd z1 c
      · have ne : ¬ lsP (CD sh ns pr iso (psq sh ns pr iso o i)) 36 = -1 := by omega
        have es : psq sh ns pr iso o (i + 1) = sw_s (psq sh ns pr iso o i) s iso := by
          show (if _ then _ else _) = _
          rw [if_neg ne, ← er, Int.toNat_natCast]
        have cd := (lcd_CD hi9 pb h1 h0 z3).mp z4
        have os := pb s z3
        obtain ⟨all2, k1, k2⟩ := ih (i + 1) (all ^^^ wb 0 s) s (some (.long hangs)) (some (.long drips)) (some (.int (Int32.ofInt (-1)))) x2 (by omega) (by omega) (by omega) (Or.inr ⟨_, _, rfl, rfl⟩) (fun t ht => by
          rw [hb_xor, hb_wb 0 s t (by omega) ht, hb_0, Bool.false_or, es]
          unfold sw_s
          have hBt := hB t ht
          by_cases e : t = s
          · subst e
            rw [if_pos rfl, decide_eq_true rfl]
            have n1 := cd.2.1
            rcases os with z | z
            · have e1 : hb all t = false := by
                cases y : hb all t with
                | false => rfl
                | true => have := (hBt.mp y).2; omega
              rw [e1]
              exact ⟨fun _ => ⟨z3, by omega⟩, fun _ => rfl⟩
            · rw [hBt.mpr ⟨z3, z⟩]
              exact ⟨fun q => (by cases q), fun q => by omega⟩
          · rw [if_neg e, decide_eq_false e]
            rw [show (hb all t != false) = hb all t by cases hb all t <;> rfl]
            exact hBt) (fun j hj => by
          by_cases e : j = i
          · rw [e]; exact ne
          · exact hp j (by omega))
        refine ⟨all2, k1, ?_⟩
        rw [pre]
        simp (disch := omega) only [r70_175, r70_177, sw_ldi, sw_ldl, sw_lda, sw_has1, sw_i1, sw_i2, sw_l1, sw_l2, sw_li, sw_r1, sw_ri, sw_rix, sw_rv, sw_pop, sw_set1, sw_set2, List.set_cons_zero, List.set_cons_succ, List.getElem?_cons_zero, List.getElem?_cons_succ, ald_1, ald_2, ast_1, ast_2, aln_1, aln_2, gf_1, gf_2, pf_1, pf_2, nw_1, ck_0, ck_1, ck_2, ck_3, ck_4, rr_1, rc_1, rc_2, K_i, K_l, K_v, I_add, I_sub, I_mul, I_div, I_em, I_eq0, I_lt0, I_0lt, I_le0, I_0le, I_eq, I_lt, I_le, I_a1, I_r1, I_eq1, I32_at, I32_s, Int.toNat_natCast, List.set_cons_zero, reduceCtorEq, not_false_eq_true, not_true_eq_false, false_and, true_and, and_true, and_false, false_or, true_or, or_true, or_false, if_true, if_false, eq_self, ↓reduceIte, Int.reduceEq, Int.reduceLT, Int.reduceLE, Int.reduceAdd, Int.reduceSub, Int.reduceMul, Int.reduceNeg, Int.reduceToNat, Nat.reduceLT, Nat.reduceAdd, Nat.reduceEqDiff, List.length_cons, List.length_nil]
        rw [if_neg (by omega)]
        simp (disch := omega) only [r70_180, r70_182, r70_183, r70_185, r70_186, r70_187, r70_189, sw_ldi, sw_ldl, sw_lda, sw_has1, sw_i1, sw_i2, sw_l1, sw_l2, sw_li, sw_r1, sw_ri, sw_rix, sw_rv, sw_pop, sw_set1, sw_set2, List.set_cons_zero, List.set_cons_succ, List.getElem?_cons_zero, List.getElem?_cons_succ, ald_1, ald_2, ast_1, ast_2, aln_1, aln_2, gf_1, gf_2, pf_1, pf_2, nw_1, ck_0, ck_1, ck_2, ck_3, ck_4, rr_1, rc_1, rc_2, K_i, K_l, K_v, I_add, I_sub, I_mul, I_div, I_em, I_eq0, I_lt0, I_0lt, I_le0, I_0le, I_eq, I_lt, I_le, I_a1, I_r1, I_eq1, I32_at, I32_s, Int.toNat_natCast, List.set_cons_zero, reduceCtorEq, not_false_eq_true, not_true_eq_false, false_and, true_and, and_true, and_false, false_or, true_or, or_true, or_false, if_true, if_false, eq_self, ↓reduceIte, Int.reduceEq, Int.reduceLT, Int.reduceLE, Int.reduceAdd, Int.reduceSub, Int.reduceMul, Int.reduceNeg, Int.reduceToNat, Nat.reduceLT, Nat.reduceAdd, Nat.reduceEqDiff, List.length_cons, List.length_nil, wb0]
        exact k2
/-- moved -/
theorem m70 {pr iso : Int} {o : Nat → Int} (hs0 : H.1 rs = .inr (0, 36, I32 ns)) (ns1 : ∀ i, i < 36 → 0 ≤ ns i ∧ ns i < 1000) (p0 : 0 ≤ pr) (p1 : pr ≤ 1000) (hi9 : iso = 0 ∨ iso = 1) (hsh : ∀ t, t < 36 → bi (hb shut t) = sh t) (ho : B01 o) (hB : Bt oil o) : ∃ all2 : Int64, Bt all2 (psq sh ns pr iso o 36) ∧ sw_M 70 [.ref rs, .long shut, .long oil, .int (Int32.ofInt pr), .int (Int32.ofInt iso)] H Q = Q (some (some (.long all2))) H := by
  obtain ⟨all2, k1, k2⟩ := m70_w (H := H) (Q := Q) (rs := rs) (oil := oil) hs0 ns1 p0 p1 hi9 hsh ho 36 0 oil 0 none none none none (by omega) (by omega) (by omega) (Or.inl ⟨rfl, rfl⟩) hB (fun j hj => absurd hj (Nat.not_lt_zero _))
  refine ⟨all2, k1, Eq.trans ?_ k2⟩
  rw [e70]
  simp (disch := omega) only [r70_0, r70_1, r70_3, r70_4, sw_ldi, sw_ldl, sw_lda, sw_has1, sw_i1, sw_i2, sw_l1, sw_l2, sw_li, sw_r1, sw_ri, sw_rix, sw_rv, sw_pop, sw_set1, sw_set2, List.set_cons_zero, List.set_cons_succ, List.getElem?_cons_zero, List.getElem?_cons_succ, ald_1, ald_2, ast_1, ast_2, aln_1, aln_2, gf_1, gf_2, pf_1, pf_2, nw_1, ck_0, ck_1, ck_2, ck_3, ck_4, rr_1, rc_1, rc_2, K_i, K_l, K_v, I_add, I_sub, I_mul, I_div, I_em, I_eq0, I_lt0, I_0lt, I_le0, I_0le, I_eq, I_lt, I_le, I_a1, I_r1, I_eq1, I32_at, I32_s, Int.toNat_natCast, List.set_cons_zero, reduceCtorEq, not_false_eq_true, not_true_eq_false, false_and, true_and, and_true, and_false, false_or, true_or, or_true, or_false, if_true, if_false, eq_self, ↓reduceIte, Int.reduceEq, Int.reduceLT, Int.reduceLE, Int.reduceAdd, Int.reduceSub, Int.reduceMul, Int.reduceNeg, Int.reduceToNat, Nat.reduceLT, Nat.reduceAdd, Nat.reduceEqDiff, List.length_cons, List.length_nil]
end sw_mw
