/-! scale, estimate -/
def scI (p : Int) : Int := p * p * (p * p + 4 * p * (1000 - p) + 2 * (1000 - p) * (1000 - p)) / 1000000000
theorem sc_b : ∀ p, p < 1001 → 0 ≤ scI (p : Nat) ∧ scI (p : Nat) ≤ 1000 := by decide +kernel
theorem sc_c : ∀ p, p < 1001 → (((Int32.ofInt (p : Nat)).toInt64 * (Int32.ofInt (p : Nat)).toInt64 * (Int32.ofInt (p : Nat)).toInt64 * (Int32.ofInt (p : Nat)).toInt64 + Int64.ofInt 4 * (Int32.ofInt (p : Nat)).toInt64 * (Int32.ofInt (p : Nat)).toInt64 * (Int32.ofInt (p : Nat)).toInt64 * (Int64.ofInt 1000 - (Int32.ofInt (p : Nat)).toInt64) + Int64.ofInt 2 * (Int32.ofInt (p : Nat)).toInt64 * (Int32.ofInt (p : Nat)).toInt64 * (Int64.ofInt 1000 - (Int32.ofInt (p : Nat)).toInt64) * (Int64.ofInt 1000 - (Int32.ofInt (p : Nat)).toInt64)) / Int64.ofInt 1000000000).toInt32 = Int32.ofInt (scI (p : Nat)) := by decide +kernel
theorem sc_l : ∀ p, p < 1001 → (Int32.ofInt (p : Nat)).toInt64 * (Int32.ofInt (p : Nat)).toInt64 * ((Int32.ofInt (p : Nat)).toInt64 * (Int32.ofInt (p : Nat)).toInt64 + Int64.ofInt 4 * (Int32.ofInt (p : Nat)).toInt64 * (Int64.ofInt 1000 - (Int32.ofInt (p : Nat)).toInt64) + Int64.ofInt 2 * (Int64.ofInt 1000 - (Int32.ofInt (p : Nat)).toInt64) * (Int64.ofInt 1000 - (Int32.ofInt (p : Nat)).toInt64)) / Int64.ofInt 1000000000 = (Int32.ofInt (scI (p : Nat))).toInt64 := by decide +kernel
def scn (p : Int) : Nat → Int
  | 0 => p
  | n + 1 => scI (scn p n)
theorem scn_b {p : Int} (p0 : 0 ≤ p) (p1 : p ≤ 1000) : ∀ n, 0 ≤ scn p n ∧ scn p n ≤ 1000
  | 0 => ⟨p0, p1⟩
  | n + 1 => by
    have ih := scn_b p0 p1 n
    have := sc_b (scn p n).toNat (by omega)
    rw [show (((scn p n).toNat : Nat) : Int) = scn p n by omega] at this
    exact this
section sw_sc
variable {L : Nat} {A : Nat → Nat → Int} {F : Nat → Int} {T : Nat → sw_Ce} {X : Nat × Nat × Nat} {Q : sw_Ot → sw_HS → Prop} {H : sw_HS}
theorem m93 {p : Nat} (hp : p < 1001) : sw_M 93 [.int (Int32.ofInt p)] H Q = Q (some (some (.int (Int32.ofInt (scI p))))) H := by
  rw [e93]
  simp (disch := omega) only [r93_0, r93_1, r93_2, r93_3, r93_6, r93_7, r93_8, r93_9, r93_10, r93_11, r93_12, r93_13, r93_14, r93_15, r93_16, r93_19, r93_20, r93_21, r93_22, r93_23, r93_24, r93_25, r93_26, r93_27, r93_28, r93_31, r93_32, r93_33, r93_34, r93_35, r93_36, r93_37, r93_38, r93_39, r93_40, r93_43, r93_44, r93_45, sw_ldi, sw_ldl, sw_lda, sw_has1, sw_i1, sw_i2, sw_l1, sw_l2, sw_li, sw_r1, sw_ri, sw_rix, sw_rv, sw_pop, sw_set1, sw_set2, List.set_cons_zero, List.set_cons_succ, List.getElem?_cons_zero, List.getElem?_cons_succ, ald_1, ald_2, ast_1, ast_2, aln_1, aln_2, gf_1, gf_2, pf_1, pf_2, nw_1, ck_0, ck_1, ck_2, ck_3, ck_4, rr_1, rc_1, rc_2, K_i, K_l, K_v, I_add, I_sub, I_mul, I_div, I_em, I_eq0, I_lt0, I_0lt, I_le0, I_0le, I_eq, I_lt, I_le, I_a1, I_r1, I_eq1, I32_at, I32_s, Int.toNat_natCast, List.set_cons_zero, reduceCtorEq, not_false_eq_true, not_true_eq_false, false_and, true_and, and_true, and_false, false_or, true_or, or_true, or_false, if_true, if_false, eq_self, ↓reduceIte, Int.reduceEq, Int.reduceLT, Int.reduceLE, Int.reduceAdd, Int.reduceSub, Int.reduceMul, Int.reduceNeg, Int.reduceToNat, Nat.reduceLT, Nat.reduceAdd, Nat.reduceEqDiff, List.length_cons, List.length_nil]
  rw [if_neg (by decide), sc_c p hp]
theorem m94_l {p : Int} {n : Nat} (p0 : 0 ≤ p) (p1 : p ≤ 1000) (hn : n ≤ 50) : ∀ (d i : Nat), i + d = n → sw_A 94 20 [some (.ref 1), some (.int (Int32.ofInt p)), some (.int (Int32.ofInt n)), some (.int (Int32.ofInt (scn p i))), some (.int (Int32.ofInt i))] [] H Q = Q (some (some (.int (Int32.ofInt (scn p n))))) H
  | 0, i, hd => by
    have e : i = n := hd
    subst e
    rw [r94_20]
    simp (disch := omega) only [r94_22, r94_23, r94_37, r94_38, sw_ldi, sw_ldl, sw_lda, sw_has1, sw_i1, sw_i2, sw_l1, sw_l2, sw_li, sw_r1, sw_ri, sw_rix, sw_rv, sw_pop, sw_set1, sw_set2, List.set_cons_zero, List.set_cons_succ, List.getElem?_cons_zero, List.getElem?_cons_succ, ald_1, ald_2, ast_1, ast_2, aln_1, aln_2, gf_1, gf_2, pf_1, pf_2, nw_1, ck_0, ck_1, ck_2, ck_3, ck_4, rr_1, rc_1, rc_2, K_i, K_l, K_v, I_add, I_sub, I_mul, I_div, I_em, I_eq0, I_lt0, I_0lt, I_le0, I_0le, I_eq, I_lt, I_le, I_a1, I_r1, I_eq1, I32_at, I32_s, Int.toNat_natCast, List.set_cons_zero, reduceCtorEq, not_false_eq_true, not_true_eq_false, false_and, true_and, and_true, and_false, false_or, true_or, or_true, or_false, if_true, if_false, eq_self, ↓reduceIte, Int.reduceEq, Int.reduceLT, Int.reduceLE, Int.reduceAdd, Int.reduceSub, Int.reduceMul, Int.reduceNeg, Int.reduceToNat, Nat.reduceLT, Nat.reduceAdd, Nat.reduceEqDiff, List.length_cons, List.length_nil, Int.le_refl]
  | d + 1, i, hd => by
    have ih := m94_l p0 p1 hn d (i + 1) (by omega)
    have b := scn_b p0 p1 i
    have mm := fun (Q : sw_Ot → sw_HS → Prop) => m93 (H := H) (Q := Q) (p := (scn p i).toNat) (by omega)
    rw [show (((scn p i).toNat : Nat) : Int) = scn p i by omega] at mm
    rw [r94_20]
    simp (disch := omega) only [r94_22, r94_23, r94_26, sw_ldi, sw_ldl, sw_lda, sw_has1, sw_i1, sw_i2, sw_l1, sw_l2, sw_li, sw_r1, sw_ri, sw_rix, sw_rv, sw_pop, sw_set1, sw_set2, List.set_cons_zero, List.set_cons_succ, List.getElem?_cons_zero, List.getElem?_cons_succ, ald_1, ald_2, ast_1, ast_2, aln_1, aln_2, gf_1, gf_2, pf_1, pf_2, nw_1, ck_0, ck_1, ck_2, ck_3, ck_4, rr_1, rc_1, rc_2, K_i, K_l, K_v, I_add, I_sub, I_mul, I_div, I_em, I_eq0, I_lt0, I_0lt, I_le0, I_0le, I_eq, I_lt, I_le, I_a1, I_r1, I_eq1, I32_at, I32_s, Int.toNat_natCast, List.set_cons_zero, reduceCtorEq, not_false_eq_true, not_true_eq_false, false_and, true_and, and_true, and_false, false_or, true_or, or_true, or_false, if_true, if_false, eq_self, ↓reduceIte, Int.reduceEq, Int.reduceLT, Int.reduceLE, Int.reduceAdd, Int.reduceSub, Int.reduceMul, Int.reduceNeg, Int.reduceToNat, Nat.reduceLT, Nat.reduceAdd, Nat.reduceEqDiff, List.length_cons, List.length_nil]
    rw [if_neg (by omega), r94_27]
    simp (disch := omega) only [sw_ldi, sw_ldl, sw_lda, sw_has1, sw_i1, sw_i2, sw_l1, sw_l2, sw_li, sw_r1, sw_ri, sw_rix, sw_rv, sw_pop, sw_set1, sw_set2, List.set_cons_zero, List.set_cons_succ, List.getElem?_cons_zero, List.getElem?_cons_succ, ald_1, ald_2, ast_1, ast_2, aln_1, aln_2, gf_1, gf_2, pf_1, pf_2, nw_1, ck_0, ck_1, ck_2, ck_3, ck_4, rr_1, rc_1, rc_2, K_i, K_l, K_v, I_add, I_sub, I_mul, I_div, I_em, I_eq0, I_lt0, I_0lt, I_le0, I_0le, I_eq, I_lt, I_le, I_a1, I_r1, I_eq1, I32_at, I32_s, Int.toNat_natCast, List.set_cons_zero, reduceCtorEq, not_false_eq_true, not_true_eq_false, false_and, true_and, and_true, and_false, false_or, true_or, or_true, or_false, if_true, if_false, eq_self, ↓reduceIte, Int.reduceEq, Int.reduceLT, Int.reduceLE, Int.reduceAdd, Int.reduceSub, Int.reduceMul, Int.reduceNeg, Int.reduceToNat, Nat.reduceLT, Nat.reduceAdd, Nat.reduceEqDiff, List.length_cons, List.length_nil]
    rw [mm]
    simp (disch := omega) only [r94_30, r94_31, r94_34, sw_ldi, sw_ldl, sw_lda, sw_has1, sw_i1, sw_i2, sw_l1, sw_l2, sw_li, sw_r1, sw_ri, sw_rix, sw_rv, sw_pop, sw_set1, sw_set2, List.set_cons_zero, List.set_cons_succ, List.getElem?_cons_zero, List.getElem?_cons_succ, ald_1, ald_2, ast_1, ast_2, aln_1, aln_2, gf_1, gf_2, pf_1, pf_2, nw_1, ck_0, ck_1, ck_2, ck_3, ck_4, rr_1, rc_1, rc_2, K_i, K_l, K_v, I_add, I_sub, I_mul, I_div, I_em, I_eq0, I_lt0, I_0lt, I_le0, I_0le, I_eq, I_lt, I_le, I_a1, I_r1, I_eq1, I32_at, I32_s, Int.toNat_natCast, List.set_cons_zero, reduceCtorEq, not_false_eq_true, not_true_eq_false, false_and, true_and, and_true, and_false, false_or, true_or, or_true, or_false, if_true, if_false, eq_self, ↓reduceIte, Int.reduceEq, Int.reduceLT, Int.reduceLE, Int.reduceAdd, Int.reduceSub, Int.reduceMul, Int.reduceNeg, Int.reduceToNat, Nat.reduceLT, Nat.reduceAdd, Nat.reduceEqDiff, List.length_cons, List.length_nil]
    exact ih
/-- scale -/
theorem m94 {p : Int} {n : Nat} (p0 : 0 ≤ p) (p1 : p ≤ 1000) (hn : n ≤ 50) : sw_M 94 [.ref 1, .int (Int32.ofInt p), .int (Int32.ofInt n)] (sw_h L A F T X) Q = Q (some (some (.int (Int32.ofInt (scn p n))))) (sw_h L A F T X) := by
  have q := m94_l (H := sw_h L A F T X) (Q := Q) p0 p1 hn n 0 (by omega)
  rw [e94]
  simp (disch := omega) only [r94_0, r94_1, r94_2, r94_5, r94_8, r94_9, r94_10, r94_12, r94_15, r94_16, r94_17, r94_18, sw_ldi, sw_ldl, sw_lda, sw_has1, sw_i1, sw_i2, sw_l1, sw_l2, sw_li, sw_r1, sw_ri, sw_rix, sw_rv, sw_pop, sw_set1, sw_set2, List.set_cons_zero, List.set_cons_succ, List.getElem?_cons_zero, List.getElem?_cons_succ, ald_1, ald_2, ast_1, ast_2, aln_1, aln_2, gf_1, gf_2, pf_1, pf_2, nw_1, ck_0, ck_1, ck_2, ck_3, ck_4, rr_1, rc_1, rc_2, K_i, K_l, K_v, I_add, I_sub, I_mul, I_div, I_em, I_eq0, I_lt0, I_0lt, I_le0, I_0le, I_eq, I_lt, I_le, I_a1, I_r1, I_eq1, I32_at, I32_s, Int.toNat_natCast, List.set_cons_zero, reduceCtorEq, not_false_eq_true, not_true_eq_false, false_and, true_and, and_true, and_false, false_or, true_or, or_true, or_false, if_true, if_false, eq_self, ↓reduceIte, Int.reduceEq, Int.reduceLT, Int.reduceLE, Int.reduceAdd, Int.reduceSub, Int.reduceMul, Int.reduceNeg, Int.reduceToNat, Nat.reduceLT, Nat.reduceAdd, Nat.reduceEqDiff, List.length_cons, List.length_nil, m17, h_1]
  exact q
/-- the numbers that a seed draws, as if told -/
def dzA (A : Nat → Nat → Int) (z : Int) : Nat → Nat → Int := sw_s (sw_s A 3 (fun k => dz z (k + 1) % 1000)) 4 (fun k => dz z (61 + k) % 1000)
/-- whether a seed's numbers span across -/
noncomputable def esv (A : Nat → Nat → Int) (k p : Int) (z : Nat) : Int := @ite Int (NSp (dzA A ((z : Nat) + 1)) k p 1 2) (Classical.propDecidable _) 0 1
theorem esv_b (A : Nat → Nat → Int) (k p : Int) (z : Nat) : esv A k p z = 0 ∨ esv A k p z = 1 := by
  unfold esv
  split
  · exact Or.inl rfl
  · exact Or.inr rfl
theorem dzA_Nm {A : Nat → Nat → Int} {z : Int} (h : Nm A) : Nm (dzA A z) := ⟨fun i _ => by
  show 0 ≤ dz z (i + 1) % 1000 ∧ dz z (i + 1) % 1000 < 1000
  omega, fun i _ => by
  show 0 ≤ dz z (61 + i) % 1000 ∧ dz z (61 + i) % 1000 < 1000
  omega, h.2.2⟩
theorem esv_c {A B : Nat → Nat → Int} {k p : Int} (h : B 9 = A 9) (z : Nat) : esv B k p z = esv A k p z := by
  have o : os2 (dzA B ((z : Nat) + 1)) k p = os2 (dzA A ((z : Nat) + 1)) k p := by
    funext i
    show f_op (B 9 i) _ k p = f_op (A 9 i) _ k p
    rw [h]
    rfl
  have b : ob2 (dzA B ((z : Nat) + 1)) k p = ob2 (dzA A ((z : Nat) + 1)) k p := by
    unfold ob2
    rw [o]
    rfl
  unfold esv NSp
  rw [o, b]
theorem m92_l {k p : Int} {n : Nat} (k0 : 0 ≤ k) (k1 : k ≤ 2) (p0 : 0 ≤ p) (p1 : p ≤ 1000) (hn : n ≤ 30) : ∀ (d i : Nat) (A : Nat → Nat → Int) (F : Nat → Int), i + d = n → Nm A → ∃ (B : Nat → Nat → Int) (G : Nat → Int), Fm A B ∧ G 0 = F 0 ∧ sw_A 92 25 [some (.ref 1), some (.int (Int32.ofInt k)), some (.int (Int32.ofInt p)), some (.int (Int32.ofInt n)), some (.int (Int32.ofInt (su (esv A k p) i))), some (.int (Int32.ofInt ((i : Int) + 1)))] [] (sw_h L A F T X) Q = Q (some (some (.int (Int32.ofInt (su (esv A k p) n))))) (sw_h L B G T X)
  | 0, i, A, F, hd, hA => by
    have e : i = n := hd
    subst e
    refine ⟨A, F, Fm_r A, rfl, ?_⟩
    rw [r92_25]
    simp (disch := omega) only [r92_27, r92_28, r92_82, r92_84, sw_ldi, sw_ldl, sw_lda, sw_has1, sw_i1, sw_i2, sw_l1, sw_l2, sw_li, sw_r1, sw_ri, sw_rix, sw_rv, sw_pop, sw_set1, sw_set2, List.set_cons_zero, List.set_cons_succ, List.getElem?_cons_zero, List.getElem?_cons_succ, ald_1, ald_2, ast_1, ast_2, aln_1, aln_2, gf_1, gf_2, pf_1, pf_2, nw_1, ck_0, ck_1, ck_2, ck_3, ck_4, rr_1, rc_1, rc_2, K_i, K_l, K_v, I_add, I_sub, I_mul, I_div, I_em, I_eq0, I_lt0, I_0lt, I_le0, I_0le, I_eq, I_lt, I_le, I_a1, I_r1, I_eq1, I32_at, I32_s, Int.toNat_natCast, List.set_cons_zero, reduceCtorEq, not_false_eq_true, not_true_eq_false, false_and, true_and, and_true, and_false, false_or, true_or, or_true, or_false, if_true, if_false, eq_self, ↓reduceIte, Int.reduceEq, Int.reduceLT, Int.reduceLE, Int.reduceAdd, Int.reduceSub, Int.reduceMul, Int.reduceNeg, Int.reduceToNat, Nat.reduceLT, Nat.reduceAdd, Nat.reduceEqDiff, List.length_cons, List.length_nil]
    rw [if_pos (by omega)]
  | d + 1, i, A, F, hd, hA => by
    have hz : 0 ≤ ((i : Int) + 1) ∧ ((i : Int) + 1) < 65536 := by omega
    have md := m19_5 (L := L) (A := A) (F := F) (T := T) (X := X) (Q := sw_K 92 40 none [some (.ref 1), some (.int (Int32.ofInt k)), some (.int (Int32.ofInt p)), some (.int (Int32.ofInt n)), some (.int (Int32.ofInt (su (esv A k p) i))), some (.int (Int32.ofInt ((i : Int) + 1)))] [] Q) hz
    generalize hC : sw_s (sw_s A 6 (mix 60 (fun k => dz ((i : Int) + 1) (k + 1) % 1000) (A 6))) 7 (mix 36 (fun k => dz ((i : Int) + 1) (61 + k) % 1000) (A 7)) = C at md
    have c9 : C 9 = A 9 := by rw [← hC]; rfl
    have c6 : ∀ b, b < 60 → C 6 b = dz ((i : Int) + 1) (b + 1) % 1000 := fun b hb2 => by
      rw [← hC]
      exact mix_at (f := fun k => dz ((i : Int) + 1) (k + 1) % 1000) (g := A 6) hb2
    have c7 : ∀ b, b < 36 → C 7 b = dz ((i : Int) + 1) (61 + b) % 1000 := fun b hb2 => by
      rw [← hC]
      exact mix_at (f := fun k => dz ((i : Int) + 1) (61 + k) % 1000) (g := A 7) hb2
    have fC : Fm A C := by rw [← hC]; exact Fm_2 rfl rfl
    have mo := m87_5 (L := L) (A := C) (F := F) (T := T) (X := X) (Q := sw_K 92 60 none [some (.ref 1), some (.int (Int32.ofInt k)), some (.int (Int32.ofInt p)), some (.int (Int32.ofInt n)), some (.int (Int32.ofInt (su (esv A k p) i))), some (.int (Int32.ofInt ((i : Int) + 1)))] [] Q) (k := k) (p := p) (fun t ht => by rw [c9]; exact hA.2.2 t ht) (fun t ht => by rw [c7 t ht]; omega) (fun t ht => by rw [c6 t ht]; omega) k0 k1 p0 p1
    have o5 : ∀ t, t < 36 → os5 C k p t = os2 (dzA A ((i : Int) + 1)) k p t := fun t ht => by
      show f_op (C 9 t) (C 7 t) k p = f_op (A 9 t) (dz ((i : Int) + 1) (61 + t) % 1000) k p
      rw [c9, c7 t ht]
    have b5 : ∀ b, b < 60 → ob5 C k p b = ob2 (dzA A ((i : Int) + 1)) k p b := fun b hb2 => by
      show f_ob (os5 C k p (lo b)) (os5 C k p (hi b)) (C 6 b) k p = f_ob (os2 (dzA A ((i : Int) + 1)) k p (lo b)) (os2 (dzA A ((i : Int) + 1)) k p (hi b)) (dz ((i : Int) + 1) (b + 1) % 1000) k p
      rw [o5 _ (lo_lt hb2).1, o5 _ (hi_lt hb2).1, c6 b hb2]
    generalize hD : sw_s (sw_s C 17 (mix 36 (os5 C k p) (C 17))) 18 (mix 60 (ob5 C k p) (C 18)) = D at mo
    have d17 : ∀ t, t < 36 → D 17 t = os2 (dzA A ((i : Int) + 1)) k p t := fun t ht => by
      rw [← hD, ← o5 t ht]
      exact mix_at ht
    have d18 : ∀ b, b < 60 → D 18 b = ob2 (dzA A ((i : Int) + 1)) k p b := fun b hb2 => by
      rw [← hD, ← b5 b hb2]
      exact mix_at hb2
    have fD : Fm A D := by rw [← hD]; exact Fm_t fC (Fm_2 rfl rfl)
    obtain ⟨σ, g1, g2⟩ := m91 (L := L) (A := D) (F := F) (T := T) (X := X) (Q := sw_K 92 69 none [some (.ref 1), some (.int (Int32.ofInt k)), some (.int (Int32.ofInt p)), some (.int (Int32.ofInt n)), some (.int (Int32.ofInt (su (esv A k p) i))), some (.int (Int32.ofInt ((i : Int) + 1)))] [] Q) (fr := 1) (to := 2) (by omega) (by omega) (by omega) (by omega) (fun t ht => by rw [d17 t ht]; exact os2_b t) (fun b hb2 => by rw [d18 b hb2]; exact ob2_b b)
    have ln := lst_NS (to := 2) (BD_c d18 (S2 := Sd (os2 (dzA A ((i : Int) + 1)) k p) 1) (fun t ht => by unfold Sd; rw [d17 t ht]) g1)
    have lb := lst_b (st := σ.1) (to := 2) 36 g1.1
    have fE : Fm A (sw_s (sw_s D 19 σ.1) 21 σ.2.1) := Fm_t fD (Fm_2 rfl rfl)
    have ecg : ∀ z, esv (sw_s (sw_s D 19 σ.1) 21 σ.2.1) k p z = esv A k p z := fun z => esv_c fE.2.2.2.1 z
    obtain ⟨B, G, k2, k3, k4⟩ := m92_l k0 k1 p0 p1 hn d (i + 1) (sw_s (sw_s D 19 σ.1) 21 σ.2.1) (sw_s (sw_s F 8 σ.2.2) 9 σ.2.2) (by omega) (Nm_m hA fE)
    rw [su_c (i + 1) fun z _ => ecg z, su_c n fun z _ => ecg z] at k4
    have e1 : su (esv A k p) (i + 1) = su (esv A k p) i + esv A k p i := rfl
    rw [e1] at k4
    refine ⟨B, G, Fm_t fE k2, k3, Eq.trans ?_ k4⟩
    rw [r92_25]
    simp (disch := omega) only [r92_27, r92_28, r92_31, r92_32, r92_35, sw_ldi, sw_ldl, sw_lda, sw_has1, sw_i1, sw_i2, sw_l1, sw_l2, sw_li, sw_r1, sw_ri, sw_rix, sw_rv, sw_pop, sw_set1, sw_set2, List.set_cons_zero, List.set_cons_succ, List.getElem?_cons_zero, List.getElem?_cons_succ, ald_1, ald_2, ast_1, ast_2, aln_1, aln_2, gf_1, gf_2, pf_1, pf_2, nw_1, ck_0, ck_1, ck_2, ck_3, ck_4, rr_1, rc_1, rc_2, K_i, K_l, K_v, I_add, I_sub, I_mul, I_div, I_em, I_eq0, I_lt0, I_0lt, I_le0, I_0le, I_eq, I_lt, I_le, I_a1, I_r1, I_eq1, I32_at, I32_s, Int.toNat_natCast, List.set_cons_zero, reduceCtorEq, not_false_eq_true, not_true_eq_false, false_and, true_and, and_true, and_false, false_or, true_or, or_true, or_false, if_true, if_false, eq_self, ↓reduceIte, Int.reduceEq, Int.reduceLT, Int.reduceLE, Int.reduceAdd, Int.reduceSub, Int.reduceMul, Int.reduceNeg, Int.reduceToNat, Nat.reduceLT, Nat.reduceAdd, Nat.reduceEqDiff, List.length_cons, List.length_nil, h_1]
    rw [if_neg (by omega), r92_37]
    simp (disch := omega) only [sw_ldi, sw_ldl, sw_lda, sw_has1, sw_i1, sw_i2, sw_l1, sw_l2, sw_li, sw_r1, sw_ri, sw_rix, sw_rv, sw_pop, sw_set1, sw_set2, List.set_cons_zero, List.set_cons_succ, List.getElem?_cons_zero, List.getElem?_cons_succ, ald_1, ald_2, ast_1, ast_2, aln_1, aln_2, gf_1, gf_2, pf_1, pf_2, nw_1, ck_0, ck_1, ck_2, ck_3, ck_4, rr_1, rc_1, rc_2, K_i, K_l, K_v, I_add, I_sub, I_mul, I_div, I_em, I_eq0, I_lt0, I_0lt, I_le0, I_0le, I_eq, I_lt, I_le, I_a1, I_r1, I_eq1, I32_at, I32_s, Int.toNat_natCast, List.set_cons_zero, reduceCtorEq, not_false_eq_true, not_true_eq_false, false_and, true_and, and_true, and_false, false_or, true_or, or_true, or_false, if_true, if_false, eq_self, ↓reduceIte, Int.reduceEq, Int.reduceLT, Int.reduceLE, Int.reduceAdd, Int.reduceSub, Int.reduceMul, Int.reduceNeg, Int.reduceToNat, Nat.reduceLT, Nat.reduceAdd, Nat.reduceEqDiff, List.length_cons, List.length_nil, h_5]
    rw [md]
    simp (disch := omega) only [r92_40, r92_41, r92_44, r92_45, r92_48, r92_49, r92_52, r92_55, r92_56, sw_ldi, sw_ldl, sw_lda, sw_has1, sw_i1, sw_i2, sw_l1, sw_l2, sw_li, sw_r1, sw_ri, sw_rix, sw_rv, sw_pop, sw_set1, sw_set2, List.set_cons_zero, List.set_cons_succ, List.getElem?_cons_zero, List.getElem?_cons_succ, ald_1, ald_2, ast_1, ast_2, aln_1, aln_2, gf_1, gf_2, pf_1, pf_2, nw_1, ck_0, ck_1, ck_2, ck_3, ck_4, rr_1, rc_1, rc_2, K_i, K_l, K_v, I_add, I_sub, I_mul, I_div, I_em, I_eq0, I_lt0, I_0lt, I_le0, I_0le, I_eq, I_lt, I_le, I_a1, I_r1, I_eq1, I32_at, I32_s, Int.toNat_natCast, List.set_cons_zero, reduceCtorEq, not_false_eq_true, not_true_eq_false, false_and, true_and, and_true, and_false, false_or, true_or, or_true, or_false, if_true, if_false, eq_self, ↓reduceIte, Int.reduceEq, Int.reduceLT, Int.reduceLE, Int.reduceAdd, Int.reduceSub, Int.reduceMul, Int.reduceNeg, Int.reduceToNat, Nat.reduceLT, Nat.reduceAdd, Nat.reduceEqDiff, List.length_cons, List.length_nil, h_1, h_8]
    rw [r92_57]
    simp (disch := omega) only [sw_ldi, sw_ldl, sw_lda, sw_has1, sw_i1, sw_i2, sw_l1, sw_l2, sw_li, sw_r1, sw_ri, sw_rix, sw_rv, sw_pop, sw_set1, sw_set2, List.set_cons_zero, List.set_cons_succ, List.getElem?_cons_zero, List.getElem?_cons_succ, ald_1, ald_2, ast_1, ast_2, aln_1, aln_2, gf_1, gf_2, pf_1, pf_2, nw_1, ck_0, ck_1, ck_2, ck_3, ck_4, rr_1, rc_1, rc_2, K_i, K_l, K_v, I_add, I_sub, I_mul, I_div, I_em, I_eq0, I_lt0, I_0lt, I_le0, I_0le, I_eq, I_lt, I_le, I_a1, I_r1, I_eq1, I32_at, I32_s, Int.toNat_natCast, List.set_cons_zero, reduceCtorEq, not_false_eq_true, not_true_eq_false, false_and, true_and, and_true, and_false, false_or, true_or, or_true, or_false, if_true, if_false, eq_self, ↓reduceIte, Int.reduceEq, Int.reduceLT, Int.reduceLE, Int.reduceAdd, Int.reduceSub, Int.reduceMul, Int.reduceNeg, Int.reduceToNat, Nat.reduceLT, Nat.reduceAdd, Nat.reduceEqDiff, List.length_cons, List.length_nil, h_16]
    rw [mo]
    simp (disch := omega) only [r92_60, r92_61, r92_64, r92_65, sw_ldi, sw_ldl, sw_lda, sw_has1, sw_i1, sw_i2, sw_l1, sw_l2, sw_li, sw_r1, sw_ri, sw_rix, sw_rv, sw_pop, sw_set1, sw_set2, List.set_cons_zero, List.set_cons_succ, List.getElem?_cons_zero, List.getElem?_cons_succ, ald_1, ald_2, ast_1, ast_2, aln_1, aln_2, gf_1, gf_2, pf_1, pf_2, nw_1, ck_0, ck_1, ck_2, ck_3, ck_4, rr_1, rc_1, rc_2, K_i, K_l, K_v, I_add, I_sub, I_mul, I_div, I_em, I_eq0, I_lt0, I_0lt, I_le0, I_0le, I_eq, I_lt, I_le, I_a1, I_r1, I_eq1, I32_at, I32_s, Int.toNat_natCast, List.set_cons_zero, reduceCtorEq, not_false_eq_true, not_true_eq_false, false_and, true_and, and_true, and_false, false_or, true_or, or_true, or_false, if_true, if_false, eq_self, ↓reduceIte, Int.reduceEq, Int.reduceLT, Int.reduceLE, Int.reduceAdd, Int.reduceSub, Int.reduceMul, Int.reduceNeg, Int.reduceToNat, Nat.reduceLT, Nat.reduceAdd, Nat.reduceEqDiff, List.length_cons, List.length_nil, h_1]
    rw [r92_66]
    simp (disch := omega) only [sw_ldi, sw_ldl, sw_lda, sw_has1, sw_i1, sw_i2, sw_l1, sw_l2, sw_li, sw_r1, sw_ri, sw_rix, sw_rv, sw_pop, sw_set1, sw_set2, List.set_cons_zero, List.set_cons_succ, List.getElem?_cons_zero, List.getElem?_cons_succ, ald_1, ald_2, ast_1, ast_2, aln_1, aln_2, gf_1, gf_2, pf_1, pf_2, nw_1, ck_0, ck_1, ck_2, ck_3, ck_4, rr_1, rc_1, rc_2, K_i, K_l, K_v, I_add, I_sub, I_mul, I_div, I_em, I_eq0, I_lt0, I_0lt, I_le0, I_0le, I_eq, I_lt, I_le, I_a1, I_r1, I_eq1, I32_at, I32_s, Int.toNat_natCast, List.set_cons_zero, reduceCtorEq, not_false_eq_true, not_true_eq_false, false_and, true_and, and_true, and_false, false_or, true_or, or_true, or_false, if_true, if_false, eq_self, ↓reduceIte, Int.reduceEq, Int.reduceLT, Int.reduceLE, Int.reduceAdd, Int.reduceSub, Int.reduceMul, Int.reduceNeg, Int.reduceToNat, Nat.reduceLT, Nat.reduceAdd, Nat.reduceEqDiff, List.length_cons, List.length_nil, h_16]
    rw [g2]
    unfold hB
    by_cases ns : NSp (dzA A ((i : Int) + 1)) k p 1 2
    · have ev : esv A k p i = 0 := if_pos ns
      rw [ev, ln.mpr ns]
      simp (disch := omega) only [r92_69, r92_70, r92_76, r92_79, sw_ldi, sw_ldl, sw_lda, sw_has1, sw_i1, sw_i2, sw_l1, sw_l2, sw_li, sw_r1, sw_ri, sw_rix, sw_rv, sw_pop, sw_set1, sw_set2, List.set_cons_zero, List.set_cons_succ, List.getElem?_cons_zero, List.getElem?_cons_succ, ald_1, ald_2, ast_1, ast_2, aln_1, aln_2, gf_1, gf_2, pf_1, pf_2, nw_1, ck_0, ck_1, ck_2, ck_3, ck_4, rr_1, rc_1, rc_2, K_i, K_l, K_v, I_add, I_sub, I_mul, I_div, I_em, I_eq0, I_lt0, I_0lt, I_le0, I_0le, I_eq, I_lt, I_le, I_a1, I_r1, I_eq1, I32_at, I32_s, Int.toNat_natCast, List.set_cons_zero, reduceCtorEq, not_false_eq_true, not_true_eq_false, false_and, true_and, and_true, and_false, false_or, true_or, or_true, or_false, if_true, if_false, eq_self, ↓reduceIte, Int.reduceEq, Int.reduceLT, Int.reduceLE, Int.reduceAdd, Int.reduceSub, Int.reduceMul, Int.reduceNeg, Int.reduceToNat, Nat.reduceLT, Nat.reduceAdd, Nat.reduceEqDiff, List.length_cons, List.length_nil, Int.add_zero]
      rfl
    · have ev : esv A k p i = 1 := if_neg ns
      have nl : ¬ lst σ.1 2 36 = -1 := fun q => ns (ln.mp q)
      rw [ev]
      simp (disch := omega) only [r92_69, r92_70, sw_ldi, sw_ldl, sw_lda, sw_has1, sw_i1, sw_i2, sw_l1, sw_l2, sw_li, sw_r1, sw_ri, sw_rix, sw_rv, sw_pop, sw_set1, sw_set2, List.set_cons_zero, List.set_cons_succ, List.getElem?_cons_zero, List.getElem?_cons_succ, ald_1, ald_2, ast_1, ast_2, aln_1, aln_2, gf_1, gf_2, pf_1, pf_2, nw_1, ck_0, ck_1, ck_2, ck_3, ck_4, rr_1, rc_1, rc_2, K_i, K_l, K_v, I_add, I_sub, I_mul, I_div, I_em, I_eq0, I_lt0, I_0lt, I_le0, I_0le, I_eq, I_lt, I_le, I_a1, I_r1, I_eq1, I32_at, I32_s, Int.toNat_natCast, List.set_cons_zero, reduceCtorEq, not_false_eq_true, not_true_eq_false, false_and, true_and, and_true, and_false, false_or, true_or, or_true, or_false, if_true, if_false, eq_self, ↓reduceIte, Int.reduceEq, Int.reduceLT, Int.reduceLE, Int.reduceAdd, Int.reduceSub, Int.reduceMul, Int.reduceNeg, Int.reduceToNat, Nat.reduceLT, Nat.reduceAdd, Nat.reduceEqDiff, List.length_cons, List.length_nil]
      rw [if_neg nl]
      simp (disch := omega) only [r92_73, r92_76, r92_79, sw_ldi, sw_ldl, sw_lda, sw_has1, sw_i1, sw_i2, sw_l1, sw_l2, sw_li, sw_r1, sw_ri, sw_rix, sw_rv, sw_pop, sw_set1, sw_set2, List.set_cons_zero, List.set_cons_succ, List.getElem?_cons_zero, List.getElem?_cons_succ, ald_1, ald_2, ast_1, ast_2, aln_1, aln_2, gf_1, gf_2, pf_1, pf_2, nw_1, ck_0, ck_1, ck_2, ck_3, ck_4, rr_1, rc_1, rc_2, K_i, K_l, K_v, I_add, I_sub, I_mul, I_div, I_em, I_eq0, I_lt0, I_0lt, I_le0, I_0le, I_eq, I_lt, I_le, I_a1, I_r1, I_eq1, I32_at, I32_s, Int.toNat_natCast, List.set_cons_zero, reduceCtorEq, not_false_eq_true, not_true_eq_false, false_and, true_and, and_true, and_false, false_or, true_or, or_true, or_false, if_true, if_false, eq_self, ↓reduceIte, Int.reduceEq, Int.reduceLT, Int.reduceLE, Int.reduceAdd, Int.reduceSub, Int.reduceMul, Int.reduceNeg, Int.reduceToNat, Nat.reduceLT, Nat.reduceAdd, Nat.reduceEqDiff, List.length_cons, List.length_nil]
      rfl
/-- estimate -/
theorem m92 {k p : Int} {n : Nat} (hA : Nm A) (k0 : 0 ≤ k) (k1 : k ≤ 2) (p0 : 0 ≤ p) (p1 : p ≤ 1000) (n0 : 1 ≤ n) (hn : n ≤ 30)
    (hQ : ∀ (B : Nat → Nat → Int) (G : Nat → Int), Fm A B → G 0 = F 0 → Q (some (some (.int (Int32.ofInt (su (esv A k p) n))))) (sw_h L B G T X)) :
    sw_M 92 [.ref 1, .int (Int32.ofInt k), .int (Int32.ofInt p), .int (Int32.ofInt n)] (sw_h L A F T X) Q := by
  obtain ⟨B, G, g1, g2, g3⟩ := m92_l (L := L) (T := T) (X := X) (Q := Q) k0 k1 p0 p1 hn n 0 A F (by omega) hA
  have hq := hQ B G g1 g2
  rw [e92]
  simp (disch := omega) only [r92_0, r92_1, r92_4, r92_5, r92_6, r92_9, r92_12, r92_13, r92_14, r92_16, r92_19, r92_20, r92_22, r92_23, sw_ldi, sw_ldl, sw_lda, sw_has1, sw_i1, sw_i2, sw_l1, sw_l2, sw_li, sw_r1, sw_ri, sw_rix, sw_rv, sw_pop, sw_set1, sw_set2, List.set_cons_zero, List.set_cons_succ, List.getElem?_cons_zero, List.getElem?_cons_succ, ald_1, ald_2, ast_1, ast_2, aln_1, aln_2, gf_1, gf_2, pf_1, pf_2, nw_1, ck_0, ck_1, ck_2, ck_3, ck_4, rr_1, rc_1, rc_2, K_i, K_l, K_v, I_add, I_sub, I_mul, I_div, I_em, I_eq0, I_lt0, I_0lt, I_le0, I_0le, I_eq, I_lt, I_le, I_a1, I_r1, I_eq1, I32_at, I32_s, Int.toNat_natCast, List.set_cons_zero, reduceCtorEq, not_false_eq_true, not_true_eq_false, false_and, true_and, and_true, and_false, false_or, true_or, or_true, or_false, if_true, if_false, eq_self, ↓reduceIte, Int.reduceEq, Int.reduceLT, Int.reduceLE, Int.reduceAdd, Int.reduceSub, Int.reduceMul, Int.reduceNeg, Int.reduceToNat, Nat.reduceLT, Nat.reduceAdd, Nat.reduceEqDiff, List.length_cons, List.length_nil, m84, m17, h_1]
  exact cast (Eq.symm g3) hq
end sw_sc
