/-! side, through -/
def sx (w k : Nat) : Nat := if w = 0 then 6 * k else if w = 1 then 6 * k + 5 else if w = 2 then k else 30 + k
def sdp (w : Nat) : Nat → Int64
  | 0 => 0
  | n + 1 => wb (sdp w n) (sx w n)
def dirOf (w : Nat) : Int := if w = 0 then 1 else if w = 1 then 2 else if w = 2 then 0 else 3
theorem sdp_v (w : Nat) : ∀ n, n ≤ 6 → ∀ j, j < 64 → (hb (sdp w n) j = true ↔ ∃ k, k < n ∧ j = sx w k)
  | 0, _, j, _ => ⟨fun h => (by rw [show sdp w 0 = 0 from rfl, hb_0] at h; cases h), fun ⟨k, h, _⟩ => absurd h (Nat.not_lt_zero _)⟩
  | n + 1, hn, j, hj => by
    have ih := sdp_v w n (by omega) j hj
    have hs : sx w n < 64 := by unfold sx; (repeat' split) <;> omega
    show hb (wb (sdp w n) (sx w n)) j = true ↔ _
    rw [hb_wb _ _ j hs hj, Bool.or_eq_true, ih]
    constructor
    · rintro (⟨k, h, e⟩ | h)
      · exact ⟨k, by omega, e⟩
      · exact ⟨n, by omega, of_decide_eq_true h⟩
    · rintro ⟨k, h, e⟩
      by_cases c : k = n
      · subst c; exact Or.inr (decide_eq_true e)
      · exact Or.inl ⟨k, by omega, e⟩
theorem sd_fin : ∀ w, w < 4 → ∀ j, j < 64 → ((List.range 6).any (fun k => decide (j = sx w k)) = decide (j < 36 ∧ f_os (j : Nat) (dirOf w) = 1)) := by decide +kernel
/-- the set of a side -/
def sdv (w : Nat) : Int64 := sdp w 6
theorem sdv_v {w j : Nat} (hw : w < 4) (hj : j < 64) : hb (sdv w) j = true ↔ (j < 36 ∧ f_os j (dirOf w) = 1) := by
  have h := sd_fin w hw j hj
  unfold sdv
  rw [sdp_v w 6 (Nat.le_refl _) j hj]
  have e : (∃ k, k < 6 ∧ j = sx w k) ↔ (List.range 6).any (fun k => decide (j = sx w k)) = true := by
    rw [List.any_eq_true]
    constructor
    · rintro ⟨k, h1, h2⟩; exact ⟨k, List.mem_range.mpr h1, decide_eq_true h2⟩
    · rintro ⟨k, h1, h2⟩; exact ⟨k, List.mem_range.mp h1, of_decide_eq_true h2⟩
  rw [e, h, decide_eq_true_iff]
theorem ck_i5 {a b : Int32} {l : Int64} {x y : Nat} {K : Prop} : sw_ck False [.int a, .int b, .long l, .ref x, .ref y] K = K := if_pos (Nat.le_of_ble_eq_true rfl)
section sw_s5
variable {H : sw_HS} {Q : sw_Ot → sw_HS → Prop} {rb rs : Nat} {nb ns : Nat → Int} {shut : Int64} {k p : Int}
theorem m69_l {w : Nat} (hw : w < 4) : ∀ (n i : Nat), i + n = 6 → sw_A 69 4 [some (.int (Int32.ofInt w)), some (.long (sdp w i)), none, some (.int (Int32.ofInt i))] [] H Q = Q (some (some (.long (sdv w)))) H
  | 0, i, hn => by
    have e : i = 6 := hn
    subst e
    rw [r69_4]
    simp (disch := omega) only [r69_5, r69_7, r69_59, r69_60, sw_ldi, sw_ldl, sw_lda, sw_has1, sw_i1, sw_i2, sw_l1, sw_l2, sw_li, sw_r1, sw_ri, sw_rix, sw_rv, sw_pop, sw_set1, sw_set2, List.set_cons_zero, List.set_cons_succ, List.getElem?_cons_zero, List.getElem?_cons_succ, ald_1, ald_2, ast_1, ast_2, aln_1, aln_2, gf_1, gf_2, pf_1, pf_2, nw_1, ck_0, ck_1, ck_2, ck_3, ck_4, rr_1, rc_1, rc_2, K_i, K_l, K_v, I_add, I_sub, I_mul, I_div, I_em, I_eq0, I_lt0, I_0lt, I_le0, I_0le, I_eq, I_lt, I_le, I_a1, I_r1, I_eq1, I32_at, I32_s, Int.toNat_natCast, List.set_cons_zero, reduceCtorEq, not_false_eq_true, not_true_eq_false, false_and, true_and, and_true, and_false, false_or, true_or, or_true, or_false, if_true, if_false, eq_self, ↓reduceIte, Int.reduceEq, Int.reduceLT, Int.reduceLE, Int.reduceAdd, Int.reduceSub, Int.reduceMul, Int.reduceNeg, Int.reduceToNat, Nat.reduceLT, Nat.reduceAdd, Nat.reduceEqDiff, List.length_cons, List.length_nil, Int.le_refl]
    rfl
  | n + 1, i, hn => by
    have ih := m69_l hw n (i + 1) (by omega)
    have e : sdp w (i + 1) = wb (sdp w i) (sx w i) := rfl
    rw [e] at ih
    have hd : w = 0 ∨ w = 1 ∨ w = 2 ∨ w = 3 := by omega
    rw [r69_4]
    rcases hd with rfl | rfl | rfl | rfl
    · simp (disch := omega) only [r69_5, r69_7, r69_10, r69_11, r69_12, r69_13, r69_16, r69_18, r69_19, r69_20, r69_23, r69_24, r69_25, r69_28, r69_30, r69_31, r69_32, r69_33, r69_34, r69_37, r69_38, r69_39, r69_42, r69_43, r69_46, r69_48, r69_49, r69_50, r69_51, r69_52, r69_53, r69_56, sw_ldi, sw_ldl, sw_lda, sw_has1, sw_i1, sw_i2, sw_l1, sw_l2, sw_li, sw_r1, sw_ri, sw_rix, sw_rv, sw_pop, sw_set1, sw_set2, List.set_cons_zero, List.set_cons_succ, List.getElem?_cons_zero, List.getElem?_cons_succ, ald_1, ald_2, ast_1, ast_2, aln_1, aln_2, gf_1, gf_2, pf_1, pf_2, nw_1, ck_0, ck_1, ck_2, ck_3, ck_4, rr_1, rc_1, rc_2, K_i, K_l, K_v, I_add, I_sub, I_mul, I_div, I_em, I_eq0, I_lt0, I_0lt, I_le0, I_0le, I_eq, I_lt, I_le, I_a1, I_r1, I_eq1, I32_at, I32_s, Int.toNat_natCast, List.set_cons_zero, reduceCtorEq, not_false_eq_true, not_true_eq_false, false_and, true_and, and_true, and_false, false_or, true_or, or_true, or_false, if_true, if_false, eq_self, ↓reduceIte, Int.reduceEq, Int.reduceLT, Int.reduceLE, Int.reduceAdd, Int.reduceSub, Int.reduceMul, Int.reduceNeg, Int.reduceToNat, Nat.reduceLT, Nat.reduceAdd, Nat.reduceEqDiff, List.length_cons, List.length_nil]
      rw [if_neg (by omega)]
      exact ih
    · simp (disch := omega) only [r69_5, r69_7, r69_10, r69_11, r69_12, r69_13, r69_16, r69_18, r69_19, r69_20, r69_23, r69_24, r69_25, r69_28, r69_30, r69_31, r69_32, r69_33, r69_34, r69_37, r69_38, r69_39, r69_42, r69_43, r69_46, r69_48, r69_49, r69_50, r69_51, r69_52, r69_53, r69_56, sw_ldi, sw_ldl, sw_lda, sw_has1, sw_i1, sw_i2, sw_l1, sw_l2, sw_li, sw_r1, sw_ri, sw_rix, sw_rv, sw_pop, sw_set1, sw_set2, List.set_cons_zero, List.set_cons_succ, List.getElem?_cons_zero, List.getElem?_cons_succ, ald_1, ald_2, ast_1, ast_2, aln_1, aln_2, gf_1, gf_2, pf_1, pf_2, nw_1, ck_0, ck_1, ck_2, ck_3, ck_4, rr_1, rc_1, rc_2, K_i, K_l, K_v, I_add, I_sub, I_mul, I_div, I_em, I_eq0, I_lt0, I_0lt, I_le0, I_0le, I_eq, I_lt, I_le, I_a1, I_r1, I_eq1, I32_at, I32_s, Int.toNat_natCast, List.set_cons_zero, reduceCtorEq, not_false_eq_true, not_true_eq_false, false_and, true_and, and_true, and_false, false_or, true_or, or_true, or_false, if_true, if_false, eq_self, ↓reduceIte, Int.reduceEq, Int.reduceLT, Int.reduceLE, Int.reduceAdd, Int.reduceSub, Int.reduceMul, Int.reduceNeg, Int.reduceToNat, Nat.reduceLT, Nat.reduceAdd, Nat.reduceEqDiff, List.length_cons, List.length_nil]
      rw [if_neg (by omega)]
      exact ih
    · simp (disch := omega) only [r69_5, r69_7, r69_10, r69_11, r69_12, r69_13, r69_16, r69_18, r69_19, r69_20, r69_23, r69_24, r69_25, r69_28, r69_30, r69_31, r69_32, r69_33, r69_34, r69_37, r69_38, r69_39, r69_42, r69_43, r69_46, r69_48, r69_49, r69_50, r69_51, r69_52, r69_53, r69_56, sw_ldi, sw_ldl, sw_lda, sw_has1, sw_i1, sw_i2, sw_l1, sw_l2, sw_li, sw_r1, sw_ri, sw_rix, sw_rv, sw_pop, sw_set1, sw_set2, List.set_cons_zero, List.set_cons_succ, List.getElem?_cons_zero, List.getElem?_cons_succ, ald_1, ald_2, ast_1, ast_2, aln_1, aln_2, gf_1, gf_2, pf_1, pf_2, nw_1, ck_0, ck_1, ck_2, ck_3, ck_4, rr_1, rc_1, rc_2, K_i, K_l, K_v, I_add, I_sub, I_mul, I_div, I_em, I_eq0, I_lt0, I_0lt, I_le0, I_0le, I_eq, I_lt, I_le, I_a1, I_r1, I_eq1, I32_at, I32_s, Int.toNat_natCast, List.set_cons_zero, reduceCtorEq, not_false_eq_true, not_true_eq_false, false_and, true_and, and_true, and_false, false_or, true_or, or_true, or_false, if_true, if_false, eq_self, ↓reduceIte, Int.reduceEq, Int.reduceLT, Int.reduceLE, Int.reduceAdd, Int.reduceSub, Int.reduceMul, Int.reduceNeg, Int.reduceToNat, Nat.reduceLT, Nat.reduceAdd, Nat.reduceEqDiff, List.length_cons, List.length_nil]
      rw [if_neg (by omega)]
      exact ih
    · simp (disch := omega) only [r69_5, r69_7, r69_10, r69_11, r69_12, r69_13, r69_16, r69_18, r69_19, r69_20, r69_23, r69_24, r69_25, r69_28, r69_30, r69_31, r69_32, r69_33, r69_34, r69_37, r69_38, r69_39, r69_42, r69_43, r69_46, r69_48, r69_49, r69_50, r69_51, r69_52, r69_53, r69_56, sw_ldi, sw_ldl, sw_lda, sw_has1, sw_i1, sw_i2, sw_l1, sw_l2, sw_li, sw_r1, sw_ri, sw_rix, sw_rv, sw_pop, sw_set1, sw_set2, List.set_cons_zero, List.set_cons_succ, List.getElem?_cons_zero, List.getElem?_cons_succ, ald_1, ald_2, ast_1, ast_2, aln_1, aln_2, gf_1, gf_2, pf_1, pf_2, nw_1, ck_0, ck_1, ck_2, ck_3, ck_4, rr_1, rc_1, rc_2, K_i, K_l, K_v, I_add, I_sub, I_mul, I_div, I_em, I_eq0, I_lt0, I_0lt, I_le0, I_0le, I_eq, I_lt, I_le, I_a1, I_r1, I_eq1, I32_at, I32_s, Int.toNat_natCast, List.set_cons_zero, reduceCtorEq, not_false_eq_true, not_true_eq_false, false_and, true_and, and_true, and_false, false_or, true_or, or_true, or_false, if_true, if_false, eq_self, ↓reduceIte, Int.reduceEq, Int.reduceLT, Int.reduceLE, Int.reduceAdd, Int.reduceSub, Int.reduceMul, Int.reduceNeg, Int.reduceToNat, Nat.reduceLT, Nat.reduceAdd, Nat.reduceEqDiff, List.length_cons, List.length_nil]
      rw [if_neg (by omega)]
      exact ih
/-- side -/
theorem m69 {w : Nat} (hw : w < 4) : sw_M 69 [.int (Int32.ofInt w)] H Q = Q (some (some (.long (sdv w)))) H := by
  rw [e69]
  simp (disch := omega) only [r69_0, r69_1, r69_2, r69_3, sw_ldi, sw_ldl, sw_lda, sw_has1, sw_i1, sw_i2, sw_l1, sw_l2, sw_li, sw_r1, sw_ri, sw_rix, sw_rv, sw_pop, sw_set1, sw_set2, List.set_cons_zero, List.set_cons_succ, List.getElem?_cons_zero, List.getElem?_cons_succ, ald_1, ald_2, ast_1, ast_2, aln_1, aln_2, gf_1, gf_2, pf_1, pf_2, nw_1, ck_0, ck_1, ck_2, ck_3, ck_4, rr_1, rc_1, rc_2, K_i, K_l, K_v, I_add, I_sub, I_mul, I_div, I_em, I_eq0, I_lt0, I_0lt, I_le0, I_0le, I_eq, I_lt, I_le, I_a1, I_r1, I_eq1, I32_at, I32_s, Int.toNat_natCast, List.set_cons_zero, reduceCtorEq, not_false_eq_true, not_true_eq_false, false_and, true_and, and_true, and_false, false_or, true_or, or_true, or_false, if_true, if_false, eq_self, ↓reduceIte, Int.reduceEq, Int.reduceLT, Int.reduceLE, Int.reduceAdd, Int.reduceSub, Int.reduceMul, Int.reduceNeg, Int.reduceToNat, Nat.reduceLT, Nat.reduceAdd, Nat.reduceEqDiff, List.length_cons, List.length_nil]
  exact m69_l hw 6 0 (by omega)
theorem m69_0 : sw_M 69 [.int (Int32.ofInt 0)] H Q = Q (some (some (.long (sdv 0)))) H := m69 (w := 0) (by omega)
theorem m69_1 : sw_M 69 [.int (Int32.ofInt 1)] H Q = Q (some (some (.long (sdv 1)))) H := m69 (w := 1) (by omega)
theorem m69_2 : sw_M 69 [.int (Int32.ofInt 2)] H Q = Q (some (some (.long (sdv 2)))) H := m69 (w := 2) (by omega)
theorem m69_3 : sw_M 69 [.int (Int32.ofInt 3)] H Q = Q (some (some (.long (sdv 3)))) H := m69 (w := 3) (by omega)
/-- through -/
theorem m83 {dn wo : Int} (hd : dn = 0 ∨ dn = 1) (w0 : -1 ≤ wo) (w1 : wo < 60) (hb0 : H.1 rb = .inr (0, 60, I32 nb)) (hs0 : H.1 rs = .inr (0, 36, I32 ns)) (nb1 : ∀ i, i < 60 → 0 ≤ nb i ∧ nb i < 1000) (ns1 : ∀ i, i < 36 → 0 ≤ ns i ∧ ns i < 1000) (k0 : 0 ≤ k) (k1 : k ≤ 2) (p0 : -1 ≤ p) (p1 : p ≤ 1000) : ∃ r, Gr (leb nb ns shut k p wo) (gs shut (sdv (if dn = 0 then 0 else 2)) ns k p 36) r ∧ sw_M 83 [.ref rb, .ref rs, .long shut, .int (Int32.ofInt k), .int (Int32.ofInt p), .int (Int32.ofInt dn), .int (Int32.ofInt wo)] H Q = Q (some (some (.int (Int32.ofInt (if r &&& sdv (if dn = 0 then 1 else 3) = 0 then 0 else 1))))) H := by
  rcases hd with rfl | rfl
  · rw [if_pos rfl, if_pos rfl]
    obtain ⟨r, g1, g2⟩ := m82 (H := H) (frm := sdv 0) (shut := shut) (Q := sw_K 83 25 none [some (.ref rb), some (.ref rs), some (.long shut), none, some (.int (Int32.ofInt k)), some (.int (Int32.ofInt p)), some (.int (Int32.ofInt 0)), some (.int (Int32.ofInt wo))] [] Q) w0 w1 hb0 hs0 nb1 ns1 k0 k1 p0 p1
    refine ⟨r, g1, ?_⟩
    rw [e83]
    simp (disch := omega) only [r83_0, r83_1, r83_2, r83_3, r83_5, r83_7, r83_9, r83_12, r83_13, r83_16, r83_17, r83_20, r83_22, sw_ldi, sw_ldl, sw_lda, sw_has1, sw_i1, sw_i2, sw_l1, sw_l2, sw_li, sw_r1, sw_ri, sw_rix, sw_rv, sw_pop, sw_set1, sw_set2, List.set_cons_zero, List.set_cons_succ, List.getElem?_cons_zero, List.getElem?_cons_succ, ald_1, ald_2, ast_1, ast_2, aln_1, aln_2, gf_1, gf_2, pf_1, pf_2, nw_1, ck_0, ck_1, ck_2, ck_3, ck_4, rr_1, rc_1, rc_2, K_i, K_l, K_v, I_add, I_sub, I_mul, I_div, I_em, I_eq0, I_lt0, I_0lt, I_le0, I_0le, I_eq, I_lt, I_le, I_a1, I_r1, I_eq1, I32_at, I32_s, Int.toNat_natCast, List.set_cons_zero, reduceCtorEq, not_false_eq_true, not_true_eq_false, false_and, true_and, and_true, and_false, false_or, true_or, or_true, or_false, if_true, if_false, eq_self, ↓reduceIte, Int.reduceEq, Int.reduceLT, Int.reduceLE, Int.reduceAdd, Int.reduceSub, Int.reduceMul, Int.reduceNeg, Int.reduceToNat, Nat.reduceLT, Nat.reduceAdd, Nat.reduceEqDiff, List.length_cons, List.length_nil, m69_0, ck_i5]
    rw [g2]
    simp (disch := omega) only [r83_25, r83_27, r83_30, r83_31, r83_34, r83_35, r83_38, r83_39, r83_40, sw_ldi, sw_ldl, sw_lda, sw_has1, sw_i1, sw_i2, sw_l1, sw_l2, sw_li, sw_r1, sw_ri, sw_rix, sw_rv, sw_pop, sw_set1, sw_set2, List.set_cons_zero, List.set_cons_succ, List.getElem?_cons_zero, List.getElem?_cons_succ, ald_1, ald_2, ast_1, ast_2, aln_1, aln_2, gf_1, gf_2, pf_1, pf_2, nw_1, ck_0, ck_1, ck_2, ck_3, ck_4, rr_1, rc_1, rc_2, K_i, K_l, K_v, I_add, I_sub, I_mul, I_div, I_em, I_eq0, I_lt0, I_0lt, I_le0, I_0le, I_eq, I_lt, I_le, I_a1, I_r1, I_eq1, I32_at, I32_s, Int.toNat_natCast, List.set_cons_zero, reduceCtorEq, not_false_eq_true, not_true_eq_false, false_and, true_and, and_true, and_false, false_or, true_or, or_true, or_false, if_true, if_false, eq_self, ↓reduceIte, Int.reduceEq, Int.reduceLT, Int.reduceLE, Int.reduceAdd, Int.reduceSub, Int.reduceMul, Int.reduceNeg, Int.reduceToNat, Nat.reduceLT, Nat.reduceAdd, Nat.reduceEqDiff, List.length_cons, List.length_nil, m69_1]
    rw [r83_41]
    simp only [sw_i1]
    rw [show Int64.ofNat 0 = 0 from rfl]
    by_cases c : r &&& sdv 1 = 0
    · rw [if_pos ((lg_0 _ _).mpr c), if_pos c]
      simp (disch := omega) only [r83_48, r83_49, sw_ldi, sw_ldl, sw_lda, sw_has1, sw_i1, sw_i2, sw_l1, sw_l2, sw_li, sw_r1, sw_ri, sw_rix, sw_rv, sw_pop, sw_set1, sw_set2, List.set_cons_zero, List.set_cons_succ, List.getElem?_cons_zero, List.getElem?_cons_succ, ald_1, ald_2, ast_1, ast_2, aln_1, aln_2, gf_1, gf_2, pf_1, pf_2, nw_1, ck_0, ck_1, ck_2, ck_3, ck_4, rr_1, rc_1, rc_2, K_i, K_l, K_v, I_add, I_sub, I_mul, I_div, I_em, I_eq0, I_lt0, I_0lt, I_le0, I_0le, I_eq, I_lt, I_le, I_a1, I_r1, I_eq1, I32_at, I32_s, Int.toNat_natCast, List.set_cons_zero, reduceCtorEq, not_false_eq_true, not_true_eq_false, false_and, true_and, and_true, and_false, false_or, true_or, or_true, or_false, if_true, if_false, eq_self, ↓reduceIte, Int.reduceEq, Int.reduceLT, Int.reduceLE, Int.reduceAdd, Int.reduceSub, Int.reduceMul, Int.reduceNeg, Int.reduceToNat, Nat.reduceLT, Nat.reduceAdd, Nat.reduceEqDiff, List.length_cons, List.length_nil]
    · rw [if_neg (fun q => c ((lg_0 _ _).mp q)), if_neg c]
      simp (disch := omega) only [r83_44, r83_45, r83_48, r83_49, sw_ldi, sw_ldl, sw_lda, sw_has1, sw_i1, sw_i2, sw_l1, sw_l2, sw_li, sw_r1, sw_ri, sw_rix, sw_rv, sw_pop, sw_set1, sw_set2, List.set_cons_zero, List.set_cons_succ, List.getElem?_cons_zero, List.getElem?_cons_succ, ald_1, ald_2, ast_1, ast_2, aln_1, aln_2, gf_1, gf_2, pf_1, pf_2, nw_1, ck_0, ck_1, ck_2, ck_3, ck_4, rr_1, rc_1, rc_2, K_i, K_l, K_v, I_add, I_sub, I_mul, I_div, I_em, I_eq0, I_lt0, I_0lt, I_le0, I_0le, I_eq, I_lt, I_le, I_a1, I_r1, I_eq1, I32_at, I32_s, Int.toNat_natCast, List.set_cons_zero, reduceCtorEq, not_false_eq_true, not_true_eq_false, false_and, true_and, and_true, and_false, false_or, true_or, or_true, or_false, if_true, if_false, eq_self, ↓reduceIte, Int.reduceEq, Int.reduceLT, Int.reduceLE, Int.reduceAdd, Int.reduceSub, Int.reduceMul, Int.reduceNeg, Int.reduceToNat, Nat.reduceLT, Nat.reduceAdd, Nat.reduceEqDiff, List.length_cons, List.length_nil]
  · rw [if_neg (show ¬ (1 : Int) = 0 by decide), if_neg (show ¬ (1 : Int) = 0 by decide)]
    obtain ⟨r, g1, g2⟩ := m82 (H := H) (frm := sdv 2) (shut := shut) (Q := sw_K 83 25 none [some (.ref rb), some (.ref rs), some (.long shut), none, some (.int (Int32.ofInt k)), some (.int (Int32.ofInt p)), some (.int (Int32.ofInt 1)), some (.int (Int32.ofInt wo))] [] Q) w0 w1 hb0 hs0 nb1 ns1 k0 k1 p0 p1
    refine ⟨r, g1, ?_⟩
    rw [e83]
    simp (disch := omega) only [r83_0, r83_1, r83_2, r83_3, r83_5, r83_7, r83_9, r83_12, r83_13, r83_16, r83_17, r83_20, r83_22, sw_ldi, sw_ldl, sw_lda, sw_has1, sw_i1, sw_i2, sw_l1, sw_l2, sw_li, sw_r1, sw_ri, sw_rix, sw_rv, sw_pop, sw_set1, sw_set2, List.set_cons_zero, List.set_cons_succ, List.getElem?_cons_zero, List.getElem?_cons_succ, ald_1, ald_2, ast_1, ast_2, aln_1, aln_2, gf_1, gf_2, pf_1, pf_2, nw_1, ck_0, ck_1, ck_2, ck_3, ck_4, rr_1, rc_1, rc_2, K_i, K_l, K_v, I_add, I_sub, I_mul, I_div, I_em, I_eq0, I_lt0, I_0lt, I_le0, I_0le, I_eq, I_lt, I_le, I_a1, I_r1, I_eq1, I32_at, I32_s, Int.toNat_natCast, List.set_cons_zero, reduceCtorEq, not_false_eq_true, not_true_eq_false, false_and, true_and, and_true, and_false, false_or, true_or, or_true, or_false, if_true, if_false, eq_self, ↓reduceIte, Int.reduceEq, Int.reduceLT, Int.reduceLE, Int.reduceAdd, Int.reduceSub, Int.reduceMul, Int.reduceNeg, Int.reduceToNat, Nat.reduceLT, Nat.reduceAdd, Nat.reduceEqDiff, List.length_cons, List.length_nil, m69_2, ck_i5]
    rw [g2]
    simp (disch := omega) only [r83_25, r83_27, r83_30, r83_31, r83_34, r83_35, r83_38, r83_39, r83_40, sw_ldi, sw_ldl, sw_lda, sw_has1, sw_i1, sw_i2, sw_l1, sw_l2, sw_li, sw_r1, sw_ri, sw_rix, sw_rv, sw_pop, sw_set1, sw_set2, List.set_cons_zero, List.set_cons_succ, List.getElem?_cons_zero, List.getElem?_cons_succ, ald_1, ald_2, ast_1, ast_2, aln_1, aln_2, gf_1, gf_2, pf_1, pf_2, nw_1, ck_0, ck_1, ck_2, ck_3, ck_4, rr_1, rc_1, rc_2, K_i, K_l, K_v, I_add, I_sub, I_mul, I_div, I_em, I_eq0, I_lt0, I_0lt, I_le0, I_0le, I_eq, I_lt, I_le, I_a1, I_r1, I_eq1, I32_at, I32_s, Int.toNat_natCast, List.set_cons_zero, reduceCtorEq, not_false_eq_true, not_true_eq_false, false_and, true_and, and_true, and_false, false_or, true_or, or_true, or_false, if_true, if_false, eq_self, ↓reduceIte, Int.reduceEq, Int.reduceLT, Int.reduceLE, Int.reduceAdd, Int.reduceSub, Int.reduceMul, Int.reduceNeg, Int.reduceToNat, Nat.reduceLT, Nat.reduceAdd, Nat.reduceEqDiff, List.length_cons, List.length_nil, m69_3]
    rw [r83_41]
    simp only [sw_i1]
    rw [show Int64.ofNat 0 = 0 from rfl]
    by_cases c : r &&& sdv 3 = 0
    · rw [if_pos ((lg_0 _ _).mpr c), if_pos c]
      simp (disch := omega) only [r83_48, r83_49, sw_ldi, sw_ldl, sw_lda, sw_has1, sw_i1, sw_i2, sw_l1, sw_l2, sw_li, sw_r1, sw_ri, sw_rix, sw_rv, sw_pop, sw_set1, sw_set2, List.set_cons_zero, List.set_cons_succ, List.getElem?_cons_zero, List.getElem?_cons_succ, ald_1, ald_2, ast_1, ast_2, aln_1, aln_2, gf_1, gf_2, pf_1, pf_2, nw_1, ck_0, ck_1, ck_2, ck_3, ck_4, rr_1, rc_1, rc_2, K_i, K_l, K_v, I_add, I_sub, I_mul, I_div, I_em, I_eq0, I_lt0, I_0lt, I_le0, I_0le, I_eq, I_lt, I_le, I_a1, I_r1, I_eq1, I32_at, I32_s, Int.toNat_natCast, List.set_cons_zero, reduceCtorEq, not_false_eq_true, not_true_eq_false, false_and, true_and, and_true, and_false, false_or, true_or, or_true, or_false, if_true, if_false, eq_self, ↓reduceIte, Int.reduceEq, Int.reduceLT, Int.reduceLE, Int.reduceAdd, Int.reduceSub, Int.reduceMul, Int.reduceNeg, Int.reduceToNat, Nat.reduceLT, Nat.reduceAdd, Nat.reduceEqDiff, List.length_cons, List.length_nil]
    · rw [if_neg (fun q => c ((lg_0 _ _).mp q)), if_neg c]
      simp (disch := omega) only [r83_44, r83_45, r83_48, r83_49, sw_ldi, sw_ldl, sw_lda, sw_has1, sw_i1, sw_i2, sw_l1, sw_l2, sw_li, sw_r1, sw_ri, sw_rix, sw_rv, sw_pop, sw_set1, sw_set2, List.set_cons_zero, List.set_cons_succ, List.getElem?_cons_zero, List.getElem?_cons_succ, ald_1, ald_2, ast_1, ast_2, aln_1, aln_2, gf_1, gf_2, pf_1, pf_2, nw_1, ck_0, ck_1, ck_2, ck_3, ck_4, rr_1, rc_1, rc_2, K_i, K_l, K_v, I_add, I_sub, I_mul, I_div, I_em, I_eq0, I_lt0, I_0lt, I_le0, I_0le, I_eq, I_lt, I_le, I_a1, I_r1, I_eq1, I32_at, I32_s, Int.toNat_natCast, List.set_cons_zero, reduceCtorEq, not_false_eq_true, not_true_eq_false, false_and, true_and, and_true, and_false, false_or, true_or, or_true, or_false, if_true, if_false, eq_self, ↓reduceIte, Int.reduceEq, Int.reduceLT, Int.reduceLE, Int.reduceAdd, Int.reduceSub, Int.reduceMul, Int.reduceNeg, Int.reduceToNat, Nat.reduceLT, Nat.reduceAdd, Nat.reduceEqDiff, List.length_cons, List.length_nil]
end sw_s5
