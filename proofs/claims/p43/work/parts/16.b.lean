/-! lightning -/
/-- what burns with the site st -/
def Rb (t0 : Nat → Int) (st t : Nat) : Prop := ∀ P : Nat → Prop, (t0 st = 1 → P st) → (∀ s u, s < 36 → u < 36 → P s → Nb s u → t0 u = 1 → P u) → P t
theorem nb_fin : ∀ s, s < 36 → ∀ d, d < 4 → f_sb (s : Nat) (d : Nat) = -1 ∨ f_sb (f_sb (s : Nat) (d : Nat)) (3 - (d : Nat)) = (s : Nat) := by decide +kernel
theorem Nb_s {s t : Nat} (hs : s < 36) (h : Nb s t) : Nb t s := by
  obtain ⟨d, d0, d9, e⟩ := h
  have q := nb_fin s hs d.toNat (by omega)
  rw [show ((d.toNat : Nat) : Int) = d by omega, e] at q
  rcases q with q | q
  · omega
  · exact ⟨3 - d, by omega, by omega, q⟩
def BQ (t0 : Nat → Int) (st : Nat) (tr q : Nat → Int) (z h : Nat) (dd : Int) : Prop := (∀ j, j < z → 0 ≤ q j ∧ q j < 36 ∧ t0 (q j).toNat = 1 ∧ tr (q j).toNat = 0 ∧ Rb t0 st (q j).toNat) ∧ (∀ t, t < 36 → tr t = t0 t ∨ (t0 t = 1 ∧ tr t = 0 ∧ ∃ j, j < z ∧ q j = (t : Int))) ∧ sm tr 36 + z = sm t0 36 ∧ h ≤ z ∧ (∀ (j : Nat) (d : Int), j < z → 0 ≤ d → d < 4 → (j < h ∨ (j = h ∧ d < dd)) → f_sb (q j) d = -1 ∨ tr (f_sb (q j) d).toNat = 0) ∧ tr st = 0
theorem BQ_b {t0 tr q : Nat → Int} {st z h : Nat} {dd : Int} (hb0 : B01 t0) (b : BQ t0 st tr q z h dd) : B01 tr := fun t ht => by
  rcases b.2.1 t ht with e | e
  · rw [e]; exact hb0 t ht
  · exact Or.inl e.2.1
theorem BQ_z {t0 tr q : Nat → Int} {st z h : Nat} {dd : Int} (hb0 : B01 t0) (b : BQ t0 st tr q z h dd) : z ≤ 36 := by
  have h1 := sm_b 36 hb0
  have h2 := sm_b 36 (BQ_b hb0 b)
  have := b.2.2.1
  omega
theorem BQ_no {t0 tr q : Nat → Int} {st z h : Nat} {dd : Int} (b : BQ t0 st tr q z h dd) (r : h < z → f_sb (q h) dd = -1 ∨ tr (f_sb (q h) dd).toNat = 0) : BQ t0 st tr q z h (dd + 1) := by
  obtain ⟨b1, b2, b3, b4, b5, b6⟩ := b
  refine ⟨b1, b2, b3, b4, fun j d hj d0 d9 hd => ?_, b6⟩
  by_cases e : j = h ∧ d = dd
  · rw [e.1, e.2]; exact r (by omega)
  · exact b5 j d hj d0 d9 (by omega)
theorem BQ_nx {t0 tr q : Nat → Int} {st z h : Nat} (hz : h < z) (b : BQ t0 st tr q z h 4) : BQ t0 st tr q z (h + 1) 0 := by
  obtain ⟨b1, b2, b3, b4, b5, b6⟩ := b
  exact ⟨b1, b2, b3, by omega, fun j d hj d0 d9 hd => b5 j d hj d0 d9 (by omega), b6⟩
theorem BQ_up {t0 tr q : Nat → Int} {st z h n : Nat} {dd : Int} (hb0 : B01 t0) (hz : h < z) (d0 : 0 ≤ dd) (d9 : dd < 4) (b : BQ t0 st tr q z h dd) (en : f_sb (q h) dd = n) (n36 : n < 36) (nt : tr n = 1) : z < 36 ∧ BQ t0 st (sw_s tr n 0) (sw_s q z (n : Int)) (z + 1) h (dd + 1) := by
  have bb := BQ_b hb0 b
  obtain ⟨b1, b2, b3, b4, b5, b6⟩ := b
  have h1 := sm_b 36 hb0
  have t1 : t0 n = 1 := by
    rcases b2 n n36 with e | e
    · rw [← e]; exact nt
    · exact e.1
  have s1 : sm (sw_s tr n 0) 36 = sm tr 36 - 1 := by
    rw [sm_s, if_pos n36, nt]; omega
  have s2 := sm_b (g := sw_s tr n 0) 36 fun i hi2 => by
    unfold sw_s
    split
    · exact Or.inl rfl
    · exact bb i hi2
  have qj : ∀ j, j < z → sw_s q z (n : Int) j = q j := fun j hj => if_neg (by omega)
  have tz : ∀ t, tr t = 0 → sw_s tr n 0 t = 0 := fun t e => by
    unfold sw_s
    split
    · rfl
    · exact e
  have qh := b1 h hz
  refine ⟨by omega, fun j hj => ?_, fun t ht => ?_, by omega, by omega, fun j d hj e0 e9 hd => ?_, tz st b6⟩
  · by_cases e : j = z
    · subst e
      rw [sE]
      refine ⟨by omega, by omega, by rw [Int.toNat_natCast]; exact t1, by rw [Int.toNat_natCast]; exact sE, ?_⟩
      rw [Int.toNat_natCast]
      intro P p0 ps
      exact ps (q h).toNat n (by omega) n36 (qh.2.2.2.2 P p0 ps) ⟨dd, d0, d9, by rw [show (((q h).toNat : Nat) : Int) = q h by omega]; exact en⟩ t1
    · rw [qj j (by omega)]
      obtain ⟨a1, a2, a3, a4, a5⟩ := b1 j (by omega)
      exact ⟨a1, a2, a3, tz _ a4, a5⟩
  · by_cases e : t = n
    · subst e
      exact Or.inr ⟨t1, sE, z, by omega, sE⟩
    · have e2 : sw_s tr n 0 t = tr t := if_neg e
      rw [e2]
      rcases b2 t ht with q1 | ⟨q1, q2, j, j1, j2⟩
      · exact Or.inl q1
      · exact Or.inr ⟨q1, q2, j, by omega, by rw [qj j j1]; exact j2⟩
  · have jz : j < z := by omega
    rw [qj j jz]
    by_cases e : j = h ∧ d = dd
    · rw [e.1, e.2, en]
      exact Or.inr (by rw [Int.toNat_natCast]; exact sE)
    · rcases b5 j d jz e0 e9 (by omega) with q1 | q1
      · exact Or.inl q1
      · exact Or.inr (tz _ q1)
/-- what burning leaves -/
def BU (t0 : Nat → Int) (st : Nat) (tr : Nat → Int) (c : Int) : Prop := (∀ t, t < 36 → (tr t = t0 t ∧ (¬ Rb t0 st t ∨ t0 t = 0)) ∨ (t0 t = 1 ∧ tr t = 0 ∧ Rb t0 st t)) ∧ sm tr 36 + c = sm t0 36
theorem BQ_U {t0 tr q : Nat → Int} {st z : Nat} {dd : Int} (hb0 : B01 t0) (hs : st < 36) (b : BQ t0 st tr q z z dd) : BU t0 st tr z := by
  obtain ⟨b1, b2, b3, b4, b5, b6⟩ := b
  refine ⟨fun t ht => ?_, b3⟩
  rcases b2 t ht with e | ⟨e1, e2, j, j1, j2⟩
  · rcases hb0 t ht with z0 | z1
    · exact Or.inl ⟨e, Or.inr z0⟩
    · refine Or.inl ⟨e, Or.inl fun r => ?_⟩
      have := r (fun u => u < 36 ∧ t0 u = 1 ∧ tr u = 0) (fun z => ⟨hs, z, b6⟩) (fun s u hs2 hu p nb t1 => by
        rcases b2 s hs2 with y | ⟨y1, y2, j, j1, j2⟩
        · have := p.2.1
          have := p.2.2
          omega
        · obtain ⟨d, d0, d9, ed⟩ := nb
          rcases b5 j d j1 d0 d9 (Or.inl j1) with w | w
          · rw [j2, ed] at w; omega
          · rw [j2, ed, Int.toNat_natCast] at w
            exact ⟨hu, t1, w⟩)
      omega
  · have := (b1 j j1).2.2.2.2
    rw [j2, Int.toNat_natCast] at this
    exact Or.inr ⟨e1, e2, this⟩
section sw_bu
variable {L : Nat} {A : Nat → Nat → Int} {F : Nat → Int} {T : Nat → sw_Ce} {X : Nat × Nat × Nat} {Q : sw_Ot → sw_HS → Prop}
def hW (L : Nat) (A : Nat → Nat → Int) (F : Nat → Int) (T : Nat → sw_Ce) (X : Nat × Nat × Nat) (tr q : Nat → Int) (h z : Int) : sw_HS := sw_h L (sw_s (sw_s A 11 tr) 15 q) (sw_s (sw_s F 3 h) 4 z) T X
theorem m51_no {tr q : Nat → Int} {h z s : Int} (hs : s = -1 ∨ (0 ≤ s ∧ s < 36 ∧ tr s.toNat = 0)) : sw_M 51 [.ref 8, .int (Int32.ofInt s)] (hW L A F T X tr q h z) Q = Q (some none) (hW L A F T X tr q h z) := by
  unfold hW
  rw [e51]
  rcases hs with rfl | ⟨h1, h2, h3⟩
  · simp (disch := omega) only [r51_0, r51_1, r51_2, r51_29, sw_ldi, sw_ldl, sw_lda, sw_has1, sw_i1, sw_i2, sw_l1, sw_l2, sw_li, sw_r1, sw_ri, sw_rix, sw_rv, sw_pop, sw_set1, sw_set2, List.set_cons_zero, List.set_cons_succ, List.getElem?_cons_zero, List.getElem?_cons_succ, ald_1, ald_2, ast_1, ast_2, aln_1, aln_2, gf_1, gf_2, pf_1, pf_2, nw_1, ck_0, ck_1, ck_2, ck_3, ck_4, rr_1, rc_1, rc_2, K_i, K_l, K_v, I_add, I_sub, I_mul, I_div, I_em, I_eq0, I_lt0, I_0lt, I_le0, I_0le, I_eq, I_lt, I_le, I_a1, I_r1, I_eq1, I32_at, I32_s, Int.toNat_natCast, List.set_cons_zero, reduceCtorEq, not_false_eq_true, not_true_eq_false, false_and, true_and, and_true, and_false, false_or, true_or, or_true, or_false, if_true, if_false, eq_self, ↓reduceIte, Int.reduceEq, Int.reduceLT, Int.reduceLE, Int.reduceAdd, Int.reduceSub, Int.reduceMul, Int.reduceNeg, Int.reduceToNat, Nat.reduceLT, Nat.reduceAdd, Nat.reduceEqDiff, List.length_cons, List.length_nil]
  · simp (disch := omega) only [r51_0, r51_1, r51_2, sw_ldi, sw_ldl, sw_lda, sw_has1, sw_i1, sw_i2, sw_l1, sw_l2, sw_li, sw_r1, sw_ri, sw_rix, sw_rv, sw_pop, sw_set1, sw_set2, List.set_cons_zero, List.set_cons_succ, List.getElem?_cons_zero, List.getElem?_cons_succ, ald_1, ald_2, ast_1, ast_2, aln_1, aln_2, gf_1, gf_2, pf_1, pf_2, nw_1, ck_0, ck_1, ck_2, ck_3, ck_4, rr_1, rc_1, rc_2, K_i, K_l, K_v, I_add, I_sub, I_mul, I_div, I_em, I_eq0, I_lt0, I_0lt, I_le0, I_0le, I_eq, I_lt, I_le, I_a1, I_r1, I_eq1, I32_at, I32_s, Int.toNat_natCast, List.set_cons_zero, reduceCtorEq, not_false_eq_true, not_true_eq_false, false_and, true_and, and_true, and_false, false_or, true_or, or_true, or_false, if_true, if_false, eq_self, ↓reduceIte, Int.reduceEq, Int.reduceLT, Int.reduceLE, Int.reduceAdd, Int.reduceSub, Int.reduceMul, Int.reduceNeg, Int.reduceToNat, Nat.reduceLT, Nat.reduceAdd, Nat.reduceEqDiff, List.length_cons, List.length_nil]
    rw [if_neg (by omega)]
    simp (disch := omega) only [r51_5, r51_6, r51_9, r51_10, r51_11, r51_29, sw_ldi, sw_ldl, sw_lda, sw_has1, sw_i1, sw_i2, sw_l1, sw_l2, sw_li, sw_r1, sw_ri, sw_rix, sw_rv, sw_pop, sw_set1, sw_set2, List.set_cons_zero, List.set_cons_succ, List.getElem?_cons_zero, List.getElem?_cons_succ, ald_1, ald_2, ast_1, ast_2, aln_1, aln_2, gf_1, gf_2, pf_1, pf_2, nw_1, ck_0, ck_1, ck_2, ck_3, ck_4, rr_1, rc_1, rc_2, K_i, K_l, K_v, I_add, I_sub, I_mul, I_div, I_em, I_eq0, I_lt0, I_0lt, I_le0, I_0le, I_eq, I_lt, I_le, I_a1, I_r1, I_eq1, I32_at, I32_s, Int.toNat_natCast, List.set_cons_zero, reduceCtorEq, not_false_eq_true, not_true_eq_false, false_and, true_and, and_true, and_false, false_or, true_or, or_true, or_false, if_true, if_false, eq_self, ↓reduceIte, Int.reduceEq, Int.reduceLT, Int.reduceLE, Int.reduceAdd, Int.reduceSub, Int.reduceMul, Int.reduceNeg, Int.reduceToNat, Nat.reduceLT, Nat.reduceAdd, Nat.reduceEqDiff, List.length_cons, List.length_nil, sA_at, ss, sA_cm, h_8, h_11, h3]
theorem m51_up {tr q : Nat → Int} {h : Int} {s z : Nat} (hs : s < 36) (hz : z < 36) (ht : tr s = 1) : sw_M 51 [.ref 8, .int (Int32.ofInt s)] (hW L A F T X tr q h z) Q = Q (some none) (hW L A F T X (sw_s tr s 0) (sw_s q z (s : Int)) h ((z + 1 : Nat) : Int)) := by
  have f4 : sw_s (sw_s F 3 h) 4 (z : Int) 4 = z := rfl
  unfold hW
  rw [e51]
  simp (disch := omega) only [r51_0, r51_1, r51_2, sw_ldi, sw_ldl, sw_lda, sw_has1, sw_i1, sw_i2, sw_l1, sw_l2, sw_li, sw_r1, sw_ri, sw_rix, sw_rv, sw_pop, sw_set1, sw_set2, List.set_cons_zero, List.set_cons_succ, List.getElem?_cons_zero, List.getElem?_cons_succ, ald_1, ald_2, ast_1, ast_2, aln_1, aln_2, gf_1, gf_2, pf_1, pf_2, nw_1, ck_0, ck_1, ck_2, ck_3, ck_4, rr_1, rc_1, rc_2, K_i, K_l, K_v, I_add, I_sub, I_mul, I_div, I_em, I_eq0, I_lt0, I_0lt, I_le0, I_0le, I_eq, I_lt, I_le, I_a1, I_r1, I_eq1, I32_at, I32_s, Int.toNat_natCast, List.set_cons_zero, reduceCtorEq, not_false_eq_true, not_true_eq_false, false_and, true_and, and_true, and_false, false_or, true_or, or_true, or_false, if_true, if_false, eq_self, ↓reduceIte, Int.reduceEq, Int.reduceLT, Int.reduceLE, Int.reduceAdd, Int.reduceSub, Int.reduceMul, Int.reduceNeg, Int.reduceToNat, Nat.reduceLT, Nat.reduceAdd, Nat.reduceEqDiff, List.length_cons, List.length_nil]
  simp (disch := omega) only [r51_5, r51_6, r51_9, r51_10, r51_11, r51_14, r51_15, r51_18, r51_19, r51_20, sw_ldi, sw_ldl, sw_lda, sw_has1, sw_i1, sw_i2, sw_l1, sw_l2, sw_li, sw_r1, sw_ri, sw_rix, sw_rv, sw_pop, sw_set1, sw_set2, List.set_cons_zero, List.set_cons_succ, List.getElem?_cons_zero, List.getElem?_cons_succ, ald_1, ald_2, ast_1, ast_2, aln_1, aln_2, gf_1, gf_2, pf_1, pf_2, nw_1, ck_0, ck_1, ck_2, ck_3, ck_4, rr_1, rc_1, rc_2, K_i, K_l, K_v, I_add, I_sub, I_mul, I_div, I_em, I_eq0, I_lt0, I_0lt, I_le0, I_0le, I_eq, I_lt, I_le, I_a1, I_r1, I_eq1, I32_at, I32_s, Int.toNat_natCast, List.set_cons_zero, reduceCtorEq, not_false_eq_true, not_true_eq_false, false_and, true_and, and_true, and_false, false_or, true_or, or_true, or_false, if_true, if_false, eq_self, ↓reduceIte, Int.reduceEq, Int.reduceLT, Int.reduceLE, Int.reduceAdd, Int.reduceSub, Int.reduceMul, Int.reduceNeg, Int.reduceToNat, Nat.reduceLT, Nat.reduceAdd, Nat.reduceEqDiff, List.length_cons, List.length_nil, sA_at, ss, sA_cm, h_8, h_11, w_11, ht]
  simp (disch := first | omega | (rw [f4]; omega)) only [r51_21, r51_22, r51_25, r51_26, sw_ldi, sw_ldl, sw_lda, sw_has1, sw_i1, sw_i2, sw_l1, sw_l2, sw_li, sw_r1, sw_ri, sw_rix, sw_rv, sw_pop, sw_set1, sw_set2, List.set_cons_zero, List.set_cons_succ, List.getElem?_cons_zero, List.getElem?_cons_succ, ald_1, ald_2, ast_1, ast_2, aln_1, aln_2, gf_1, gf_2, pf_1, pf_2, nw_1, ck_0, ck_1, ck_2, ck_3, ck_4, rr_1, rc_1, rc_2, K_i, K_l, K_v, I_add, I_sub, I_mul, I_div, I_em, I_eq0, I_lt0, I_0lt, I_le0, I_0le, I_eq, I_lt, I_le, I_a1, I_r1, I_eq1, I32_at, I32_s, Int.toNat_natCast, List.set_cons_zero, reduceCtorEq, not_false_eq_true, not_true_eq_false, false_and, true_and, and_true, and_false, false_or, true_or, or_true, or_false, if_true, if_false, eq_self, ↓reduceIte, Int.reduceEq, Int.reduceLT, Int.reduceLE, Int.reduceAdd, Int.reduceSub, Int.reduceMul, Int.reduceNeg, Int.reduceToNat, Nat.reduceLT, Nat.reduceAdd, Nat.reduceEqDiff, List.length_cons, List.length_nil, sA_at, ss, sA_cm, h_8, h_14, m50_14]
  simp (disch := omega) only [r51_29, sw_ldi, sw_ldl, sw_lda, sw_has1, sw_i1, sw_i2, sw_l1, sw_l2, sw_li, sw_r1, sw_ri, sw_rix, sw_rv, sw_pop, sw_set1, sw_set2, List.set_cons_zero, List.set_cons_succ, List.getElem?_cons_zero, List.getElem?_cons_succ, ald_1, ald_2, ast_1, ast_2, aln_1, aln_2, gf_1, gf_2, pf_1, pf_2, nw_1, ck_0, ck_1, ck_2, ck_3, ck_4, rr_1, rc_1, rc_2, K_i, K_l, K_v, I_add, I_sub, I_mul, I_div, I_em, I_eq0, I_lt0, I_0lt, I_le0, I_0le, I_eq, I_lt, I_le, I_a1, I_r1, I_eq1, I32_at, I32_s, Int.toNat_natCast, List.set_cons_zero, reduceCtorEq, not_false_eq_true, not_true_eq_false, false_and, true_and, and_true, and_false, false_or, true_or, or_true, or_false, if_true, if_false, eq_self, ↓reduceIte, Int.reduceEq, Int.reduceLT, Int.reduceLE, Int.reduceAdd, Int.reduceSub, Int.reduceMul, Int.reduceNeg, Int.reduceToNat, Nat.reduceLT, Nat.reduceAdd, Nat.reduceEqDiff, List.length_cons, List.length_nil, sA_at, ss, sA_cm, f4]
  rfl
theorem m53_d {t0 : Nat → Int} {st h : Nat} {s : Int} {v : Int32} (hb0 : B01 t0) : ∀ (n z : Nat) (d : Int) (tr q : Nat → Int), d + n = 4 → 0 ≤ d → h < z → q h = s → BQ t0 st tr q z h d → ∃ (tr2 q2 : Nat → Int) (z2 : Nat) (x2 : Option Value), h < z2 ∧ BQ t0 st tr2 q2 z2 h 4 ∧ sw_A 53 39 [some (.ref 8), some (.int v), some (.int (Int32.ofInt h)), some (.int (Int32.ofInt s)), some (.int (Int32.ofInt d))] [] (hW L A F T X tr q (h + 1) z) Q = sw_A 53 14 [some (.ref 8), some (.int v), some (.int (Int32.ofInt (h + 1))), some (.int (Int32.ofInt s)), x2] [] (hW L A F T X tr2 q2 (h + 1) z2) Q
  | 0, z, d, tr, q, hn, d0, hz, hs, b => by
    have e : d = 4 := by omega
    subst e
    have bz := BQ_z hb0 b
    refine ⟨tr, q, z, some (.int (Int32.ofInt 4)), hz, b, ?_⟩
    rw [r53_39]
    simp (disch := omega) only [r53_41, r53_42, r53_61, r53_64, sw_ldi, sw_ldl, sw_lda, sw_has1, sw_i1, sw_i2, sw_l1, sw_l2, sw_li, sw_r1, sw_ri, sw_rix, sw_rv, sw_pop, sw_set1, sw_set2, List.set_cons_zero, List.set_cons_succ, List.getElem?_cons_zero, List.getElem?_cons_succ, ald_1, ald_2, ast_1, ast_2, aln_1, aln_2, gf_1, gf_2, pf_1, pf_2, nw_1, ck_0, ck_1, ck_2, ck_3, ck_4, rr_1, rc_1, rc_2, K_i, K_l, K_v, I_add, I_sub, I_mul, I_div, I_em, I_eq0, I_lt0, I_0lt, I_le0, I_0le, I_eq, I_lt, I_le, I_a1, I_r1, I_eq1, I32_at, I32_s, Int.toNat_natCast, List.set_cons_zero, reduceCtorEq, not_false_eq_true, not_true_eq_false, false_and, true_and, and_true, and_false, false_or, true_or, or_true, or_false, if_true, if_false, eq_self, ↓reduceIte, Int.reduceEq, Int.reduceLT, Int.reduceLE, Int.reduceAdd, Int.reduceSub, Int.reduceMul, Int.reduceNeg, Int.reduceToNat, Nat.reduceLT, Nat.reduceAdd, Nat.reduceEqDiff, List.length_cons, List.length_nil, Int.le_refl]
  | n + 1, z, d, tr, q, hn, d0, hz, hs, b => by
    have bz := BQ_z hb0 b
    have qh := b.1 h hz
    rw [hs] at qh
    have sb := f_sb_b qh.1 qh.2.1 d0 (show d < 4 by omega)
    have bb := BQ_b hb0 b
    by_cases c : f_sb s d = -1 ∨ tr (f_sb s d).toNat = 0
    · obtain ⟨tr2, q2, z2, x2, g1, g2, g3⟩ := m53_d (v := v) hb0 n z (d + 1) tr q (by omega) (by omega) hz hs (BQ_no b fun _ => by rw [hs]; exact c)
      refine ⟨tr2, q2, z2, x2, g1, g2, Eq.trans ?_ g3⟩
      have mm := m51_no (L := L) (A := A) (F := F) (T := T) (X := X) (Q := sw_K 53 55 none [some (.ref 8), some (.int v), some (.int (Int32.ofInt h)), some (.int (Int32.ofInt s)), some (.int (Int32.ofInt d))] [] Q) (tr := tr) (q := q) (h := h + 1) (z := z) (s := f_sb s d) (by omega)
      rw [r53_39]
      simp (disch := omega) only [r53_41, r53_42, r53_45, r53_46, r53_47, r53_49, sw_ldi, sw_ldl, sw_lda, sw_has1, sw_i1, sw_i2, sw_l1, sw_l2, sw_li, sw_r1, sw_ri, sw_rix, sw_rv, sw_pop, sw_set1, sw_set2, List.set_cons_zero, List.set_cons_succ, List.getElem?_cons_zero, List.getElem?_cons_succ, ald_1, ald_2, ast_1, ast_2, aln_1, aln_2, gf_1, gf_2, pf_1, pf_2, nw_1, ck_0, ck_1, ck_2, ck_3, ck_4, rr_1, rc_1, rc_2, K_i, K_l, K_v, I_add, I_sub, I_mul, I_div, I_em, I_eq0, I_lt0, I_0lt, I_le0, I_0le, I_eq, I_lt, I_le, I_a1, I_r1, I_eq1, I32_at, I32_s, Int.toNat_natCast, List.set_cons_zero, reduceCtorEq, not_false_eq_true, not_true_eq_false, false_and, true_and, and_true, and_false, false_or, true_or, or_true, or_false, if_true, if_false, eq_self, ↓reduceIte, Int.reduceEq, Int.reduceLT, Int.reduceLE, Int.reduceAdd, Int.reduceSub, Int.reduceMul, Int.reduceNeg, Int.reduceToNat, Nat.reduceLT, Nat.reduceAdd, Nat.reduceEqDiff, List.length_cons, List.length_nil, m32]
      rw [if_neg (by omega), r53_52]
      simp (disch := omega) only [sw_ldi, sw_ldl, sw_lda, sw_has1, sw_i1, sw_i2, sw_l1, sw_l2, sw_li, sw_r1, sw_ri, sw_rix, sw_rv, sw_pop, sw_set1, sw_set2, List.set_cons_zero, List.set_cons_succ, List.getElem?_cons_zero, List.getElem?_cons_succ, ald_1, ald_2, ast_1, ast_2, aln_1, aln_2, gf_1, gf_2, pf_1, pf_2, nw_1, ck_0, ck_1, ck_2, ck_3, ck_4, rr_1, rc_1, rc_2, K_i, K_l, K_v, I_add, I_sub, I_mul, I_div, I_em, I_eq0, I_lt0, I_0lt, I_le0, I_0le, I_eq, I_lt, I_le, I_a1, I_r1, I_eq1, I32_at, I32_s, Int.toNat_natCast, List.set_cons_zero, reduceCtorEq, not_false_eq_true, not_true_eq_false, false_and, true_and, and_true, and_false, false_or, true_or, or_true, or_false, if_true, if_false, eq_self, ↓reduceIte, Int.reduceEq, Int.reduceLT, Int.reduceLE, Int.reduceAdd, Int.reduceSub, Int.reduceMul, Int.reduceNeg, Int.reduceToNat, Nat.reduceLT, Nat.reduceAdd, Nat.reduceEqDiff, List.length_cons, List.length_nil]
      unfold hW at mm ⊢
      simp (disch := omega) only [sw_ldi, sw_ldl, sw_lda, sw_has1, sw_i1, sw_i2, sw_l1, sw_l2, sw_li, sw_r1, sw_ri, sw_rix, sw_rv, sw_pop, sw_set1, sw_set2, List.set_cons_zero, List.set_cons_succ, List.getElem?_cons_zero, List.getElem?_cons_succ, ald_1, ald_2, ast_1, ast_2, aln_1, aln_2, gf_1, gf_2, pf_1, pf_2, nw_1, ck_0, ck_1, ck_2, ck_3, ck_4, rr_1, rc_1, rc_2, K_i, K_l, K_v, I_add, I_sub, I_mul, I_div, I_em, I_eq0, I_lt0, I_0lt, I_le0, I_0le, I_eq, I_lt, I_le, I_a1, I_r1, I_eq1, I32_at, I32_s, Int.toNat_natCast, List.set_cons_zero, reduceCtorEq, not_false_eq_true, not_true_eq_false, false_and, true_and, and_true, and_false, false_or, true_or, or_true, or_false, if_true, if_false, eq_self, ↓reduceIte, Int.reduceEq, Int.reduceLT, Int.reduceLE, Int.reduceAdd, Int.reduceSub, Int.reduceMul, Int.reduceNeg, Int.reduceToNat, Nat.reduceLT, Nat.reduceAdd, Nat.reduceEqDiff, List.length_cons, List.length_nil, h_8]
      rw [mm]
      simp (disch := omega) only [r53_55, r53_58, sw_ldi, sw_ldl, sw_lda, sw_has1, sw_i1, sw_i2, sw_l1, sw_l2, sw_li, sw_r1, sw_ri, sw_rix, sw_rv, sw_pop, sw_set1, sw_set2, List.set_cons_zero, List.set_cons_succ, List.getElem?_cons_zero, List.getElem?_cons_succ, ald_1, ald_2, ast_1, ast_2, aln_1, aln_2, gf_1, gf_2, pf_1, pf_2, nw_1, ck_0, ck_1, ck_2, ck_3, ck_4, rr_1, rc_1, rc_2, K_i, K_l, K_v, I_add, I_sub, I_mul, I_div, I_em, I_eq0, I_lt0, I_0lt, I_le0, I_0le, I_eq, I_lt, I_le, I_a1, I_r1, I_eq1, I32_at, I32_s, Int.toNat_natCast, List.set_cons_zero, reduceCtorEq, not_false_eq_true, not_true_eq_false, false_and, true_and, and_true, and_false, false_or, true_or, or_true, or_false, if_true, if_false, eq_self, ↓reduceIte, Int.reduceEq, Int.reduceLT, Int.reduceLE, Int.reduceAdd, Int.reduceSub, Int.reduceMul, Int.reduceNeg, Int.reduceToNat, Nat.reduceLT, Nat.reduceAdd, Nat.reduceEqDiff, List.length_cons, List.length_nil]
    · have n1 : ¬ f_sb s d = -1 := fun q => c (Or.inl q)
      have nt : tr (f_sb s d).toNat = 1 := by
        rcases bb (f_sb s d).toNat (by omega) with e | e
        · exact absurd (Or.inr e) c
        · exact e
      obtain ⟨z36, up⟩ := BQ_up hb0 hz d0 (show d < 4 by omega) b (n := (f_sb s d).toNat) (by rw [hs]; omega) (by omega) nt
      obtain ⟨tr2, q2, z2, x2, g1, g2, g3⟩ := m53_d (v := v) hb0 (s := s) n (z + 1) (d + 1) _ _ (by omega) (by omega) (by omega) (by unfold sw_s; rw [if_neg (by omega)]; exact hs) up
      refine ⟨tr2, q2, z2, x2, g1, g2, Eq.trans ?_ g3⟩
      have mm := m51_up (L := L) (A := A) (F := F) (T := T) (X := X) (Q := sw_K 53 55 none [some (.ref 8), some (.int v), some (.int (Int32.ofInt h)), some (.int (Int32.ofInt s)), some (.int (Int32.ofInt d))] [] Q) (tr := tr) (q := q) (h := h + 1) (z := z) (s := (f_sb s d).toNat) (by omega) z36 nt
      rw [show (((f_sb s d).toNat : Nat) : Int) = f_sb s d by omega] at mm ⊢
      rw [r53_39]
      simp (disch := omega) only [r53_41, r53_42, r53_45, r53_46, r53_47, r53_49, sw_ldi, sw_ldl, sw_lda, sw_has1, sw_i1, sw_i2, sw_l1, sw_l2, sw_li, sw_r1, sw_ri, sw_rix, sw_rv, sw_pop, sw_set1, sw_set2, List.set_cons_zero, List.set_cons_succ, List.getElem?_cons_zero, List.getElem?_cons_succ, ald_1, ald_2, ast_1, ast_2, aln_1, aln_2, gf_1, gf_2, pf_1, pf_2, nw_1, ck_0, ck_1, ck_2, ck_3, ck_4, rr_1, rc_1, rc_2, K_i, K_l, K_v, I_add, I_sub, I_mul, I_div, I_em, I_eq0, I_lt0, I_0lt, I_le0, I_0le, I_eq, I_lt, I_le, I_a1, I_r1, I_eq1, I32_at, I32_s, Int.toNat_natCast, List.set_cons_zero, reduceCtorEq, not_false_eq_true, not_true_eq_false, false_and, true_and, and_true, and_false, false_or, true_or, or_true, or_false, if_true, if_false, eq_self, ↓reduceIte, Int.reduceEq, Int.reduceLT, Int.reduceLE, Int.reduceAdd, Int.reduceSub, Int.reduceMul, Int.reduceNeg, Int.reduceToNat, Nat.reduceLT, Nat.reduceAdd, Nat.reduceEqDiff, List.length_cons, List.length_nil, m32]
      rw [if_neg (by omega), r53_52]
      simp (disch := omega) only [sw_ldi, sw_ldl, sw_lda, sw_has1, sw_i1, sw_i2, sw_l1, sw_l2, sw_li, sw_r1, sw_ri, sw_rix, sw_rv, sw_pop, sw_set1, sw_set2, List.set_cons_zero, List.set_cons_succ, List.getElem?_cons_zero, List.getElem?_cons_succ, ald_1, ald_2, ast_1, ast_2, aln_1, aln_2, gf_1, gf_2, pf_1, pf_2, nw_1, ck_0, ck_1, ck_2, ck_3, ck_4, rr_1, rc_1, rc_2, K_i, K_l, K_v, I_add, I_sub, I_mul, I_div, I_em, I_eq0, I_lt0, I_0lt, I_le0, I_0le, I_eq, I_lt, I_le, I_a1, I_r1, I_eq1, I32_at, I32_s, Int.toNat_natCast, List.set_cons_zero, reduceCtorEq, not_false_eq_true, not_true_eq_false, false_and, true_and, and_true, and_false, false_or, true_or, or_true, or_false, if_true, if_false, eq_self, ↓reduceIte, Int.reduceEq, Int.reduceLT, Int.reduceLE, Int.reduceAdd, Int.reduceSub, Int.reduceMul, Int.reduceNeg, Int.reduceToNat, Nat.reduceLT, Nat.reduceAdd, Nat.reduceEqDiff, List.length_cons, List.length_nil]
      unfold hW at mm ⊢
      simp (disch := omega) only [sw_ldi, sw_ldl, sw_lda, sw_has1, sw_i1, sw_i2, sw_l1, sw_l2, sw_li, sw_r1, sw_ri, sw_rix, sw_rv, sw_pop, sw_set1, sw_set2, List.set_cons_zero, List.set_cons_succ, List.getElem?_cons_zero, List.getElem?_cons_succ, ald_1, ald_2, ast_1, ast_2, aln_1, aln_2, gf_1, gf_2, pf_1, pf_2, nw_1, ck_0, ck_1, ck_2, ck_3, ck_4, rr_1, rc_1, rc_2, K_i, K_l, K_v, I_add, I_sub, I_mul, I_div, I_em, I_eq0, I_lt0, I_0lt, I_le0, I_0le, I_eq, I_lt, I_le, I_a1, I_r1, I_eq1, I32_at, I32_s, Int.toNat_natCast, List.set_cons_zero, reduceCtorEq, not_false_eq_true, not_true_eq_false, false_and, true_and, and_true, and_false, false_or, true_or, or_true, or_false, if_true, if_false, eq_self, ↓reduceIte, Int.reduceEq, Int.reduceLT, Int.reduceLE, Int.reduceAdd, Int.reduceSub, Int.reduceMul, Int.reduceNeg, Int.reduceToNat, Nat.reduceLT, Nat.reduceAdd, Nat.reduceEqDiff, List.length_cons, List.length_nil, h_8]
      rw [mm]
      simp (disch := omega) only [r53_55, r53_58, sw_ldi, sw_ldl, sw_lda, sw_has1, sw_i1, sw_i2, sw_l1, sw_l2, sw_li, sw_r1, sw_ri, sw_rix, sw_rv, sw_pop, sw_set1, sw_set2, List.set_cons_zero, List.set_cons_succ, List.getElem?_cons_zero, List.getElem?_cons_succ, ald_1, ald_2, ast_1, ast_2, aln_1, aln_2, gf_1, gf_2, pf_1, pf_2, nw_1, ck_0, ck_1, ck_2, ck_3, ck_4, rr_1, rc_1, rc_2, K_i, K_l, K_v, I_add, I_sub, I_mul, I_div, I_em, I_eq0, I_lt0, I_0lt, I_le0, I_0le, I_eq, I_lt, I_le, I_a1, I_r1, I_eq1, I32_at, I32_s, Int.toNat_natCast, List.set_cons_zero, reduceCtorEq, not_false_eq_true, not_true_eq_false, false_and, true_and, and_true, and_false, false_or, true_or, or_true, or_false, if_true, if_false, eq_self, ↓reduceIte, Int.reduceEq, Int.reduceLT, Int.reduceLE, Int.reduceAdd, Int.reduceSub, Int.reduceMul, Int.reduceNeg, Int.reduceToNat, Nat.reduceLT, Nat.reduceAdd, Nat.reduceEqDiff, List.length_cons, List.length_nil]
theorem m53_l {t0 : Nat → Int} {st : Nat} {v : Int32} (hb0 : B01 t0) (hs : st < 36) : ∀ (n h z : Nat) (tr q : Nat → Int) (x y : Option Value), h + n = 36 → BQ t0 st tr q z h 0 → ∃ (tr2 q2 : Nat → Int) (h2 z2 : Nat), BU t0 st tr2 z2 ∧ sw_A 53 14 [some (.ref 8), some (.int v), some (.int (Int32.ofInt h)), x, y] [] (hW L A F T X tr q h z) Q = Q (some (some (.int (Int32.ofInt z2)))) (hW L A F T X tr2 q2 h2 z2)
  | n, h, z, tr, q, x, y, hn, b => by
    have bz := BQ_z hb0 b
    have hz := b.2.2.2.1
    have f3 : sw_s (sw_s F 3 (h : Int)) 4 (z : Int) 3 = h := rfl
    have f4 : sw_s (sw_s F 3 (h : Int)) 4 (z : Int) 4 = z := rfl
    have a15 : sw_s (sw_s A 11 tr) 15 q 15 = q := rfl
    by_cases c : h < z
    · match n, hn with
      | 0, hn => omega
      | n + 1, hn =>
        have qh := b.1 h c
        have mm := m52_14 (L := L) (A := sw_s (sw_s A 11 tr) 15 q) (F := sw_s (sw_s F 3 (h : Int)) 4 (z : Int)) (T := T) (X := X) (Q := sw_K 53 27 none [some (.ref 8), some (.int v), some (.int (Int32.ofInt h)), x, y] [] Q) (by rw [f4]; omega) (by rw [f3]; omega) (by rw [f3, f4]; omega)
        rw [f3, a15, Int.toNat_natCast] at mm
        obtain ⟨tr1, q1, z1, x1, g1, g2, g3⟩ := m53_d (L := L) (A := A) (F := F) (T := T) (X := X) (Q := Q) (v := v) hb0 (s := q h) 4 z 0 tr q (by omega) (by omega) c rfl b
        obtain ⟨tr2, q2, h2, z2, k1, k2⟩ := m53_l (v := v) hb0 hs n (h + 1) z1 tr1 q1 (some (.int (Int32.ofInt (q h)))) x1 (by omega) (BQ_nx g1 g2)
        refine ⟨tr2, q2, h2, z2, k1, Eq.trans ?_ (Eq.trans g3 k2)⟩
        unfold hW
        rw [r53_14]
        simp (disch := omega) only [r53_15, r53_17, r53_20, r53_21, r53_24, sw_ldi, sw_ldl, sw_lda, sw_has1, sw_i1, sw_i2, sw_l1, sw_l2, sw_li, sw_r1, sw_ri, sw_rix, sw_rv, sw_pop, sw_set1, sw_set2, List.set_cons_zero, List.set_cons_succ, List.getElem?_cons_zero, List.getElem?_cons_succ, ald_1, ald_2, ast_1, ast_2, aln_1, aln_2, gf_1, gf_2, pf_1, pf_2, nw_1, ck_0, ck_1, ck_2, ck_3, ck_4, rr_1, rc_1, rc_2, K_i, K_l, K_v, I_add, I_sub, I_mul, I_div, I_em, I_eq0, I_lt0, I_0lt, I_le0, I_0le, I_eq, I_lt, I_le, I_a1, I_r1, I_eq1, I32_at, I32_s, Int.toNat_natCast, List.set_cons_zero, reduceCtorEq, not_false_eq_true, not_true_eq_false, false_and, true_and, and_true, and_false, false_or, true_or, or_true, or_false, if_true, if_false, eq_self, ↓reduceIte, Int.reduceEq, Int.reduceLT, Int.reduceLE, Int.reduceAdd, Int.reduceSub, Int.reduceMul, Int.reduceNeg, Int.reduceToNat, Nat.reduceLT, Nat.reduceAdd, Nat.reduceEqDiff, List.length_cons, List.length_nil, h_8, h_14]
        rw [if_neg (by omega), mm]
        simp (disch := omega) only [r53_27, r53_28, r53_29, r53_30, sw_ldi, sw_ldl, sw_lda, sw_has1, sw_i1, sw_i2, sw_l1, sw_l2, sw_li, sw_r1, sw_ri, sw_rix, sw_rv, sw_pop, sw_set1, sw_set2, List.set_cons_zero, List.set_cons_succ, List.getElem?_cons_zero, List.getElem?_cons_succ, ald_1, ald_2, ast_1, ast_2, aln_1, aln_2, gf_1, gf_2, pf_1, pf_2, nw_1, ck_0, ck_1, ck_2, ck_3, ck_4, rr_1, rc_1, rc_2, K_i, K_l, K_v, I_add, I_sub, I_mul, I_div, I_em, I_eq0, I_lt0, I_0lt, I_le0, I_0le, I_eq, I_lt, I_le, I_a1, I_r1, I_eq1, I32_at, I32_s, Int.toNat_natCast, List.set_cons_zero, reduceCtorEq, not_false_eq_true, not_true_eq_false, false_and, true_and, and_true, and_false, false_or, true_or, or_true, or_false, if_true, if_false, eq_self, ↓reduceIte, Int.reduceEq, Int.reduceLT, Int.reduceLE, Int.reduceAdd, Int.reduceSub, Int.reduceMul, Int.reduceNeg, Int.reduceToNat, Nat.reduceLT, Nat.reduceAdd, Nat.reduceEqDiff, List.length_cons, List.length_nil, sA_at, ss, sA_cm]
        rw [if_pos (by omega)]
        simp (disch := omega) only [r53_36, r53_37, sw_ldi, sw_ldl, sw_lda, sw_has1, sw_i1, sw_i2, sw_l1, sw_l2, sw_li, sw_r1, sw_ri, sw_rix, sw_rv, sw_pop, sw_set1, sw_set2, List.set_cons_zero, List.set_cons_succ, List.getElem?_cons_zero, List.getElem?_cons_succ, ald_1, ald_2, ast_1, ast_2, aln_1, aln_2, gf_1, gf_2, pf_1, pf_2, nw_1, ck_0, ck_1, ck_2, ck_3, ck_4, rr_1, rc_1, rc_2, K_i, K_l, K_v, I_add, I_sub, I_mul, I_div, I_em, I_eq0, I_lt0, I_0lt, I_le0, I_0le, I_eq, I_lt, I_le, I_a1, I_r1, I_eq1, I32_at, I32_s, Int.toNat_natCast, List.set_cons_zero, reduceCtorEq, not_false_eq_true, not_true_eq_false, false_and, true_and, and_true, and_false, false_or, true_or, or_true, or_false, if_true, if_false, eq_self, ↓reduceIte, Int.reduceEq, Int.reduceLT, Int.reduceLE, Int.reduceAdd, Int.reduceSub, Int.reduceMul, Int.reduceNeg, Int.reduceToNat, Nat.reduceLT, Nat.reduceAdd, Nat.reduceEqDiff, List.length_cons, List.length_nil]
    · have e : h = z := by omega
      subst e
      have mm := m52_14_e (L := L) (A := sw_s (sw_s A 11 tr) 15 q) (F := sw_s (sw_s F 3 (h : Int)) 4 (h : Int)) (T := T) (X := X) (Q := sw_K 53 27 none [some (.ref 8), some (.int v), some (.int (Int32.ofInt h)), x, y] [] Q) (by rw [f4]; omega) (by rw [f4]; omega) (by rw [f3]; omega) (by rw [f3, f4]; omega)
      refine ⟨tr, q, h, h, BQ_U hb0 hs b, ?_⟩
      by_cases c36 : h = 36
      · subst c36
        unfold hW
        rw [r53_14]
        simp (disch := omega) only [r53_15, r53_17, r53_67, r53_68, r53_71, r53_74, sw_ldi, sw_ldl, sw_lda, sw_has1, sw_i1, sw_i2, sw_l1, sw_l2, sw_li, sw_r1, sw_ri, sw_rix, sw_rv, sw_pop, sw_set1, sw_set2, List.set_cons_zero, List.set_cons_succ, List.getElem?_cons_zero, List.getElem?_cons_succ, ald_1, ald_2, ast_1, ast_2, aln_1, aln_2, gf_1, gf_2, pf_1, pf_2, nw_1, ck_0, ck_1, ck_2, ck_3, ck_4, rr_1, rc_1, rc_2, K_i, K_l, K_v, I_add, I_sub, I_mul, I_div, I_em, I_eq0, I_lt0, I_0lt, I_le0, I_0le, I_eq, I_lt, I_le, I_a1, I_r1, I_eq1, I32_at, I32_s, Int.toNat_natCast, List.set_cons_zero, reduceCtorEq, not_false_eq_true, not_true_eq_false, false_and, true_and, and_true, and_false, false_or, true_or, or_true, or_false, if_true, if_false, eq_self, ↓reduceIte, Int.reduceEq, Int.reduceLT, Int.reduceLE, Int.reduceAdd, Int.reduceSub, Int.reduceMul, Int.reduceNeg, Int.reduceToNat, Nat.reduceLT, Nat.reduceAdd, Nat.reduceEqDiff, List.length_cons, List.length_nil, sA_at, ss, sA_cm, Int.le_refl, h_8, h_14]
        rw [if_pos (by omega)]
        rfl
      · unfold hW
        rw [r53_14]
        simp (disch := omega) only [r53_15, r53_17, r53_20, r53_21, r53_24, sw_ldi, sw_ldl, sw_lda, sw_has1, sw_i1, sw_i2, sw_l1, sw_l2, sw_li, sw_r1, sw_ri, sw_rix, sw_rv, sw_pop, sw_set1, sw_set2, List.set_cons_zero, List.set_cons_succ, List.getElem?_cons_zero, List.getElem?_cons_succ, ald_1, ald_2, ast_1, ast_2, aln_1, aln_2, gf_1, gf_2, pf_1, pf_2, nw_1, ck_0, ck_1, ck_2, ck_3, ck_4, rr_1, rc_1, rc_2, K_i, K_l, K_v, I_add, I_sub, I_mul, I_div, I_em, I_eq0, I_lt0, I_0lt, I_le0, I_0le, I_eq, I_lt, I_le, I_a1, I_r1, I_eq1, I32_at, I32_s, Int.toNat_natCast, List.set_cons_zero, reduceCtorEq, not_false_eq_true, not_true_eq_false, false_and, true_and, and_true, and_false, false_or, true_or, or_true, or_false, if_true, if_false, eq_self, ↓reduceIte, Int.reduceEq, Int.reduceLT, Int.reduceLE, Int.reduceAdd, Int.reduceSub, Int.reduceMul, Int.reduceNeg, Int.reduceToNat, Nat.reduceLT, Nat.reduceAdd, Nat.reduceEqDiff, List.length_cons, List.length_nil, h_8, h_14]
        rw [if_neg (by omega), mm]
        simp (disch := omega) only [r53_27, r53_28, r53_29, r53_30, r53_33, r53_67, r53_68, r53_71, r53_74, sw_ldi, sw_ldl, sw_lda, sw_has1, sw_i1, sw_i2, sw_l1, sw_l2, sw_li, sw_r1, sw_ri, sw_rix, sw_rv, sw_pop, sw_set1, sw_set2, List.set_cons_zero, List.set_cons_succ, List.getElem?_cons_zero, List.getElem?_cons_succ, ald_1, ald_2, ast_1, ast_2, aln_1, aln_2, gf_1, gf_2, pf_1, pf_2, nw_1, ck_0, ck_1, ck_2, ck_3, ck_4, rr_1, rc_1, rc_2, K_i, K_l, K_v, I_add, I_sub, I_mul, I_div, I_em, I_eq0, I_lt0, I_0lt, I_le0, I_0le, I_eq, I_lt, I_le, I_a1, I_r1, I_eq1, I32_at, I32_s, Int.toNat_natCast, List.set_cons_zero, reduceCtorEq, not_false_eq_true, not_true_eq_false, false_and, true_and, and_true, and_false, false_or, true_or, or_true, or_false, if_true, if_false, eq_self, ↓reduceIte, Int.reduceEq, Int.reduceLT, Int.reduceLE, Int.reduceAdd, Int.reduceSub, Int.reduceMul, Int.reduceNeg, Int.reduceToNat, Nat.reduceLT, Nat.reduceAdd, Nat.reduceEqDiff, List.length_cons, List.length_nil, sA_at, ss, sA_cm, h_8, h_14, f4]
/-- burn -/
theorem m53 {st : Nat} (hb0 : B01 (A 11)) (hs : st < 36) : ∃ (tr q : Nat → Int) (h z : Nat), BU (A 11) st tr z ∧ sw_M 53 [.ref 8, .int (Int32.ofInt st)] (sw_h L A F T X) Q = Q (some (some (.int (Int32.ofInt z)))) (hW L A F T X tr q h z) := by
  have i1 : sw_h L A (sw_s (sw_s F 3 0) 4 0) T X = hW L A F T X (A 11) (A 15) 0 0 := by
    unfold hW
    rw [sA_id, sA_id]
  by_cases c : A 11 st = 0
  · have b0 : BQ (A 11) st (A 11) (A 15) 0 0 0 := ⟨fun j hj => absurd hj (Nat.not_lt_zero _), fun t _ => Or.inl rfl, by omega, Nat.le_refl _, fun j d hj => absurd hj (Nat.not_lt_zero _), c⟩
    obtain ⟨tr, q, h, z, k1, k2⟩ := m53_l (L := L) (A := A) (F := F) (T := T) (X := X) (Q := Q) (v := Int32.ofInt st) hb0 hs 36 0 0 (A 11) (A 15) none none (by omega) b0
    refine ⟨tr, q, h, z, k1, Eq.trans ?_ k2⟩
    have mm := m51_no (L := L) (A := A) (F := F) (T := T) (X := X) (Q := sw_K 53 12 none [some (.ref 8), some (.int (Int32.ofInt st)), none, none, none] [] Q) (tr := A 11) (q := A 15) (h := 0) (z := 0) (s := st) (Or.inr ⟨by omega, by omega, by rw [Int.toNat_natCast]; exact c⟩)
    rw [← i1] at mm
    rw [e53]
    simp (disch := omega) only [r53_0, r53_1, r53_4, r53_7, r53_8, r53_9, sw_ldi, sw_ldl, sw_lda, sw_has1, sw_i1, sw_i2, sw_l1, sw_l2, sw_li, sw_r1, sw_ri, sw_rix, sw_rv, sw_pop, sw_set1, sw_set2, List.set_cons_zero, List.set_cons_succ, List.getElem?_cons_zero, List.getElem?_cons_succ, ald_1, ald_2, ast_1, ast_2, aln_1, aln_2, gf_1, gf_2, pf_1, pf_2, nw_1, ck_0, ck_1, ck_2, ck_3, ck_4, rr_1, rc_1, rc_2, K_i, K_l, K_v, I_add, I_sub, I_mul, I_div, I_em, I_eq0, I_lt0, I_0lt, I_le0, I_0le, I_eq, I_lt, I_le, I_a1, I_r1, I_eq1, I32_at, I32_s, Int.toNat_natCast, List.set_cons_zero, reduceCtorEq, not_false_eq_true, not_true_eq_false, false_and, true_and, and_true, and_false, false_or, true_or, or_true, or_false, if_true, if_false, eq_self, ↓reduceIte, Int.reduceEq, Int.reduceLT, Int.reduceLE, Int.reduceAdd, Int.reduceSub, Int.reduceMul, Int.reduceNeg, Int.reduceToNat, Nat.reduceLT, Nat.reduceAdd, Nat.reduceEqDiff, List.length_cons, List.length_nil, h_8, h_14, m49_14]
    rw [mm]
    simp (disch := omega) only [r53_12, r53_13, sw_ldi, sw_ldl, sw_lda, sw_has1, sw_i1, sw_i2, sw_l1, sw_l2, sw_li, sw_r1, sw_ri, sw_rix, sw_rv, sw_pop, sw_set1, sw_set2, List.set_cons_zero, List.set_cons_succ, List.getElem?_cons_zero, List.getElem?_cons_succ, ald_1, ald_2, ast_1, ast_2, aln_1, aln_2, gf_1, gf_2, pf_1, pf_2, nw_1, ck_0, ck_1, ck_2, ck_3, ck_4, rr_1, rc_1, rc_2, K_i, K_l, K_v, I_add, I_sub, I_mul, I_div, I_em, I_eq0, I_lt0, I_0lt, I_le0, I_0le, I_eq, I_lt, I_le, I_a1, I_r1, I_eq1, I32_at, I32_s, Int.toNat_natCast, List.set_cons_zero, reduceCtorEq, not_false_eq_true, not_true_eq_false, false_and, true_and, and_true, and_false, false_or, true_or, or_true, or_false, if_true, if_false, eq_self, ↓reduceIte, Int.reduceEq, Int.reduceLT, Int.reduceLE, Int.reduceAdd, Int.reduceSub, Int.reduceMul, Int.reduceNeg, Int.reduceToNat, Nat.reduceLT, Nat.reduceAdd, Nat.reduceEqDiff, List.length_cons, List.length_nil]
    rw [i1]
    rfl
  · have c1 : A 11 st = 1 := by
      rcases hb0 st hs with e | e
      · exact absurd e c
      · exact e
    have b0 : BQ (A 11) st (sw_s (A 11) st 0) (sw_s (A 15) 0 (st : Int)) 1 0 0 := by
      refine ⟨fun j hj => ?_, fun t ht => ?_, ?_, Nat.zero_le _, fun j d hj d0 d9 hd => by omega, sE⟩
      · have : j = 0 := by omega
        subst this
        rw [sE, Int.toNat_natCast]
        exact ⟨by omega, by omega, c1, sE, fun P p0 _ => p0 c1⟩
      · by_cases e : t = st
        · subst e
          exact Or.inr ⟨c1, sE, 0, by omega, sE⟩
        · exact Or.inl (if_neg e)
      · rw [sm_s, if_pos hs, c1]; omega
    obtain ⟨tr, q, h, z, k1, k2⟩ := m53_l (L := L) (A := A) (F := F) (T := T) (X := X) (Q := Q) (v := Int32.ofInt st) hb0 hs 36 0 1 _ _ none none (by omega) b0
    refine ⟨tr, q, h, z, k1, Eq.trans ?_ k2⟩
    have mm := m51_up (L := L) (A := A) (F := F) (T := T) (X := X) (Q := sw_K 53 12 none [some (.ref 8), some (.int (Int32.ofInt st)), none, none, none] [] Q) (tr := A 11) (q := A 15) (h := 0) (s := st) (z := 0) hs (by omega) c1
    have i2 : hW L A F T X (A 11) (A 15) 0 ((0 : Nat) : Int) = sw_h L A (sw_s (sw_s F 3 0) 4 0) T X := i1.symm
    rw [i2] at mm
    rw [e53]
    simp (disch := omega) only [r53_0, r53_1, r53_4, r53_7, r53_8, r53_9, sw_ldi, sw_ldl, sw_lda, sw_has1, sw_i1, sw_i2, sw_l1, sw_l2, sw_li, sw_r1, sw_ri, sw_rix, sw_rv, sw_pop, sw_set1, sw_set2, List.set_cons_zero, List.set_cons_succ, List.getElem?_cons_zero, List.getElem?_cons_succ, ald_1, ald_2, ast_1, ast_2, aln_1, aln_2, gf_1, gf_2, pf_1, pf_2, nw_1, ck_0, ck_1, ck_2, ck_3, ck_4, rr_1, rc_1, rc_2, K_i, K_l, K_v, I_add, I_sub, I_mul, I_div, I_em, I_eq0, I_lt0, I_0lt, I_le0, I_0le, I_eq, I_lt, I_le, I_a1, I_r1, I_eq1, I32_at, I32_s, Int.toNat_natCast, List.set_cons_zero, reduceCtorEq, not_false_eq_true, not_true_eq_false, false_and, true_and, and_true, and_false, false_or, true_or, or_true, or_false, if_true, if_false, eq_self, ↓reduceIte, Int.reduceEq, Int.reduceLT, Int.reduceLE, Int.reduceAdd, Int.reduceSub, Int.reduceMul, Int.reduceNeg, Int.reduceToNat, Nat.reduceLT, Nat.reduceAdd, Nat.reduceEqDiff, List.length_cons, List.length_nil, h_8, h_14, m49_14]
    rw [mm]
    simp (disch := omega) only [r53_12, r53_13, sw_ldi, sw_ldl, sw_lda, sw_has1, sw_i1, sw_i2, sw_l1, sw_l2, sw_li, sw_r1, sw_ri, sw_rix, sw_rv, sw_pop, sw_set1, sw_set2, List.set_cons_zero, List.set_cons_succ, List.getElem?_cons_zero, List.getElem?_cons_succ, ald_1, ald_2, ast_1, ast_2, aln_1, aln_2, gf_1, gf_2, pf_1, pf_2, nw_1, ck_0, ck_1, ck_2, ck_3, ck_4, rr_1, rc_1, rc_2, K_i, K_l, K_v, I_add, I_sub, I_mul, I_div, I_em, I_eq0, I_lt0, I_0lt, I_le0, I_0le, I_eq, I_lt, I_le, I_a1, I_r1, I_eq1, I32_at, I32_s, Int.toNat_natCast, List.set_cons_zero, reduceCtorEq, not_false_eq_true, not_true_eq_false, false_and, true_and, and_true, and_false, false_or, true_or, or_true, or_false, if_true, if_false, eq_self, ↓reduceIte, Int.reduceEq, Int.reduceLT, Int.reduceLE, Int.reduceAdd, Int.reduceSub, Int.reduceMul, Int.reduceNeg, Int.reduceToNat, Nat.reduceLT, Nat.reduceAdd, Nat.reduceEqDiff, List.length_cons, List.length_nil]
    rfl
/-- lightning -/
theorem m54 {st : Nat} (hb0 : B01 (A 11)) (hs : st < 36)
    (hQ : ∀ (tr q : Nat → Int) (G : Nat → Int) (z : Nat), BU (A 11) st tr z → G 0 = F 0 → Q (some (some (.int (Int32.ofInt z)))) (sw_h L (sw_s (sw_s A 11 tr) 15 q) G T X)) :
    sw_M 54 [.ref 1, .int (Int32.ofInt st)] (sw_h L A F T X) Q := by
  obtain ⟨tr, q, h, z, k1, k2⟩ := m53 (L := L) (A := A) (F := F) (T := T) (X := X) (Q := sw_K 54 12 none [some (.ref 1), some (.int (Int32.ofInt st))] [] Q) hb0 hs
  have hq := hQ tr q (sw_s (sw_s F 3 (h : Int)) 4 (z : Int)) z k1 rfl
  rw [e54]
  simp (disch := omega) only [r54_0, r54_1, r54_4, r54_5, r54_8, r54_9, sw_ldi, sw_ldl, sw_lda, sw_has1, sw_i1, sw_i2, sw_l1, sw_l2, sw_li, sw_r1, sw_ri, sw_rix, sw_rv, sw_pop, sw_set1, sw_set2, List.set_cons_zero, List.set_cons_succ, List.getElem?_cons_zero, List.getElem?_cons_succ, ald_1, ald_2, ast_1, ast_2, aln_1, aln_2, gf_1, gf_2, pf_1, pf_2, nw_1, ck_0, ck_1, ck_2, ck_3, ck_4, rr_1, rc_1, rc_2, K_i, K_l, K_v, I_add, I_sub, I_mul, I_div, I_em, I_eq0, I_lt0, I_0lt, I_le0, I_0le, I_eq, I_lt, I_le, I_a1, I_r1, I_eq1, I32_at, I32_s, Int.toNat_natCast, List.set_cons_zero, reduceCtorEq, not_false_eq_true, not_true_eq_false, false_and, true_and, and_true, and_false, false_or, true_or, or_true, or_false, if_true, if_false, eq_self, ↓reduceIte, Int.reduceEq, Int.reduceLT, Int.reduceLE, Int.reduceAdd, Int.reduceSub, Int.reduceMul, Int.reduceNeg, Int.reduceToNat, Nat.reduceLT, Nat.reduceAdd, Nat.reduceEqDiff, List.length_cons, List.length_nil, m25, h_1, h_8]
  rw [k2]
  simp (disch := omega) only [r54_12, sw_ldi, sw_ldl, sw_lda, sw_has1, sw_i1, sw_i2, sw_l1, sw_l2, sw_li, sw_r1, sw_ri, sw_rix, sw_rv, sw_pop, sw_set1, sw_set2, List.set_cons_zero, List.set_cons_succ, List.getElem?_cons_zero, List.getElem?_cons_succ, ald_1, ald_2, ast_1, ast_2, aln_1, aln_2, gf_1, gf_2, pf_1, pf_2, nw_1, ck_0, ck_1, ck_2, ck_3, ck_4, rr_1, rc_1, rc_2, K_i, K_l, K_v, I_add, I_sub, I_mul, I_div, I_em, I_eq0, I_lt0, I_0lt, I_le0, I_0le, I_eq, I_lt, I_le, I_a1, I_r1, I_eq1, I32_at, I32_s, Int.toNat_natCast, List.set_cons_zero, reduceCtorEq, not_false_eq_true, not_true_eq_false, false_and, true_and, and_true, and_false, false_or, true_or, or_true, or_false, if_true, if_false, eq_self, ↓reduceIte, Int.reduceEq, Int.reduceLT, Int.reduceLE, Int.reduceAdd, Int.reduceSub, Int.reduceMul, Int.reduceNeg, Int.reduceToNat, Nat.reduceLT, Nat.reduceAdd, Nat.reduceEqDiff, List.length_cons, List.length_nil]
  exact hq
/-- what flood gives is what burns -/
theorem Fl_BU {t0 tr : Nat → Int} {st : Nat} {c : Int} {set r : Int64} (hs : st < 36) (ht : ∀ t, t < 36 → bi (hb set t) = t0 t) (b : BU t0 st tr c) (f : Fl set (set &&& wb 0 st) r) : (∀ t, t < 36 → bi (hb r t) = t0 t - tr t) ∧ sm (fun t => bi (hb r t)) 36 = c := by
  obtain ⟨f1, f2, f3⟩ := f
  have t1 : ∀ t, t < 36 → (t0 t = 1 ↔ hb set t = true) := fun t h36 => by rw [← ht t h36, bi_1]
  have st1 : ∀ i, i < 64 → (hb (set &&& wb 0 st) i = true ↔ (i = st ∧ hb set i = true)) := fun i hi2 => by
    rw [hb_and, hb_wb 0 st i (by omega) hi2, hb_0, Bool.false_or, Bool.and_eq_true, decide_eq_true_iff]
    exact ⟨fun q => ⟨q.2, q.1⟩, fun q => ⟨q.2, q.1⟩⟩
  have up : ∀ i, i < 64 → hb r i = true → i < 36 ∧ Rb t0 st i ∧ t0 i = 1 := fun i hi2 q => f3 (fun i => i < 36 ∧ Rb t0 st i ∧ t0 i = 1) (fun i hi3 z => by
    have z := (st1 i hi3).mp z
    obtain ⟨rfl, z2⟩ := z
    exact ⟨hs, fun P p0 _ => p0 ((t1 _ hs).mpr z2), (t1 _ hs).mpr z2⟩) (fun s hs2 z ⟨u, hu, nb, p1, p2, p3⟩ => ⟨hs2, fun P p0 ps => ps u s hu hs2 (p2 P p0 ps) (Nb_s hs2 nb) ((t1 s hs2).mpr z), (t1 s hs2).mpr z⟩) i hi2 q
  have dn : ∀ t, t < 36 → Rb t0 st t → t0 t = 1 → hb r t = true := fun t h36 q _ => by
    refine q (fun u => hb r u = true) (fun z => f1 st (by omega) ((st1 st (by omega)).mpr ⟨rfl, (t1 st hs).mp z⟩)) (fun s u hs2 hu p nb z => f2 u hu ((t1 u hu).mp z) ⟨s, hs2, Nb_s hs2 nb, p⟩)
  have key : ∀ t, t < 36 → bi (hb r t) = t0 t - tr t := fun t h36 => by
    rcases b.1 t h36 with ⟨e, q⟩ | ⟨e1, e2, q⟩
    · rw [e, Int.sub_self, bi_0]
      cases z : hb r t with
      | false => rfl
      | true =>
        have := up t (by omega) z
        rcases q with q | q
        · exact absurd this.2.1 q
        · omega
    · rw [e1, e2, dn t h36 q e1]
      rfl
  refine ⟨key, ?_⟩
  have e1 : sm (fun t => bi (hb r t)) 36 = sm (fun t => t0 t - tr t) 36 := sm_c 36 key
  have e2 : ∀ n, sm (fun t => t0 t - tr t) n = sm t0 n - sm tr n := fun n => by
    induction n with
    | zero => rfl
    | succ n ih =>
      unfold sm
      rw [ih]
      omega
  have := b.2
  rw [e1, e2]
  omega
end sw_bu
